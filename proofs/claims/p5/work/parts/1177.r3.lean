noncomputable section
/-! T3: rules (printed by wip/v5/gen/rules4.py) -/
def r_c_init : eRul := (6, [xP 3 [xv 0, ([], 0), ([], 19), ([], 0), ([], 0)], xP 3 [xv 1, ([], 0), ([], 6), ([], 0), ([], 0)], xP 3 [xv 2, ([], 0), ([], 6), ([], -1), ([], -1)], (.inl [[(0, 940)]], [xv 3])], 0, [xP 65 [xv 4, xv 3, ([], 0), ([], 0), ([], 0), xv 0, xv 1, xv 2, xv 5, ([], 0), ([], 0), ([], 0), ([], 7), ([], 3), ([], 15), ([], 0), ([], 0), ([], 0)]])
theorem r_c_init_ok : ruOk r_c_init := by
  intro ρ hl0 hp
  obtain ⟨zn, t0, rfl, hl1⟩ := len_inv hl0
  obtain ⟨zf, t1, rfl, hl2⟩ := len_inv hl1
  obtain ⟨zs, t2, rfl, hl3⟩ := len_inv hl2
  obtain ⟨n, t3, rfl, hl4⟩ := len_inv hl3
  obtain ⟨z, t4, rfl, hl5⟩ := len_inv hl4
  obtain ⟨zt, t5, rfl, hl6⟩ := len_inv hl5
  have hl := List.eq_nil_of_length_eq_zero hl6
  subst hl
  have p1 := p_get (fOk_hd hp)
  have p2 := p_get (fOk_hd (fOk_tl hp))
  have p3 := p_get (fOk_hd (fOk_tl (fOk_tl hp)))
  have p4 := i_get (fOk_hd (fOk_tl (fOk_tl (fOk_tl hp))))
  simp only [List.map, xv, fev, fvl, gtI, Int.one_mul, Int.add_zero, Int.zero_add, PR] at p1 p2 p3 p4
  have q := k_c_init (zn := zn) (zf := zf) (zs := zs) (n := n) (z := z) (zt := zt) p1 p2 p3 p4
  refine ⟨[], rfl, fOk_cons (p_put3 rfl (by decide) ?_) fOk_nil⟩ <;> simp only [List.map, xv, fev, fvl, gtI, Int.one_mul, Int.add_zero, Int.zero_add, List.append_nil]
  exact ⟨rfl, q⟩
def r_c_lx : eRul := (16, [xP 65 [xv 0, xv 1, ([], 0), xv 2, xv 3, xv 4, xv 5, xv 6, xv 7, xv 8, xv 9, xv 10, xv 11, xv 12, xv 13, xv 14, xv 15, ([], 0)], (.inl [[(0, 940)]], [xv 1]), xG (([(3, -1)], 901))], 0, [xG (([], 1))])
theorem r_c_lx_ok : ruOk r_c_lx := by
  intro ρ hl0 hp
  obtain ⟨z, t0, rfl, hl1⟩ := len_inv hl0
  obtain ⟨n, t1, rfl, hl2⟩ := len_inv hl1
  obtain ⟨p, t2, rfl, hl3⟩ := len_inv hl2
  obtain ⟨k, t3, rfl, hl4⟩ := len_inv hl3
  obtain ⟨zn, t4, rfl, hl5⟩ := len_inv hl4
  obtain ⟨zf, t5, rfl, hl6⟩ := len_inv hl5
  obtain ⟨zs, t6, rfl, hl7⟩ := len_inv hl6
  obtain ⟨zt, t7, rfl, hl8⟩ := len_inv hl7
  obtain ⟨h, t8, rfl, hl9⟩ := len_inv hl8
  obtain ⟨r, t9, rfl, hl10⟩ := len_inv hl9
  obtain ⟨g, t10, rfl, hl11⟩ := len_inv hl10
  obtain ⟨ev, t11, rfl, hl12⟩ := len_inv hl11
  obtain ⟨ri, t12, rfl, hl13⟩ := len_inv hl12
  obtain ⟨ml, t13, rfl, hl14⟩ := len_inv hl13
  obtain ⟨so, t14, rfl, hl15⟩ := len_inv hl14
  obtain ⟨t, t15, rfl, hl16⟩ := len_inv hl15
  have hl := List.eq_nil_of_length_eq_zero hl16
  subst hl
  have p1 := p_get3 (by decide) (fOk_hd hp)
  have p2 := i_get (fOk_hd (fOk_tl hp))
  have p3 := gg_get (fOk_hd (fOk_tl (fOk_tl hp)))
  simp only [List.map, xv, fev, fvl, gtI, Int.one_mul, Int.add_zero, Int.zero_add] at p1 p2 p3
  exact (k_c_lx (q3 p1) p2 p3).elim
def r_c_le : eRul := (16, [xP 65 [xv 0, xv 1, ([], 0), xv 2, xv 3, xv 4, xv 5, xv 6, xv 7, xv 8, xv 9, xv 10, xv 11, xv 12, xv 13, xv 14, xv 15, ([], 0)], (.inl [[(0, 940)]], [xv 1])], 0, [xG (([(3, 2)], -940)), xG (([(3, -1)], 0))])
theorem r_c_le_ok : ruOk r_c_le := by
  intro ρ hl0 hp
  obtain ⟨z, t0, rfl, hl1⟩ := len_inv hl0
  obtain ⟨n, t1, rfl, hl2⟩ := len_inv hl1
  obtain ⟨p, t2, rfl, hl3⟩ := len_inv hl2
  obtain ⟨k, t3, rfl, hl4⟩ := len_inv hl3
  obtain ⟨zn, t4, rfl, hl5⟩ := len_inv hl4
  obtain ⟨zf, t5, rfl, hl6⟩ := len_inv hl5
  obtain ⟨zs, t6, rfl, hl7⟩ := len_inv hl6
  obtain ⟨zt, t7, rfl, hl8⟩ := len_inv hl7
  obtain ⟨h, t8, rfl, hl9⟩ := len_inv hl8
  obtain ⟨r, t9, rfl, hl10⟩ := len_inv hl9
  obtain ⟨g, t10, rfl, hl11⟩ := len_inv hl10
  obtain ⟨ev, t11, rfl, hl12⟩ := len_inv hl11
  obtain ⟨ri, t12, rfl, hl13⟩ := len_inv hl12
  obtain ⟨ml, t13, rfl, hl14⟩ := len_inv hl13
  obtain ⟨so, t14, rfl, hl15⟩ := len_inv hl14
  obtain ⟨t, t15, rfl, hl16⟩ := len_inv hl15
  have hl := List.eq_nil_of_length_eq_zero hl16
  subst hl
  have p1 := p_get3 (by decide) (fOk_hd hp)
  have p2 := i_get (fOk_hd (fOk_tl hp))
  simp only [List.map, xv, fev, fvl, gtI, Int.one_mul, Int.add_zero, Int.zero_add] at p1 p2
  have q := k_c_le (z := z) (n := n) (p := p) (k := k) (zn := zn) (zf := zf) (zs := zs) (zt := zt) (h := h) (r := r) (g := g) (ev := ev) (ri := ri) (ml := ml) (so := so) (t := t) (q3 p1) p2
  refine ⟨[], rfl, fOk_cons (gg_put rfl ?_ ?_) (fOk_cons (gg_put rfl ?_ ?_) fOk_nil)⟩ <;> simp only [List.map, xv, fev, fvl, gtI, Int.one_mul, Int.add_zero, Int.zero_add, List.append_nil]
  · exact q.1
  · exact q.2.1
  · exact q.2.2.1
  · exact q.2.2.2
def r_c0_end : eRul := (22, [xP 65 [xv 0, xv 1, ([], 0), xv 2, xv 3, xv 4, xv 5, xv 6, xv 7, xv 8, xv 9, xv 10, xv 11, xv 12, xv 13, xv 14, xv 15, ([], 0)], xP 53 [xv 0, xv 1, ([], 900), xv 2, xv 16, xv 17, xv 18, xv 19, xv 20, xv 21], (.inl [[(1, 1)]], [xv 16])], 0, [xP 64 [xv 0, xv 1, xv 3, ([], 0)]])
theorem r_c0_end_ok : ruOk r_c0_end := by
  intro ρ hl0 hp
  obtain ⟨z, t0, rfl, hl1⟩ := len_inv hl0
  obtain ⟨n, t1, rfl, hl2⟩ := len_inv hl1
  obtain ⟨p, t2, rfl, hl3⟩ := len_inv hl2
  obtain ⟨k, t3, rfl, hl4⟩ := len_inv hl3
  obtain ⟨zn, t4, rfl, hl5⟩ := len_inv hl4
  obtain ⟨zf, t5, rfl, hl6⟩ := len_inv hl5
  obtain ⟨zs, t6, rfl, hl7⟩ := len_inv hl6
  obtain ⟨zt, t7, rfl, hl8⟩ := len_inv hl7
  obtain ⟨h, t8, rfl, hl9⟩ := len_inv hl8
  obtain ⟨r, t9, rfl, hl10⟩ := len_inv hl9
  obtain ⟨g, t10, rfl, hl11⟩ := len_inv hl10
  obtain ⟨ev, t11, rfl, hl12⟩ := len_inv hl11
  obtain ⟨ri, t12, rfl, hl13⟩ := len_inv hl12
  obtain ⟨ml, t13, rfl, hl14⟩ := len_inv hl13
  obtain ⟨so, t14, rfl, hl15⟩ := len_inv hl14
  obtain ⟨t, t15, rfl, hl16⟩ := len_inv hl15
  obtain ⟨kd, t16, rfl, hl17⟩ := len_inv hl16
  obtain ⟨pl, t17, rfl, hl18⟩ := len_inv hl17
  obtain ⟨f, t18, rfl, hl19⟩ := len_inv hl18
  obtain ⟨kw, t19, rfl, hl20⟩ := len_inv hl19
  obtain ⟨v, t20, rfl, hl21⟩ := len_inv hl20
  obtain ⟨w, t21, rfl, hl22⟩ := len_inv hl21
  have hl := List.eq_nil_of_length_eq_zero hl22
  subst hl
  have p1 := p_get3 (by decide) (fOk_hd hp)
  have p2 := p_get3 (by decide) (fOk_hd (fOk_tl hp))
  have p3 := i_get (fOk_hd (fOk_tl (fOk_tl hp)))
  simp only [List.map, xv, fev, fvl, gtI, Int.one_mul, Int.add_zero, Int.zero_add] at p1 p2 p3
  have q := k_c0_end (z := z) (n := n) (p := p) (k := k) (zn := zn) (zf := zf) (zs := zs) (zt := zt) (h := h) (r := r) (g := g) (ev := ev) (ri := ri) (ml := ml) (so := so) (t := t) (kd := kd) (pl := pl) (f := f) (kw := kw) (v := v) (w := w) (q3 p1) p2 p3
  refine ⟨[], rfl, fOk_cons (p_put3 rfl (by decide) ?_) fOk_nil⟩ <;> simp only [List.map, xv, fev, fvl, gtI, Int.one_mul, Int.add_zero, Int.zero_add, List.append_nil]
  exact q
def r_c0_bad1 : eRul := (22, [xP 65 [xv 0, xv 1, ([], 0), xv 2, xv 3, xv 4, xv 5, xv 6, xv 7, xv 8, xv 9, xv 10, xv 11, xv 12, xv 13, xv 14, xv 15, ([], 0)], xP 53 [xv 0, xv 1, ([], 900), xv 2, xv 16, xv 17, xv 18, xv 19, xv 20, xv 21], xP 85 [xv 16], xG (([(19, 1)], 1))], 0, [xP 64 [xv 0, xv 1, ([(17, -1)], -1), ([], 1)]])
theorem r_c0_bad1_ok : ruOk r_c0_bad1 := by
  intro ρ hl0 hp
  obtain ⟨z, t0, rfl, hl1⟩ := len_inv hl0
  obtain ⟨n, t1, rfl, hl2⟩ := len_inv hl1
  obtain ⟨p, t2, rfl, hl3⟩ := len_inv hl2
  obtain ⟨k, t3, rfl, hl4⟩ := len_inv hl3
  obtain ⟨zn, t4, rfl, hl5⟩ := len_inv hl4
  obtain ⟨zf, t5, rfl, hl6⟩ := len_inv hl5
  obtain ⟨zs, t6, rfl, hl7⟩ := len_inv hl6
  obtain ⟨zt, t7, rfl, hl8⟩ := len_inv hl7
  obtain ⟨h, t8, rfl, hl9⟩ := len_inv hl8
  obtain ⟨r, t9, rfl, hl10⟩ := len_inv hl9
  obtain ⟨g, t10, rfl, hl11⟩ := len_inv hl10
  obtain ⟨ev, t11, rfl, hl12⟩ := len_inv hl11
  obtain ⟨ri, t12, rfl, hl13⟩ := len_inv hl12
  obtain ⟨ml, t13, rfl, hl14⟩ := len_inv hl13
  obtain ⟨so, t14, rfl, hl15⟩ := len_inv hl14
  obtain ⟨t, t15, rfl, hl16⟩ := len_inv hl15
  obtain ⟨kd, t16, rfl, hl17⟩ := len_inv hl16
  obtain ⟨pl, t17, rfl, hl18⟩ := len_inv hl17
  obtain ⟨f, t18, rfl, hl19⟩ := len_inv hl18
  obtain ⟨kw, t19, rfl, hl20⟩ := len_inv hl19
  obtain ⟨v, t20, rfl, hl21⟩ := len_inv hl20
  obtain ⟨w, t21, rfl, hl22⟩ := len_inv hl21
  have hl := List.eq_nil_of_length_eq_zero hl22
  subst hl
  have p1 := p_get3 (by decide) (fOk_hd hp)
  have p2 := p_get3 (by decide) (fOk_hd (fOk_tl hp))
  have p3 := p_get3 (by decide) (fOk_hd (fOk_tl (fOk_tl hp)))
  have p4 := gg_get (fOk_hd (fOk_tl (fOk_tl (fOk_tl hp))))
  simp only [List.map, xv, fev, fvl, gtI, Int.one_mul, Int.add_zero, Int.zero_add] at p1 p2 p3 p4
  have q := k_c0_bad1 (z := z) (n := n) (p := p) (k := k) (zn := zn) (zf := zf) (zs := zs) (zt := zt) (h := h) (r := r) (g := g) (ev := ev) (ri := ri) (ml := ml) (so := so) (t := t) (kd := kd) (pl := pl) (f := f) (kw := kw) (v := v) (w := w) (q3 p1) p2 p3 p4
  refine ⟨[], rfl, fOk_cons (p_put3 rfl (by decide) ?_) fOk_nil⟩ <;> simp only [List.map, xv, fev, fvl, gtI, Int.one_mul, Int.add_zero, Int.zero_add, List.append_nil]
  exact q
def r_c0_bad2 : eRul := (22, [xP 65 [xv 0, xv 1, ([], 0), xv 2, xv 3, xv 4, xv 5, xv 6, xv 7, xv 8, xv 9, xv 10, xv 11, xv 12, xv 13, xv 14, xv 15, ([], 0)], xP 53 [xv 0, xv 1, ([], 900), xv 2, xv 16, xv 17, xv 18, xv 19, xv 20, xv 21], xG (([(19, -1)], 9))], 0, [xP 64 [xv 0, xv 1, ([(17, -1)], -1), ([], 1)]])
theorem r_c0_bad2_ok : ruOk r_c0_bad2 := by
  intro ρ hl0 hp
  obtain ⟨z, t0, rfl, hl1⟩ := len_inv hl0
  obtain ⟨n, t1, rfl, hl2⟩ := len_inv hl1
  obtain ⟨p, t2, rfl, hl3⟩ := len_inv hl2
  obtain ⟨k, t3, rfl, hl4⟩ := len_inv hl3
  obtain ⟨zn, t4, rfl, hl5⟩ := len_inv hl4
  obtain ⟨zf, t5, rfl, hl6⟩ := len_inv hl5
  obtain ⟨zs, t6, rfl, hl7⟩ := len_inv hl6
  obtain ⟨zt, t7, rfl, hl8⟩ := len_inv hl7
  obtain ⟨h, t8, rfl, hl9⟩ := len_inv hl8
  obtain ⟨r, t9, rfl, hl10⟩ := len_inv hl9
  obtain ⟨g, t10, rfl, hl11⟩ := len_inv hl10
  obtain ⟨ev, t11, rfl, hl12⟩ := len_inv hl11
  obtain ⟨ri, t12, rfl, hl13⟩ := len_inv hl12
  obtain ⟨ml, t13, rfl, hl14⟩ := len_inv hl13
  obtain ⟨so, t14, rfl, hl15⟩ := len_inv hl14
  obtain ⟨t, t15, rfl, hl16⟩ := len_inv hl15
  obtain ⟨kd, t16, rfl, hl17⟩ := len_inv hl16
  obtain ⟨pl, t17, rfl, hl18⟩ := len_inv hl17
  obtain ⟨f, t18, rfl, hl19⟩ := len_inv hl18
  obtain ⟨kw, t19, rfl, hl20⟩ := len_inv hl19
  obtain ⟨v, t20, rfl, hl21⟩ := len_inv hl20
  obtain ⟨w, t21, rfl, hl22⟩ := len_inv hl21
  have hl := List.eq_nil_of_length_eq_zero hl22
  subst hl
  have p1 := p_get3 (by decide) (fOk_hd hp)
  have p2 := p_get3 (by decide) (fOk_hd (fOk_tl hp))
  have p3 := gg_get (fOk_hd (fOk_tl (fOk_tl hp)))
  simp only [List.map, xv, fev, fvl, gtI, Int.one_mul, Int.add_zero, Int.zero_add] at p1 p2 p3
  have q := k_c0_bad2 (z := z) (n := n) (p := p) (k := k) (zn := zn) (zf := zf) (zs := zs) (zt := zt) (h := h) (r := r) (g := g) (ev := ev) (ri := ri) (ml := ml) (so := so) (t := t) (kd := kd) (pl := pl) (f := f) (kw := kw) (v := v) (w := w) (q3 p1) p2 p3
  refine ⟨[], rfl, fOk_cons (p_put3 rfl (by decide) ?_) fOk_nil⟩ <;> simp only [List.map, xv, fev, fvl, gtI, Int.one_mul, Int.add_zero, Int.zero_add, List.append_nil]
  exact q
def r_c0_first0 : eRul := (23, [xP 65 [xv 0, xv 1, ([], 0), xv 2, xv 3, xv 4, xv 5, xv 6, xv 7, xv 8, xv 9, xv 10, xv 11, xv 12, xv 13, xv 14, xv 15, ([], 0)], xP 53 [xv 0, xv 1, ([], 900), xv 2, xv 16, xv 17, xv 18, xv 19, xv 20, xv 21], (.inl [[(0, 0)]], [xv 19]), xP 62 [xv 15, xv 19, ([], 0)], xP 63 [xv 22, xv 15, xv 19]], 0, [xP 65 [xv 0, xv 1, ([], 1), xv 18, xv 3, xv 4, xv 5, xv 6, xv 7, xv 8, xv 9, xv 10, xv 11, xv 12, xv 13, xv 14, xv 22, ([], 0)]])
theorem r_c0_first0_ok : ruOk r_c0_first0 := by
  intro ρ hl0 hp
  obtain ⟨z, t0, rfl, hl1⟩ := len_inv hl0
  obtain ⟨n, t1, rfl, hl2⟩ := len_inv hl1
  obtain ⟨p, t2, rfl, hl3⟩ := len_inv hl2
  obtain ⟨k, t3, rfl, hl4⟩ := len_inv hl3
  obtain ⟨zn, t4, rfl, hl5⟩ := len_inv hl4
  obtain ⟨zf, t5, rfl, hl6⟩ := len_inv hl5
  obtain ⟨zs, t6, rfl, hl7⟩ := len_inv hl6
  obtain ⟨zt, t7, rfl, hl8⟩ := len_inv hl7
  obtain ⟨h, t8, rfl, hl9⟩ := len_inv hl8
  obtain ⟨r, t9, rfl, hl10⟩ := len_inv hl9
  obtain ⟨g, t10, rfl, hl11⟩ := len_inv hl10
  obtain ⟨ev, t11, rfl, hl12⟩ := len_inv hl11
  obtain ⟨ri, t12, rfl, hl13⟩ := len_inv hl12
  obtain ⟨ml, t13, rfl, hl14⟩ := len_inv hl13
  obtain ⟨so, t14, rfl, hl15⟩ := len_inv hl14
  obtain ⟨t, t15, rfl, hl16⟩ := len_inv hl15
  obtain ⟨kd, t16, rfl, hl17⟩ := len_inv hl16
  obtain ⟨pl, t17, rfl, hl18⟩ := len_inv hl17
  obtain ⟨f, t18, rfl, hl19⟩ := len_inv hl18
  obtain ⟨kw, t19, rfl, hl20⟩ := len_inv hl19
  obtain ⟨v, t20, rfl, hl21⟩ := len_inv hl20
  obtain ⟨w, t21, rfl, hl22⟩ := len_inv hl21
  obtain ⟨t2, t22, rfl, hl23⟩ := len_inv hl22
  have hl := List.eq_nil_of_length_eq_zero hl23
  subst hl
  have p1 := p_get3 (by decide) (fOk_hd hp)
  have p2 := p_get3 (by decide) (fOk_hd (fOk_tl hp))
  have p3 := i_get (fOk_hd (fOk_tl (fOk_tl hp)))
  have p4 := p_get3 (by decide) (fOk_hd (fOk_tl (fOk_tl (fOk_tl hp))))
  have p5 := p_get3 (by decide) (fOk_hd (fOk_tl (fOk_tl (fOk_tl (fOk_tl hp)))))
  simp only [List.map, xv, fev, fvl, gtI, Int.one_mul, Int.add_zero, Int.zero_add] at p1 p2 p3 p4 p5
  have q := k_c0_first0 (z := z) (n := n) (p := p) (k := k) (zn := zn) (zf := zf) (zs := zs) (zt := zt) (h := h) (r := r) (g := g) (ev := ev) (ri := ri) (ml := ml) (so := so) (t := t) (kd := kd) (pl := pl) (f := f) (kw := kw) (v := v) (w := w) (t2 := t2) (q3 p1) p2 p3 p4 p5
  refine ⟨[], rfl, fOk_cons (p_put3 rfl (by decide) ?_) fOk_nil⟩ <;> simp only [List.map, xv, fev, fvl, gtI, Int.one_mul, Int.add_zero, Int.zero_add, List.append_nil]
  exact ⟨rfl, q⟩
def r_c0_again0 : eRul := (22, [xP 65 [xv 0, xv 1, ([], 0), xv 2, xv 3, xv 4, xv 5, xv 6, xv 7, xv 8, xv 9, xv 10, xv 11, xv 12, xv 13, xv 14, xv 15, ([], 0)], xP 53 [xv 0, xv 1, ([], 900), xv 2, xv 16, xv 17, xv 18, xv 19, xv 20, xv 21], (.inl [[(0, 0)]], [xv 19]), xP 62 [xv 15, xv 19, ([], 1)]], 0, [xP 64 [xv 0, xv 1, ([(17, -1)], -1), ([], 3)]])
theorem r_c0_again0_ok : ruOk r_c0_again0 := by
  intro ρ hl0 hp
  obtain ⟨z, t0, rfl, hl1⟩ := len_inv hl0
  obtain ⟨n, t1, rfl, hl2⟩ := len_inv hl1
  obtain ⟨p, t2, rfl, hl3⟩ := len_inv hl2
  obtain ⟨k, t3, rfl, hl4⟩ := len_inv hl3
  obtain ⟨zn, t4, rfl, hl5⟩ := len_inv hl4
  obtain ⟨zf, t5, rfl, hl6⟩ := len_inv hl5
  obtain ⟨zs, t6, rfl, hl7⟩ := len_inv hl6
  obtain ⟨zt, t7, rfl, hl8⟩ := len_inv hl7
  obtain ⟨h, t8, rfl, hl9⟩ := len_inv hl8
  obtain ⟨r, t9, rfl, hl10⟩ := len_inv hl9
  obtain ⟨g, t10, rfl, hl11⟩ := len_inv hl10
  obtain ⟨ev, t11, rfl, hl12⟩ := len_inv hl11
  obtain ⟨ri, t12, rfl, hl13⟩ := len_inv hl12
  obtain ⟨ml, t13, rfl, hl14⟩ := len_inv hl13
  obtain ⟨so, t14, rfl, hl15⟩ := len_inv hl14
  obtain ⟨t, t15, rfl, hl16⟩ := len_inv hl15
  obtain ⟨kd, t16, rfl, hl17⟩ := len_inv hl16
  obtain ⟨pl, t17, rfl, hl18⟩ := len_inv hl17
  obtain ⟨f, t18, rfl, hl19⟩ := len_inv hl18
  obtain ⟨kw, t19, rfl, hl20⟩ := len_inv hl19
  obtain ⟨v, t20, rfl, hl21⟩ := len_inv hl20
  obtain ⟨w, t21, rfl, hl22⟩ := len_inv hl21
  have hl := List.eq_nil_of_length_eq_zero hl22
  subst hl
  have p1 := p_get3 (by decide) (fOk_hd hp)
  have p2 := p_get3 (by decide) (fOk_hd (fOk_tl hp))
  have p3 := i_get (fOk_hd (fOk_tl (fOk_tl hp)))
  have p4 := p_get3 (by decide) (fOk_hd (fOk_tl (fOk_tl (fOk_tl hp))))
  simp only [List.map, xv, fev, fvl, gtI, Int.one_mul, Int.add_zero, Int.zero_add] at p1 p2 p3 p4
  have q := k_c0_again0 (z := z) (n := n) (p := p) (k := k) (zn := zn) (zf := zf) (zs := zs) (zt := zt) (h := h) (r := r) (g := g) (ev := ev) (ri := ri) (ml := ml) (so := so) (t := t) (kd := kd) (pl := pl) (f := f) (kw := kw) (v := v) (w := w) (q3 p1) p2 p3 p4
  refine ⟨[], rfl, fOk_cons (p_put3 rfl (by decide) ?_) fOk_nil⟩ <;> simp only [List.map, xv, fev, fvl, gtI, Int.one_mul, Int.add_zero, Int.zero_add, List.append_nil]
  exact q
def r_c0_first1 : eRul := (23, [xP 65 [xv 0, xv 1, ([], 0), xv 2, xv 3, xv 4, xv 5, xv 6, xv 7, xv 8, xv 9, xv 10, xv 11, xv 12, xv 13, xv 14, xv 15, ([], 0)], xP 53 [xv 0, xv 1, ([], 900), xv 2, xv 16, xv 17, xv 18, xv 19, xv 20, xv 21], (.inl [[(1, 1)]], [xv 19]), xP 62 [xv 15, xv 19, ([], 0)], xP 63 [xv 22, xv 15, xv 19]], 0, [xP 65 [xv 0, xv 1, ([], 2), xv 18, xv 3, xv 4, xv 5, xv 6, xv 7, xv 8, xv 9, xv 10, xv 11, xv 12, xv 13, xv 14, xv 22, ([], 0)]])
theorem r_c0_first1_ok : ruOk r_c0_first1 := by
  intro ρ hl0 hp
  obtain ⟨z, t0, rfl, hl1⟩ := len_inv hl0
  obtain ⟨n, t1, rfl, hl2⟩ := len_inv hl1
  obtain ⟨p, t2, rfl, hl3⟩ := len_inv hl2
  obtain ⟨k, t3, rfl, hl4⟩ := len_inv hl3
  obtain ⟨zn, t4, rfl, hl5⟩ := len_inv hl4
  obtain ⟨zf, t5, rfl, hl6⟩ := len_inv hl5
  obtain ⟨zs, t6, rfl, hl7⟩ := len_inv hl6
  obtain ⟨zt, t7, rfl, hl8⟩ := len_inv hl7
  obtain ⟨h, t8, rfl, hl9⟩ := len_inv hl8
  obtain ⟨r, t9, rfl, hl10⟩ := len_inv hl9
  obtain ⟨g, t10, rfl, hl11⟩ := len_inv hl10
  obtain ⟨ev, t11, rfl, hl12⟩ := len_inv hl11
  obtain ⟨ri, t12, rfl, hl13⟩ := len_inv hl12
  obtain ⟨ml, t13, rfl, hl14⟩ := len_inv hl13
  obtain ⟨so, t14, rfl, hl15⟩ := len_inv hl14
  obtain ⟨t, t15, rfl, hl16⟩ := len_inv hl15
  obtain ⟨kd, t16, rfl, hl17⟩ := len_inv hl16
  obtain ⟨pl, t17, rfl, hl18⟩ := len_inv hl17
  obtain ⟨f, t18, rfl, hl19⟩ := len_inv hl18
  obtain ⟨kw, t19, rfl, hl20⟩ := len_inv hl19
  obtain ⟨v, t20, rfl, hl21⟩ := len_inv hl20
  obtain ⟨w, t21, rfl, hl22⟩ := len_inv hl21
  obtain ⟨t2, t22, rfl, hl23⟩ := len_inv hl22
  have hl := List.eq_nil_of_length_eq_zero hl23
  subst hl
  have p1 := p_get3 (by decide) (fOk_hd hp)
  have p2 := p_get3 (by decide) (fOk_hd (fOk_tl hp))
  have p3 := i_get (fOk_hd (fOk_tl (fOk_tl hp)))
  have p4 := p_get3 (by decide) (fOk_hd (fOk_tl (fOk_tl (fOk_tl hp))))
  have p5 := p_get3 (by decide) (fOk_hd (fOk_tl (fOk_tl (fOk_tl (fOk_tl hp)))))
  simp only [List.map, xv, fev, fvl, gtI, Int.one_mul, Int.add_zero, Int.zero_add] at p1 p2 p3 p4 p5
  have q := k_c0_first1 (z := z) (n := n) (p := p) (k := k) (zn := zn) (zf := zf) (zs := zs) (zt := zt) (h := h) (r := r) (g := g) (ev := ev) (ri := ri) (ml := ml) (so := so) (t := t) (kd := kd) (pl := pl) (f := f) (kw := kw) (v := v) (w := w) (t2 := t2) (q3 p1) p2 p3 p4 p5
  refine ⟨[], rfl, fOk_cons (p_put3 rfl (by decide) ?_) fOk_nil⟩ <;> simp only [List.map, xv, fev, fvl, gtI, Int.one_mul, Int.add_zero, Int.zero_add, List.append_nil]
  exact ⟨rfl, q⟩
def r_c0_again1 : eRul := (22, [xP 65 [xv 0, xv 1, ([], 0), xv 2, xv 3, xv 4, xv 5, xv 6, xv 7, xv 8, xv 9, xv 10, xv 11, xv 12, xv 13, xv 14, xv 15, ([], 0)], xP 53 [xv 0, xv 1, ([], 900), xv 2, xv 16, xv 17, xv 18, xv 19, xv 20, xv 21], (.inl [[(1, 1)]], [xv 19]), xP 62 [xv 15, xv 19, ([], 1)]], 0, [xP 64 [xv 0, xv 1, ([(17, -1)], -1), ([], 3)]])
theorem r_c0_again1_ok : ruOk r_c0_again1 := by
  intro ρ hl0 hp
  obtain ⟨z, t0, rfl, hl1⟩ := len_inv hl0
  obtain ⟨n, t1, rfl, hl2⟩ := len_inv hl1
  obtain ⟨p, t2, rfl, hl3⟩ := len_inv hl2
  obtain ⟨k, t3, rfl, hl4⟩ := len_inv hl3
  obtain ⟨zn, t4, rfl, hl5⟩ := len_inv hl4
  obtain ⟨zf, t5, rfl, hl6⟩ := len_inv hl5
  obtain ⟨zs, t6, rfl, hl7⟩ := len_inv hl6
  obtain ⟨zt, t7, rfl, hl8⟩ := len_inv hl7
  obtain ⟨h, t8, rfl, hl9⟩ := len_inv hl8
  obtain ⟨r, t9, rfl, hl10⟩ := len_inv hl9
  obtain ⟨g, t10, rfl, hl11⟩ := len_inv hl10
  obtain ⟨ev, t11, rfl, hl12⟩ := len_inv hl11
  obtain ⟨ri, t12, rfl, hl13⟩ := len_inv hl12
  obtain ⟨ml, t13, rfl, hl14⟩ := len_inv hl13
  obtain ⟨so, t14, rfl, hl15⟩ := len_inv hl14
  obtain ⟨t, t15, rfl, hl16⟩ := len_inv hl15
  obtain ⟨kd, t16, rfl, hl17⟩ := len_inv hl16
  obtain ⟨pl, t17, rfl, hl18⟩ := len_inv hl17
  obtain ⟨f, t18, rfl, hl19⟩ := len_inv hl18
  obtain ⟨kw, t19, rfl, hl20⟩ := len_inv hl19
  obtain ⟨v, t20, rfl, hl21⟩ := len_inv hl20
  obtain ⟨w, t21, rfl, hl22⟩ := len_inv hl21
  have hl := List.eq_nil_of_length_eq_zero hl22
  subst hl
  have p1 := p_get3 (by decide) (fOk_hd hp)
  have p2 := p_get3 (by decide) (fOk_hd (fOk_tl hp))
  have p3 := i_get (fOk_hd (fOk_tl (fOk_tl hp)))
  have p4 := p_get3 (by decide) (fOk_hd (fOk_tl (fOk_tl (fOk_tl hp))))
  simp only [List.map, xv, fev, fvl, gtI, Int.one_mul, Int.add_zero, Int.zero_add] at p1 p2 p3 p4
  have q := k_c0_again1 (z := z) (n := n) (p := p) (k := k) (zn := zn) (zf := zf) (zs := zs) (zt := zt) (h := h) (r := r) (g := g) (ev := ev) (ri := ri) (ml := ml) (so := so) (t := t) (kd := kd) (pl := pl) (f := f) (kw := kw) (v := v) (w := w) (q3 p1) p2 p3 p4
  refine ⟨[], rfl, fOk_cons (p_put3 rfl (by decide) ?_) fOk_nil⟩ <;> simp only [List.map, xv, fev, fvl, gtI, Int.one_mul, Int.add_zero, Int.zero_add, List.append_nil]
  exact q
def r_c0_first2 : eRul := (23, [xP 65 [xv 0, xv 1, ([], 0), xv 2, xv 3, xv 4, xv 5, xv 6, xv 7, xv 8, xv 9, xv 10, xv 11, xv 12, xv 13, xv 14, xv 15, ([], 0)], xP 53 [xv 0, xv 1, ([], 900), xv 2, xv 16, xv 17, xv 18, xv 19, xv 20, xv 21], (.inl [[(2, 2)]], [xv 19]), xP 62 [xv 15, xv 19, ([], 0)], xP 63 [xv 22, xv 15, xv 19]], 0, [xP 65 [xv 0, xv 1, ([], 4), xv 18, xv 3, xv 4, xv 5, xv 6, xv 7, xv 8, xv 9, xv 10, xv 11, xv 12, xv 13, xv 14, xv 22, ([], 0)]])
theorem r_c0_first2_ok : ruOk r_c0_first2 := by
  intro ρ hl0 hp
  obtain ⟨z, t0, rfl, hl1⟩ := len_inv hl0
  obtain ⟨n, t1, rfl, hl2⟩ := len_inv hl1
  obtain ⟨p, t2, rfl, hl3⟩ := len_inv hl2
  obtain ⟨k, t3, rfl, hl4⟩ := len_inv hl3
  obtain ⟨zn, t4, rfl, hl5⟩ := len_inv hl4
  obtain ⟨zf, t5, rfl, hl6⟩ := len_inv hl5
  obtain ⟨zs, t6, rfl, hl7⟩ := len_inv hl6
  obtain ⟨zt, t7, rfl, hl8⟩ := len_inv hl7
  obtain ⟨h, t8, rfl, hl9⟩ := len_inv hl8
  obtain ⟨r, t9, rfl, hl10⟩ := len_inv hl9
  obtain ⟨g, t10, rfl, hl11⟩ := len_inv hl10
  obtain ⟨ev, t11, rfl, hl12⟩ := len_inv hl11
  obtain ⟨ri, t12, rfl, hl13⟩ := len_inv hl12
  obtain ⟨ml, t13, rfl, hl14⟩ := len_inv hl13
  obtain ⟨so, t14, rfl, hl15⟩ := len_inv hl14
  obtain ⟨t, t15, rfl, hl16⟩ := len_inv hl15
  obtain ⟨kd, t16, rfl, hl17⟩ := len_inv hl16
  obtain ⟨pl, t17, rfl, hl18⟩ := len_inv hl17
  obtain ⟨f, t18, rfl, hl19⟩ := len_inv hl18
  obtain ⟨kw, t19, rfl, hl20⟩ := len_inv hl19
  obtain ⟨v, t20, rfl, hl21⟩ := len_inv hl20
  obtain ⟨w, t21, rfl, hl22⟩ := len_inv hl21
  obtain ⟨t2, t22, rfl, hl23⟩ := len_inv hl22
  have hl := List.eq_nil_of_length_eq_zero hl23
  subst hl
  have p1 := p_get3 (by decide) (fOk_hd hp)
  have p2 := p_get3 (by decide) (fOk_hd (fOk_tl hp))
  have p3 := i_get (fOk_hd (fOk_tl (fOk_tl hp)))
  have p4 := p_get3 (by decide) (fOk_hd (fOk_tl (fOk_tl (fOk_tl hp))))
  have p5 := p_get3 (by decide) (fOk_hd (fOk_tl (fOk_tl (fOk_tl (fOk_tl hp)))))
  simp only [List.map, xv, fev, fvl, gtI, Int.one_mul, Int.add_zero, Int.zero_add] at p1 p2 p3 p4 p5
  have q := k_c0_first2 (z := z) (n := n) (p := p) (k := k) (zn := zn) (zf := zf) (zs := zs) (zt := zt) (h := h) (r := r) (g := g) (ev := ev) (ri := ri) (ml := ml) (so := so) (t := t) (kd := kd) (pl := pl) (f := f) (kw := kw) (v := v) (w := w) (t2 := t2) (q3 p1) p2 p3 p4 p5
  refine ⟨[], rfl, fOk_cons (p_put3 rfl (by decide) ?_) fOk_nil⟩ <;> simp only [List.map, xv, fev, fvl, gtI, Int.one_mul, Int.add_zero, Int.zero_add, List.append_nil]
  exact ⟨rfl, q⟩
def r_c0_again2 : eRul := (22, [xP 65 [xv 0, xv 1, ([], 0), xv 2, xv 3, xv 4, xv 5, xv 6, xv 7, xv 8, xv 9, xv 10, xv 11, xv 12, xv 13, xv 14, xv 15, ([], 0)], xP 53 [xv 0, xv 1, ([], 900), xv 2, xv 16, xv 17, xv 18, xv 19, xv 20, xv 21], (.inl [[(2, 2)]], [xv 19]), xP 62 [xv 15, xv 19, ([], 1)]], 0, [xP 64 [xv 0, xv 1, ([(17, -1)], -1), ([], 3)]])
theorem r_c0_again2_ok : ruOk r_c0_again2 := by
  intro ρ hl0 hp
  obtain ⟨z, t0, rfl, hl1⟩ := len_inv hl0
  obtain ⟨n, t1, rfl, hl2⟩ := len_inv hl1
  obtain ⟨p, t2, rfl, hl3⟩ := len_inv hl2
  obtain ⟨k, t3, rfl, hl4⟩ := len_inv hl3
  obtain ⟨zn, t4, rfl, hl5⟩ := len_inv hl4
  obtain ⟨zf, t5, rfl, hl6⟩ := len_inv hl5
  obtain ⟨zs, t6, rfl, hl7⟩ := len_inv hl6
  obtain ⟨zt, t7, rfl, hl8⟩ := len_inv hl7
  obtain ⟨h, t8, rfl, hl9⟩ := len_inv hl8
  obtain ⟨r, t9, rfl, hl10⟩ := len_inv hl9
  obtain ⟨g, t10, rfl, hl11⟩ := len_inv hl10
  obtain ⟨ev, t11, rfl, hl12⟩ := len_inv hl11
  obtain ⟨ri, t12, rfl, hl13⟩ := len_inv hl12
  obtain ⟨ml, t13, rfl, hl14⟩ := len_inv hl13
  obtain ⟨so, t14, rfl, hl15⟩ := len_inv hl14
  obtain ⟨t, t15, rfl, hl16⟩ := len_inv hl15
  obtain ⟨kd, t16, rfl, hl17⟩ := len_inv hl16
  obtain ⟨pl, t17, rfl, hl18⟩ := len_inv hl17
  obtain ⟨f, t18, rfl, hl19⟩ := len_inv hl18
  obtain ⟨kw, t19, rfl, hl20⟩ := len_inv hl19
  obtain ⟨v, t20, rfl, hl21⟩ := len_inv hl20
  obtain ⟨w, t21, rfl, hl22⟩ := len_inv hl21
  have hl := List.eq_nil_of_length_eq_zero hl22
  subst hl
  have p1 := p_get3 (by decide) (fOk_hd hp)
  have p2 := p_get3 (by decide) (fOk_hd (fOk_tl hp))
  have p3 := i_get (fOk_hd (fOk_tl (fOk_tl hp)))
  have p4 := p_get3 (by decide) (fOk_hd (fOk_tl (fOk_tl (fOk_tl hp))))
  simp only [List.map, xv, fev, fvl, gtI, Int.one_mul, Int.add_zero, Int.zero_add] at p1 p2 p3 p4
  have q := k_c0_again2 (z := z) (n := n) (p := p) (k := k) (zn := zn) (zf := zf) (zs := zs) (zt := zt) (h := h) (r := r) (g := g) (ev := ev) (ri := ri) (ml := ml) (so := so) (t := t) (kd := kd) (pl := pl) (f := f) (kw := kw) (v := v) (w := w) (q3 p1) p2 p3 p4
  refine ⟨[], rfl, fOk_cons (p_put3 rfl (by decide) ?_) fOk_nil⟩ <;> simp only [List.map, xv, fev, fvl, gtI, Int.one_mul, Int.add_zero, Int.zero_add, List.append_nil]
  exact q
def r_c0_first3 : eRul := (23, [xP 65 [xv 0, xv 1, ([], 0), xv 2, xv 3, xv 4, xv 5, xv 6, xv 7, xv 8, xv 9, xv 10, xv 11, xv 12, xv 13, xv 14, xv 15, ([], 0)], xP 53 [xv 0, xv 1, ([], 900), xv 2, xv 16, xv 17, xv 18, xv 19, xv 20, xv 21], (.inl [[(3, 3)]], [xv 19]), xP 62 [xv 15, xv 19, ([], 0)], xP 63 [xv 22, xv 15, xv 19]], 0, [xP 65 [xv 0, xv 1, ([], 5), xv 18, xv 3, xv 4, xv 5, xv 6, xv 7, xv 8, xv 9, xv 10, xv 11, xv 12, xv 13, xv 14, xv 22, ([], 0)]])
theorem r_c0_first3_ok : ruOk r_c0_first3 := by
  intro ρ hl0 hp
  obtain ⟨z, t0, rfl, hl1⟩ := len_inv hl0
  obtain ⟨n, t1, rfl, hl2⟩ := len_inv hl1
  obtain ⟨p, t2, rfl, hl3⟩ := len_inv hl2
  obtain ⟨k, t3, rfl, hl4⟩ := len_inv hl3
  obtain ⟨zn, t4, rfl, hl5⟩ := len_inv hl4
  obtain ⟨zf, t5, rfl, hl6⟩ := len_inv hl5
  obtain ⟨zs, t6, rfl, hl7⟩ := len_inv hl6
  obtain ⟨zt, t7, rfl, hl8⟩ := len_inv hl7
  obtain ⟨h, t8, rfl, hl9⟩ := len_inv hl8
  obtain ⟨r, t9, rfl, hl10⟩ := len_inv hl9
  obtain ⟨g, t10, rfl, hl11⟩ := len_inv hl10
  obtain ⟨ev, t11, rfl, hl12⟩ := len_inv hl11
  obtain ⟨ri, t12, rfl, hl13⟩ := len_inv hl12
  obtain ⟨ml, t13, rfl, hl14⟩ := len_inv hl13
  obtain ⟨so, t14, rfl, hl15⟩ := len_inv hl14
  obtain ⟨t, t15, rfl, hl16⟩ := len_inv hl15
  obtain ⟨kd, t16, rfl, hl17⟩ := len_inv hl16
  obtain ⟨pl, t17, rfl, hl18⟩ := len_inv hl17
  obtain ⟨f, t18, rfl, hl19⟩ := len_inv hl18
  obtain ⟨kw, t19, rfl, hl20⟩ := len_inv hl19
  obtain ⟨v, t20, rfl, hl21⟩ := len_inv hl20
  obtain ⟨w, t21, rfl, hl22⟩ := len_inv hl21
  obtain ⟨t2, t22, rfl, hl23⟩ := len_inv hl22
  have hl := List.eq_nil_of_length_eq_zero hl23
  subst hl
  have p1 := p_get3 (by decide) (fOk_hd hp)
  have p2 := p_get3 (by decide) (fOk_hd (fOk_tl hp))
  have p3 := i_get (fOk_hd (fOk_tl (fOk_tl hp)))
  have p4 := p_get3 (by decide) (fOk_hd (fOk_tl (fOk_tl (fOk_tl hp))))
  have p5 := p_get3 (by decide) (fOk_hd (fOk_tl (fOk_tl (fOk_tl (fOk_tl hp)))))
  simp only [List.map, xv, fev, fvl, gtI, Int.one_mul, Int.add_zero, Int.zero_add] at p1 p2 p3 p4 p5
  have q := k_c0_first3 (z := z) (n := n) (p := p) (k := k) (zn := zn) (zf := zf) (zs := zs) (zt := zt) (h := h) (r := r) (g := g) (ev := ev) (ri := ri) (ml := ml) (so := so) (t := t) (kd := kd) (pl := pl) (f := f) (kw := kw) (v := v) (w := w) (t2 := t2) (q3 p1) p2 p3 p4 p5
  refine ⟨[], rfl, fOk_cons (p_put3 rfl (by decide) ?_) fOk_nil⟩ <;> simp only [List.map, xv, fev, fvl, gtI, Int.one_mul, Int.add_zero, Int.zero_add, List.append_nil]
  exact ⟨rfl, q⟩
def r_c0_again3 : eRul := (22, [xP 65 [xv 0, xv 1, ([], 0), xv 2, xv 3, xv 4, xv 5, xv 6, xv 7, xv 8, xv 9, xv 10, xv 11, xv 12, xv 13, xv 14, xv 15, ([], 0)], xP 53 [xv 0, xv 1, ([], 900), xv 2, xv 16, xv 17, xv 18, xv 19, xv 20, xv 21], (.inl [[(3, 3)]], [xv 19]), xP 62 [xv 15, xv 19, ([], 1)]], 0, [xP 64 [xv 0, xv 1, ([(17, -1)], -1), ([], 3)]])
theorem r_c0_again3_ok : ruOk r_c0_again3 := by
  intro ρ hl0 hp
  obtain ⟨z, t0, rfl, hl1⟩ := len_inv hl0
  obtain ⟨n, t1, rfl, hl2⟩ := len_inv hl1
  obtain ⟨p, t2, rfl, hl3⟩ := len_inv hl2
  obtain ⟨k, t3, rfl, hl4⟩ := len_inv hl3
  obtain ⟨zn, t4, rfl, hl5⟩ := len_inv hl4
  obtain ⟨zf, t5, rfl, hl6⟩ := len_inv hl5
  obtain ⟨zs, t6, rfl, hl7⟩ := len_inv hl6
  obtain ⟨zt, t7, rfl, hl8⟩ := len_inv hl7
  obtain ⟨h, t8, rfl, hl9⟩ := len_inv hl8
  obtain ⟨r, t9, rfl, hl10⟩ := len_inv hl9
  obtain ⟨g, t10, rfl, hl11⟩ := len_inv hl10
  obtain ⟨ev, t11, rfl, hl12⟩ := len_inv hl11
  obtain ⟨ri, t12, rfl, hl13⟩ := len_inv hl12
  obtain ⟨ml, t13, rfl, hl14⟩ := len_inv hl13
  obtain ⟨so, t14, rfl, hl15⟩ := len_inv hl14
  obtain ⟨t, t15, rfl, hl16⟩ := len_inv hl15
  obtain ⟨kd, t16, rfl, hl17⟩ := len_inv hl16
  obtain ⟨pl, t17, rfl, hl18⟩ := len_inv hl17
  obtain ⟨f, t18, rfl, hl19⟩ := len_inv hl18
  obtain ⟨kw, t19, rfl, hl20⟩ := len_inv hl19
  obtain ⟨v, t20, rfl, hl21⟩ := len_inv hl20
  obtain ⟨w, t21, rfl, hl22⟩ := len_inv hl21
  have hl := List.eq_nil_of_length_eq_zero hl22
  subst hl
  have p1 := p_get3 (by decide) (fOk_hd hp)
  have p2 := p_get3 (by decide) (fOk_hd (fOk_tl hp))
  have p3 := i_get (fOk_hd (fOk_tl (fOk_tl hp)))
  have p4 := p_get3 (by decide) (fOk_hd (fOk_tl (fOk_tl (fOk_tl hp))))
  simp only [List.map, xv, fev, fvl, gtI, Int.one_mul, Int.add_zero, Int.zero_add] at p1 p2 p3 p4
  have q := k_c0_again3 (z := z) (n := n) (p := p) (k := k) (zn := zn) (zf := zf) (zs := zs) (zt := zt) (h := h) (r := r) (g := g) (ev := ev) (ri := ri) (ml := ml) (so := so) (t := t) (kd := kd) (pl := pl) (f := f) (kw := kw) (v := v) (w := w) (q3 p1) p2 p3 p4
  refine ⟨[], rfl, fOk_cons (p_put3 rfl (by decide) ?_) fOk_nil⟩ <;> simp only [List.map, xv, fev, fvl, gtI, Int.one_mul, Int.add_zero, Int.zero_add, List.append_nil]
  exact q
def r_c0_h : eRul := (22, [xP 65 [xv 0, xv 1, ([], 0), xv 2, xv 3, xv 4, xv 5, xv 6, xv 7, xv 8, xv 9, xv 10, xv 11, xv 12, xv 13, xv 14, xv 15, ([], 0)], xP 53 [xv 0, xv 1, ([], 900), xv 2, xv 16, xv 17, xv 18, xv 19, xv 20, xv 21], (.inl [[(4, 4)]], [xv 19]), xG (([(8, 1)], -4))], 0, [xP 65 [xv 0, xv 1, ([], 6), xv 18, xv 3, xv 4, xv 5, xv 6, xv 7, xv 8, xv 9, xv 10, xv 11, xv 12, xv 13, xv 14, xv 15, ([], 0)]])
theorem r_c0_h_ok : ruOk r_c0_h := by
  intro ρ hl0 hp
  obtain ⟨z, t0, rfl, hl1⟩ := len_inv hl0
  obtain ⟨n, t1, rfl, hl2⟩ := len_inv hl1
  obtain ⟨p, t2, rfl, hl3⟩ := len_inv hl2
  obtain ⟨k, t3, rfl, hl4⟩ := len_inv hl3
  obtain ⟨zn, t4, rfl, hl5⟩ := len_inv hl4
  obtain ⟨zf, t5, rfl, hl6⟩ := len_inv hl5
  obtain ⟨zs, t6, rfl, hl7⟩ := len_inv hl6
  obtain ⟨zt, t7, rfl, hl8⟩ := len_inv hl7
  obtain ⟨h, t8, rfl, hl9⟩ := len_inv hl8
  obtain ⟨r, t9, rfl, hl10⟩ := len_inv hl9
  obtain ⟨g, t10, rfl, hl11⟩ := len_inv hl10
  obtain ⟨ev, t11, rfl, hl12⟩ := len_inv hl11
  obtain ⟨ri, t12, rfl, hl13⟩ := len_inv hl12
  obtain ⟨ml, t13, rfl, hl14⟩ := len_inv hl13
  obtain ⟨so, t14, rfl, hl15⟩ := len_inv hl14
  obtain ⟨t, t15, rfl, hl16⟩ := len_inv hl15
  obtain ⟨kd, t16, rfl, hl17⟩ := len_inv hl16
  obtain ⟨pl, t17, rfl, hl18⟩ := len_inv hl17
  obtain ⟨f, t18, rfl, hl19⟩ := len_inv hl18
  obtain ⟨kw, t19, rfl, hl20⟩ := len_inv hl19
  obtain ⟨v, t20, rfl, hl21⟩ := len_inv hl20
  obtain ⟨w, t21, rfl, hl22⟩ := len_inv hl21
  have hl := List.eq_nil_of_length_eq_zero hl22
  subst hl
  have p1 := p_get3 (by decide) (fOk_hd hp)
  have p2 := p_get3 (by decide) (fOk_hd (fOk_tl hp))
  have p3 := i_get (fOk_hd (fOk_tl (fOk_tl hp)))
  have p4 := gg_get (fOk_hd (fOk_tl (fOk_tl (fOk_tl hp))))
  simp only [List.map, xv, fev, fvl, gtI, Int.one_mul, Int.add_zero, Int.zero_add] at p1 p2 p3 p4
  have q := k_c0_h (z := z) (n := n) (p := p) (k := k) (zn := zn) (zf := zf) (zs := zs) (zt := zt) (h := h) (r := r) (g := g) (ev := ev) (ri := ri) (ml := ml) (so := so) (t := t) (kd := kd) (pl := pl) (f := f) (kw := kw) (v := v) (w := w) (q3 p1) p2 p3 p4
  refine ⟨[], rfl, fOk_cons (p_put3 rfl (by decide) ?_) fOk_nil⟩ <;> simp only [List.map, xv, fev, fvl, gtI, Int.one_mul, Int.add_zero, Int.zero_add, List.append_nil]
  exact ⟨rfl, q⟩
def r_c0_many_h : eRul := (22, [xP 65 [xv 0, xv 1, ([], 0), xv 2, xv 3, xv 4, xv 5, xv 6, xv 7, xv 8, xv 9, xv 10, xv 11, xv 12, xv 13, xv 14, xv 15, ([], 0)], xP 53 [xv 0, xv 1, ([], 900), xv 2, xv 16, xv 17, xv 18, xv 19, xv 20, xv 21], (.inl [[(4, 4)]], [xv 19]), xG (([(8, -1)], 5))], 0, [xP 64 [xv 0, xv 1, ([(17, -1)], -1), ([], 4)]])
theorem r_c0_many_h_ok : ruOk r_c0_many_h := by
  intro ρ hl0 hp
  obtain ⟨z, t0, rfl, hl1⟩ := len_inv hl0
  obtain ⟨n, t1, rfl, hl2⟩ := len_inv hl1
  obtain ⟨p, t2, rfl, hl3⟩ := len_inv hl2
  obtain ⟨k, t3, rfl, hl4⟩ := len_inv hl3
  obtain ⟨zn, t4, rfl, hl5⟩ := len_inv hl4
  obtain ⟨zf, t5, rfl, hl6⟩ := len_inv hl5
  obtain ⟨zs, t6, rfl, hl7⟩ := len_inv hl6
  obtain ⟨zt, t7, rfl, hl8⟩ := len_inv hl7
  obtain ⟨h, t8, rfl, hl9⟩ := len_inv hl8
  obtain ⟨r, t9, rfl, hl10⟩ := len_inv hl9
  obtain ⟨g, t10, rfl, hl11⟩ := len_inv hl10
  obtain ⟨ev, t11, rfl, hl12⟩ := len_inv hl11
  obtain ⟨ri, t12, rfl, hl13⟩ := len_inv hl12
  obtain ⟨ml, t13, rfl, hl14⟩ := len_inv hl13
  obtain ⟨so, t14, rfl, hl15⟩ := len_inv hl14
  obtain ⟨t, t15, rfl, hl16⟩ := len_inv hl15
  obtain ⟨kd, t16, rfl, hl17⟩ := len_inv hl16
  obtain ⟨pl, t17, rfl, hl18⟩ := len_inv hl17
  obtain ⟨f, t18, rfl, hl19⟩ := len_inv hl18
  obtain ⟨kw, t19, rfl, hl20⟩ := len_inv hl19
  obtain ⟨v, t20, rfl, hl21⟩ := len_inv hl20
  obtain ⟨w, t21, rfl, hl22⟩ := len_inv hl21
  have hl := List.eq_nil_of_length_eq_zero hl22
  subst hl
  have p1 := p_get3 (by decide) (fOk_hd hp)
  have p2 := p_get3 (by decide) (fOk_hd (fOk_tl hp))
  have p3 := i_get (fOk_hd (fOk_tl (fOk_tl hp)))
  have p4 := gg_get (fOk_hd (fOk_tl (fOk_tl (fOk_tl hp))))
  simp only [List.map, xv, fev, fvl, gtI, Int.one_mul, Int.add_zero, Int.zero_add] at p1 p2 p3 p4
  have q := k_c0_many_h (z := z) (n := n) (p := p) (k := k) (zn := zn) (zf := zf) (zs := zs) (zt := zt) (h := h) (r := r) (g := g) (ev := ev) (ri := ri) (ml := ml) (so := so) (t := t) (kd := kd) (pl := pl) (f := f) (kw := kw) (v := v) (w := w) (q3 p1) p2 p3 p4
  refine ⟨[], rfl, fOk_cons (p_put3 rfl (by decide) ?_) fOk_nil⟩ <;> simp only [List.map, xv, fev, fvl, gtI, Int.one_mul, Int.add_zero, Int.zero_add, List.append_nil]
  exact q
def r_c0_r : eRul := (22, [xP 65 [xv 0, xv 1, ([], 0), xv 2, xv 3, xv 4, xv 5, xv 6, xv 7, xv 8, xv 9, xv 10, xv 11, xv 12, xv 13, xv 14, xv 15, ([], 0)], xP 53 [xv 0, xv 1, ([], 900), xv 2, xv 16, xv 17, xv 18, xv 19, xv 20, xv 21], (.inl [[(5, 5)]], [xv 19]), xG (([(9, 1)], -7))], 0, [xP 65 [xv 0, xv 1, ([], 9), xv 18, xv 3, xv 4, xv 5, xv 6, xv 7, xv 8, xv 9, xv 10, xv 11, xv 12, xv 13, xv 14, xv 15, ([], 0)]])
theorem r_c0_r_ok : ruOk r_c0_r := by
  intro ρ hl0 hp
  obtain ⟨z, t0, rfl, hl1⟩ := len_inv hl0
  obtain ⟨n, t1, rfl, hl2⟩ := len_inv hl1
  obtain ⟨p, t2, rfl, hl3⟩ := len_inv hl2
  obtain ⟨k, t3, rfl, hl4⟩ := len_inv hl3
  obtain ⟨zn, t4, rfl, hl5⟩ := len_inv hl4
  obtain ⟨zf, t5, rfl, hl6⟩ := len_inv hl5
  obtain ⟨zs, t6, rfl, hl7⟩ := len_inv hl6
  obtain ⟨zt, t7, rfl, hl8⟩ := len_inv hl7
  obtain ⟨h, t8, rfl, hl9⟩ := len_inv hl8
  obtain ⟨r, t9, rfl, hl10⟩ := len_inv hl9
  obtain ⟨g, t10, rfl, hl11⟩ := len_inv hl10
  obtain ⟨ev, t11, rfl, hl12⟩ := len_inv hl11
  obtain ⟨ri, t12, rfl, hl13⟩ := len_inv hl12
  obtain ⟨ml, t13, rfl, hl14⟩ := len_inv hl13
  obtain ⟨so, t14, rfl, hl15⟩ := len_inv hl14
  obtain ⟨t, t15, rfl, hl16⟩ := len_inv hl15
  obtain ⟨kd, t16, rfl, hl17⟩ := len_inv hl16
  obtain ⟨pl, t17, rfl, hl18⟩ := len_inv hl17
  obtain ⟨f, t18, rfl, hl19⟩ := len_inv hl18
  obtain ⟨kw, t19, rfl, hl20⟩ := len_inv hl19
  obtain ⟨v, t20, rfl, hl21⟩ := len_inv hl20
  obtain ⟨w, t21, rfl, hl22⟩ := len_inv hl21
  have hl := List.eq_nil_of_length_eq_zero hl22
  subst hl
  have p1 := p_get3 (by decide) (fOk_hd hp)
  have p2 := p_get3 (by decide) (fOk_hd (fOk_tl hp))
  have p3 := i_get (fOk_hd (fOk_tl (fOk_tl hp)))
  have p4 := gg_get (fOk_hd (fOk_tl (fOk_tl (fOk_tl hp))))
  simp only [List.map, xv, fev, fvl, gtI, Int.one_mul, Int.add_zero, Int.zero_add] at p1 p2 p3 p4
  have q := k_c0_r (z := z) (n := n) (p := p) (k := k) (zn := zn) (zf := zf) (zs := zs) (zt := zt) (h := h) (r := r) (g := g) (ev := ev) (ri := ri) (ml := ml) (so := so) (t := t) (kd := kd) (pl := pl) (f := f) (kw := kw) (v := v) (w := w) (q3 p1) p2 p3 p4
  refine ⟨[], rfl, fOk_cons (p_put3 rfl (by decide) ?_) fOk_nil⟩ <;> simp only [List.map, xv, fev, fvl, gtI, Int.one_mul, Int.add_zero, Int.zero_add, List.append_nil]
  exact ⟨rfl, q⟩
def r_c0_many_r : eRul := (22, [xP 65 [xv 0, xv 1, ([], 0), xv 2, xv 3, xv 4, xv 5, xv 6, xv 7, xv 8, xv 9, xv 10, xv 11, xv 12, xv 13, xv 14, xv 15, ([], 0)], xP 53 [xv 0, xv 1, ([], 900), xv 2, xv 16, xv 17, xv 18, xv 19, xv 20, xv 21], (.inl [[(5, 5)]], [xv 19]), xG (([(9, -1)], 8))], 0, [xP 64 [xv 0, xv 1, ([(17, -1)], -1), ([], 4)]])
theorem r_c0_many_r_ok : ruOk r_c0_many_r := by
  intro ρ hl0 hp
  obtain ⟨z, t0, rfl, hl1⟩ := len_inv hl0
  obtain ⟨n, t1, rfl, hl2⟩ := len_inv hl1
  obtain ⟨p, t2, rfl, hl3⟩ := len_inv hl2
  obtain ⟨k, t3, rfl, hl4⟩ := len_inv hl3
  obtain ⟨zn, t4, rfl, hl5⟩ := len_inv hl4
  obtain ⟨zf, t5, rfl, hl6⟩ := len_inv hl5
  obtain ⟨zs, t6, rfl, hl7⟩ := len_inv hl6
  obtain ⟨zt, t7, rfl, hl8⟩ := len_inv hl7
  obtain ⟨h, t8, rfl, hl9⟩ := len_inv hl8
  obtain ⟨r, t9, rfl, hl10⟩ := len_inv hl9
  obtain ⟨g, t10, rfl, hl11⟩ := len_inv hl10
  obtain ⟨ev, t11, rfl, hl12⟩ := len_inv hl11
  obtain ⟨ri, t12, rfl, hl13⟩ := len_inv hl12
  obtain ⟨ml, t13, rfl, hl14⟩ := len_inv hl13
  obtain ⟨so, t14, rfl, hl15⟩ := len_inv hl14
  obtain ⟨t, t15, rfl, hl16⟩ := len_inv hl15
  obtain ⟨kd, t16, rfl, hl17⟩ := len_inv hl16
  obtain ⟨pl, t17, rfl, hl18⟩ := len_inv hl17
  obtain ⟨f, t18, rfl, hl19⟩ := len_inv hl18
  obtain ⟨kw, t19, rfl, hl20⟩ := len_inv hl19
  obtain ⟨v, t20, rfl, hl21⟩ := len_inv hl20
  obtain ⟨w, t21, rfl, hl22⟩ := len_inv hl21
  have hl := List.eq_nil_of_length_eq_zero hl22
  subst hl
  have p1 := p_get3 (by decide) (fOk_hd hp)
  have p2 := p_get3 (by decide) (fOk_hd (fOk_tl hp))
  have p3 := i_get (fOk_hd (fOk_tl (fOk_tl hp)))
  have p4 := gg_get (fOk_hd (fOk_tl (fOk_tl (fOk_tl hp))))
  simp only [List.map, xv, fev, fvl, gtI, Int.one_mul, Int.add_zero, Int.zero_add] at p1 p2 p3 p4
  have q := k_c0_many_r (z := z) (n := n) (p := p) (k := k) (zn := zn) (zf := zf) (zs := zs) (zt := zt) (h := h) (r := r) (g := g) (ev := ev) (ri := ri) (ml := ml) (so := so) (t := t) (kd := kd) (pl := pl) (f := f) (kw := kw) (v := v) (w := w) (q3 p1) p2 p3 p4
  refine ⟨[], rfl, fOk_cons (p_put3 rfl (by decide) ?_) fOk_nil⟩ <;> simp only [List.map, xv, fev, fvl, gtI, Int.one_mul, Int.add_zero, Int.zero_add, List.append_nil]
  exact q
def r_c0_g : eRul := (22, [xP 65 [xv 0, xv 1, ([], 0), xv 2, xv 3, xv 4, xv 5, xv 6, xv 7, xv 8, xv 9, xv 10, xv 11, xv 12, xv 13, xv 14, xv 15, ([], 0)], xP 53 [xv 0, xv 1, ([], 900), xv 2, xv 16, xv 17, xv 18, xv 19, xv 20, xv 21], (.inl [[(6, 6)]], [xv 19]), xG (([(10, 1)], -5))], 0, [xP 65 [xv 0, xv 1, ([], 13), xv 18, xv 3, xv 4, xv 5, xv 6, xv 7, xv 8, xv 9, xv 10, xv 11, xv 12, xv 13, xv 14, xv 15, ([], 0)]])
theorem r_c0_g_ok : ruOk r_c0_g := by
  intro ρ hl0 hp
  obtain ⟨z, t0, rfl, hl1⟩ := len_inv hl0
  obtain ⟨n, t1, rfl, hl2⟩ := len_inv hl1
  obtain ⟨p, t2, rfl, hl3⟩ := len_inv hl2
  obtain ⟨k, t3, rfl, hl4⟩ := len_inv hl3
  obtain ⟨zn, t4, rfl, hl5⟩ := len_inv hl4
  obtain ⟨zf, t5, rfl, hl6⟩ := len_inv hl5
  obtain ⟨zs, t6, rfl, hl7⟩ := len_inv hl6
  obtain ⟨zt, t7, rfl, hl8⟩ := len_inv hl7
  obtain ⟨h, t8, rfl, hl9⟩ := len_inv hl8
  obtain ⟨r, t9, rfl, hl10⟩ := len_inv hl9
  obtain ⟨g, t10, rfl, hl11⟩ := len_inv hl10
  obtain ⟨ev, t11, rfl, hl12⟩ := len_inv hl11
  obtain ⟨ri, t12, rfl, hl13⟩ := len_inv hl12
  obtain ⟨ml, t13, rfl, hl14⟩ := len_inv hl13
  obtain ⟨so, t14, rfl, hl15⟩ := len_inv hl14
  obtain ⟨t, t15, rfl, hl16⟩ := len_inv hl15
  obtain ⟨kd, t16, rfl, hl17⟩ := len_inv hl16
  obtain ⟨pl, t17, rfl, hl18⟩ := len_inv hl17
  obtain ⟨f, t18, rfl, hl19⟩ := len_inv hl18
  obtain ⟨kw, t19, rfl, hl20⟩ := len_inv hl19
  obtain ⟨v, t20, rfl, hl21⟩ := len_inv hl20
  obtain ⟨w, t21, rfl, hl22⟩ := len_inv hl21
  have hl := List.eq_nil_of_length_eq_zero hl22
  subst hl
  have p1 := p_get3 (by decide) (fOk_hd hp)
  have p2 := p_get3 (by decide) (fOk_hd (fOk_tl hp))
  have p3 := i_get (fOk_hd (fOk_tl (fOk_tl hp)))
  have p4 := gg_get (fOk_hd (fOk_tl (fOk_tl (fOk_tl hp))))
  simp only [List.map, xv, fev, fvl, gtI, Int.one_mul, Int.add_zero, Int.zero_add] at p1 p2 p3 p4
  have q := k_c0_g (z := z) (n := n) (p := p) (k := k) (zn := zn) (zf := zf) (zs := zs) (zt := zt) (h := h) (r := r) (g := g) (ev := ev) (ri := ri) (ml := ml) (so := so) (t := t) (kd := kd) (pl := pl) (f := f) (kw := kw) (v := v) (w := w) (q3 p1) p2 p3 p4
  refine ⟨[], rfl, fOk_cons (p_put3 rfl (by decide) ?_) fOk_nil⟩ <;> simp only [List.map, xv, fev, fvl, gtI, Int.one_mul, Int.add_zero, Int.zero_add, List.append_nil]
  exact ⟨rfl, q⟩
def r_c0_many_g : eRul := (22, [xP 65 [xv 0, xv 1, ([], 0), xv 2, xv 3, xv 4, xv 5, xv 6, xv 7, xv 8, xv 9, xv 10, xv 11, xv 12, xv 13, xv 14, xv 15, ([], 0)], xP 53 [xv 0, xv 1, ([], 900), xv 2, xv 16, xv 17, xv 18, xv 19, xv 20, xv 21], (.inl [[(6, 6)]], [xv 19]), xG (([(10, -1)], 6))], 0, [xP 64 [xv 0, xv 1, ([(17, -1)], -1), ([], 4)]])
theorem r_c0_many_g_ok : ruOk r_c0_many_g := by
  intro ρ hl0 hp
  obtain ⟨z, t0, rfl, hl1⟩ := len_inv hl0
  obtain ⟨n, t1, rfl, hl2⟩ := len_inv hl1
  obtain ⟨p, t2, rfl, hl3⟩ := len_inv hl2
  obtain ⟨k, t3, rfl, hl4⟩ := len_inv hl3
  obtain ⟨zn, t4, rfl, hl5⟩ := len_inv hl4
  obtain ⟨zf, t5, rfl, hl6⟩ := len_inv hl5
  obtain ⟨zs, t6, rfl, hl7⟩ := len_inv hl6
  obtain ⟨zt, t7, rfl, hl8⟩ := len_inv hl7
  obtain ⟨h, t8, rfl, hl9⟩ := len_inv hl8
  obtain ⟨r, t9, rfl, hl10⟩ := len_inv hl9
  obtain ⟨g, t10, rfl, hl11⟩ := len_inv hl10
  obtain ⟨ev, t11, rfl, hl12⟩ := len_inv hl11
  obtain ⟨ri, t12, rfl, hl13⟩ := len_inv hl12
  obtain ⟨ml, t13, rfl, hl14⟩ := len_inv hl13
  obtain ⟨so, t14, rfl, hl15⟩ := len_inv hl14
  obtain ⟨t, t15, rfl, hl16⟩ := len_inv hl15
  obtain ⟨kd, t16, rfl, hl17⟩ := len_inv hl16
  obtain ⟨pl, t17, rfl, hl18⟩ := len_inv hl17
  obtain ⟨f, t18, rfl, hl19⟩ := len_inv hl18
  obtain ⟨kw, t19, rfl, hl20⟩ := len_inv hl19
  obtain ⟨v, t20, rfl, hl21⟩ := len_inv hl20
  obtain ⟨w, t21, rfl, hl22⟩ := len_inv hl21
  have hl := List.eq_nil_of_length_eq_zero hl22
  subst hl
  have p1 := p_get3 (by decide) (fOk_hd hp)
  have p2 := p_get3 (by decide) (fOk_hd (fOk_tl hp))
  have p3 := i_get (fOk_hd (fOk_tl (fOk_tl hp)))
  have p4 := gg_get (fOk_hd (fOk_tl (fOk_tl (fOk_tl hp))))
  simp only [List.map, xv, fev, fvl, gtI, Int.one_mul, Int.add_zero, Int.zero_add] at p1 p2 p3 p4
  have q := k_c0_many_g (z := z) (n := n) (p := p) (k := k) (zn := zn) (zf := zf) (zs := zs) (zt := zt) (h := h) (r := r) (g := g) (ev := ev) (ri := ri) (ml := ml) (so := so) (t := t) (kd := kd) (pl := pl) (f := f) (kw := kw) (v := v) (w := w) (q3 p1) p2 p3 p4
  refine ⟨[], rfl, fOk_cons (p_put3 rfl (by decide) ?_) fOk_nil⟩ <;> simp only [List.map, xv, fev, fvl, gtI, Int.one_mul, Int.add_zero, Int.zero_add, List.append_nil]
  exact q
def r_c0_k7 : eRul := (22, [xP 65 [xv 0, xv 1, ([], 0), xv 2, xv 3, xv 4, xv 5, xv 6, xv 7, xv 8, xv 9, xv 10, xv 11, xv 12, xv 13, xv 14, xv 15, ([], 0)], xP 53 [xv 0, xv 1, ([], 900), xv 2, xv 16, xv 17, xv 18, xv 19, xv 20, xv 21], (.inl [[(7, 7)]], [xv 19])], 0, [xP 65 [xv 0, xv 1, ([], 16), xv 18, xv 3, xv 4, xv 5, xv 6, xv 7, xv 8, xv 9, xv 10, xv 11, xv 12, xv 13, xv 14, xv 15, ([], 0)]])
theorem r_c0_k7_ok : ruOk r_c0_k7 := by
  intro ρ hl0 hp
  obtain ⟨z, t0, rfl, hl1⟩ := len_inv hl0
  obtain ⟨n, t1, rfl, hl2⟩ := len_inv hl1
  obtain ⟨p, t2, rfl, hl3⟩ := len_inv hl2
  obtain ⟨k, t3, rfl, hl4⟩ := len_inv hl3
  obtain ⟨zn, t4, rfl, hl5⟩ := len_inv hl4
  obtain ⟨zf, t5, rfl, hl6⟩ := len_inv hl5
  obtain ⟨zs, t6, rfl, hl7⟩ := len_inv hl6
  obtain ⟨zt, t7, rfl, hl8⟩ := len_inv hl7
  obtain ⟨h, t8, rfl, hl9⟩ := len_inv hl8
  obtain ⟨r, t9, rfl, hl10⟩ := len_inv hl9
  obtain ⟨g, t10, rfl, hl11⟩ := len_inv hl10
  obtain ⟨ev, t11, rfl, hl12⟩ := len_inv hl11
  obtain ⟨ri, t12, rfl, hl13⟩ := len_inv hl12
  obtain ⟨ml, t13, rfl, hl14⟩ := len_inv hl13
  obtain ⟨so, t14, rfl, hl15⟩ := len_inv hl14
  obtain ⟨t, t15, rfl, hl16⟩ := len_inv hl15
  obtain ⟨kd, t16, rfl, hl17⟩ := len_inv hl16
  obtain ⟨pl, t17, rfl, hl18⟩ := len_inv hl17
  obtain ⟨f, t18, rfl, hl19⟩ := len_inv hl18
  obtain ⟨kw, t19, rfl, hl20⟩ := len_inv hl19
  obtain ⟨v, t20, rfl, hl21⟩ := len_inv hl20
  obtain ⟨w, t21, rfl, hl22⟩ := len_inv hl21
  have hl := List.eq_nil_of_length_eq_zero hl22
  subst hl
  have p1 := p_get3 (by decide) (fOk_hd hp)
  have p2 := p_get3 (by decide) (fOk_hd (fOk_tl hp))
  have p3 := i_get (fOk_hd (fOk_tl (fOk_tl hp)))
  simp only [List.map, xv, fev, fvl, gtI, Int.one_mul, Int.add_zero, Int.zero_add] at p1 p2 p3
  have q := k_c0_k7 (z := z) (n := n) (p := p) (k := k) (zn := zn) (zf := zf) (zs := zs) (zt := zt) (h := h) (r := r) (g := g) (ev := ev) (ri := ri) (ml := ml) (so := so) (t := t) (kd := kd) (pl := pl) (f := f) (kw := kw) (v := v) (w := w) (q3 p1) p2 p3
  refine ⟨[], rfl, fOk_cons (p_put3 rfl (by decide) ?_) fOk_nil⟩ <;> simp only [List.map, xv, fev, fvl, gtI, Int.one_mul, Int.add_zero, Int.zero_add, List.append_nil]
  exact ⟨rfl, q⟩
def r_c0_k8 : eRul := (22, [xP 65 [xv 0, xv 1, ([], 0), xv 2, xv 3, xv 4, xv 5, xv 6, xv 7, xv 8, xv 9, xv 10, xv 11, xv 12, xv 13, xv 14, xv 15, ([], 0)], xP 53 [xv 0, xv 1, ([], 900), xv 2, xv 16, xv 17, xv 18, xv 19, xv 20, xv 21], (.inl [[(8, 8)]], [xv 19])], 0, [xP 65 [xv 0, xv 1, ([], 18), xv 18, xv 3, xv 4, xv 5, xv 6, xv 7, xv 8, xv 9, xv 10, xv 11, xv 12, xv 13, xv 14, xv 15, ([], 0)]])
theorem r_c0_k8_ok : ruOk r_c0_k8 := by
  intro ρ hl0 hp
  obtain ⟨z, t0, rfl, hl1⟩ := len_inv hl0
  obtain ⟨n, t1, rfl, hl2⟩ := len_inv hl1
  obtain ⟨p, t2, rfl, hl3⟩ := len_inv hl2
  obtain ⟨k, t3, rfl, hl4⟩ := len_inv hl3
  obtain ⟨zn, t4, rfl, hl5⟩ := len_inv hl4
  obtain ⟨zf, t5, rfl, hl6⟩ := len_inv hl5
  obtain ⟨zs, t6, rfl, hl7⟩ := len_inv hl6
  obtain ⟨zt, t7, rfl, hl8⟩ := len_inv hl7
  obtain ⟨h, t8, rfl, hl9⟩ := len_inv hl8
  obtain ⟨r, t9, rfl, hl10⟩ := len_inv hl9
  obtain ⟨g, t10, rfl, hl11⟩ := len_inv hl10
  obtain ⟨ev, t11, rfl, hl12⟩ := len_inv hl11
  obtain ⟨ri, t12, rfl, hl13⟩ := len_inv hl12
  obtain ⟨ml, t13, rfl, hl14⟩ := len_inv hl13
  obtain ⟨so, t14, rfl, hl15⟩ := len_inv hl14
  obtain ⟨t, t15, rfl, hl16⟩ := len_inv hl15
  obtain ⟨kd, t16, rfl, hl17⟩ := len_inv hl16
  obtain ⟨pl, t17, rfl, hl18⟩ := len_inv hl17
  obtain ⟨f, t18, rfl, hl19⟩ := len_inv hl18
  obtain ⟨kw, t19, rfl, hl20⟩ := len_inv hl19
  obtain ⟨v, t20, rfl, hl21⟩ := len_inv hl20
  obtain ⟨w, t21, rfl, hl22⟩ := len_inv hl21
  have hl := List.eq_nil_of_length_eq_zero hl22
  subst hl
  have p1 := p_get3 (by decide) (fOk_hd hp)
  have p2 := p_get3 (by decide) (fOk_hd (fOk_tl hp))
  have p3 := i_get (fOk_hd (fOk_tl (fOk_tl hp)))
  simp only [List.map, xv, fev, fvl, gtI, Int.one_mul, Int.add_zero, Int.zero_add] at p1 p2 p3
  have q := k_c0_k8 (z := z) (n := n) (p := p) (k := k) (zn := zn) (zf := zf) (zs := zs) (zt := zt) (h := h) (r := r) (g := g) (ev := ev) (ri := ri) (ml := ml) (so := so) (t := t) (kd := kd) (pl := pl) (f := f) (kw := kw) (v := v) (w := w) (q3 p1) p2 p3
  refine ⟨[], rfl, fOk_cons (p_put3 rfl (by decide) ?_) fOk_nil⟩ <;> simp only [List.map, xv, fev, fvl, gtI, Int.one_mul, Int.add_zero, Int.zero_add, List.append_nil]
  exact ⟨rfl, q⟩
def r_c1_ok : eRul := (22, [xP 65 [xv 0, xv 1, ([], 1), xv 2, xv 3, xv 4, xv 5, xv 6, xv 7, xv 8, xv 9, xv 10, xv 11, xv 12, xv 13, xv 14, xv 15, ([], 0)], xP 53 [xv 0, xv 1, ([], 900), xv 2, xv 16, xv 17, xv 18, xv 19, xv 20, xv 21], (.inl [[(3, 3)]], [xv 16]), (.inl [[(0, 99)]], [xv 20])], 0, [xP 65 [xv 0, xv 1, ([], 30), xv 18, xv 3, xv 4, xv 5, xv 6, xv 7, xv 8, xv 9, xv 10, xv 11, xv 12, xv 13, xv 14, xv 15, ([], 0)]])
theorem r_c1_ok_ok : ruOk r_c1_ok := by
  intro ρ hl0 hp
  obtain ⟨z, t0, rfl, hl1⟩ := len_inv hl0
  obtain ⟨n, t1, rfl, hl2⟩ := len_inv hl1
  obtain ⟨p, t2, rfl, hl3⟩ := len_inv hl2
  obtain ⟨k, t3, rfl, hl4⟩ := len_inv hl3
  obtain ⟨zn, t4, rfl, hl5⟩ := len_inv hl4
  obtain ⟨zf, t5, rfl, hl6⟩ := len_inv hl5
  obtain ⟨zs, t6, rfl, hl7⟩ := len_inv hl6
  obtain ⟨zt, t7, rfl, hl8⟩ := len_inv hl7
  obtain ⟨h, t8, rfl, hl9⟩ := len_inv hl8
  obtain ⟨r, t9, rfl, hl10⟩ := len_inv hl9
  obtain ⟨g, t10, rfl, hl11⟩ := len_inv hl10
  obtain ⟨ev, t11, rfl, hl12⟩ := len_inv hl11
  obtain ⟨ri, t12, rfl, hl13⟩ := len_inv hl12
  obtain ⟨ml, t13, rfl, hl14⟩ := len_inv hl13
  obtain ⟨so, t14, rfl, hl15⟩ := len_inv hl14
  obtain ⟨t, t15, rfl, hl16⟩ := len_inv hl15
  obtain ⟨kd, t16, rfl, hl17⟩ := len_inv hl16
  obtain ⟨pl, t17, rfl, hl18⟩ := len_inv hl17
  obtain ⟨f, t18, rfl, hl19⟩ := len_inv hl18
  obtain ⟨kw, t19, rfl, hl20⟩ := len_inv hl19
  obtain ⟨v, t20, rfl, hl21⟩ := len_inv hl20
  obtain ⟨w, t21, rfl, hl22⟩ := len_inv hl21
  have hl := List.eq_nil_of_length_eq_zero hl22
  subst hl
  have p1 := p_get3 (by decide) (fOk_hd hp)
  have p2 := p_get3 (by decide) (fOk_hd (fOk_tl hp))
  have p3 := i_get (fOk_hd (fOk_tl (fOk_tl hp)))
  have p4 := i_get (fOk_hd (fOk_tl (fOk_tl (fOk_tl hp))))
  simp only [List.map, xv, fev, fvl, gtI, Int.one_mul, Int.add_zero, Int.zero_add] at p1 p2 p3 p4
  have q := k_c1_ok (z := z) (n := n) (p := p) (k := k) (zn := zn) (zf := zf) (zs := zs) (zt := zt) (h := h) (r := r) (g := g) (ev := ev) (ri := ri) (ml := ml) (so := so) (t := t) (kd := kd) (pl := pl) (f := f) (kw := kw) (v := v) (w := w) (q3 p1) p2 p3 p4
  refine ⟨[], rfl, fOk_cons (p_put3 rfl (by decide) ?_) fOk_nil⟩ <;> simp only [List.map, xv, fev, fvl, gtI, Int.one_mul, Int.add_zero, Int.zero_add, List.append_nil]
  exact ⟨rfl, q⟩
def r_c1_bad1 : eRul := (22, [xP 65 [xv 0, xv 1, ([], 1), xv 2, xv 3, xv 4, xv 5, xv 6, xv 7, xv 8, xv 9, xv 10, xv 11, xv 12, xv 13, xv 14, xv 15, ([], 0)], xP 53 [xv 0, xv 1, ([], 900), xv 2, xv 16, xv 17, xv 18, xv 19, xv 20, xv 21], xP 57 [xv 16]], 0, [xP 64 [xv 0, xv 1, ([(17, -1)], -1), ([], 1)]])
theorem r_c1_bad1_ok : ruOk r_c1_bad1 := by
  intro ρ hl0 hp
  obtain ⟨z, t0, rfl, hl1⟩ := len_inv hl0
  obtain ⟨n, t1, rfl, hl2⟩ := len_inv hl1
  obtain ⟨p, t2, rfl, hl3⟩ := len_inv hl2
  obtain ⟨k, t3, rfl, hl4⟩ := len_inv hl3
  obtain ⟨zn, t4, rfl, hl5⟩ := len_inv hl4
  obtain ⟨zf, t5, rfl, hl6⟩ := len_inv hl5
  obtain ⟨zs, t6, rfl, hl7⟩ := len_inv hl6
  obtain ⟨zt, t7, rfl, hl8⟩ := len_inv hl7
  obtain ⟨h, t8, rfl, hl9⟩ := len_inv hl8
  obtain ⟨r, t9, rfl, hl10⟩ := len_inv hl9
  obtain ⟨g, t10, rfl, hl11⟩ := len_inv hl10
  obtain ⟨ev, t11, rfl, hl12⟩ := len_inv hl11
  obtain ⟨ri, t12, rfl, hl13⟩ := len_inv hl12
  obtain ⟨ml, t13, rfl, hl14⟩ := len_inv hl13
  obtain ⟨so, t14, rfl, hl15⟩ := len_inv hl14
  obtain ⟨t, t15, rfl, hl16⟩ := len_inv hl15
  obtain ⟨kd, t16, rfl, hl17⟩ := len_inv hl16
  obtain ⟨pl, t17, rfl, hl18⟩ := len_inv hl17
  obtain ⟨f, t18, rfl, hl19⟩ := len_inv hl18
  obtain ⟨kw, t19, rfl, hl20⟩ := len_inv hl19
  obtain ⟨v, t20, rfl, hl21⟩ := len_inv hl20
  obtain ⟨w, t21, rfl, hl22⟩ := len_inv hl21
  have hl := List.eq_nil_of_length_eq_zero hl22
  subst hl
  have p1 := p_get3 (by decide) (fOk_hd hp)
  have p2 := p_get3 (by decide) (fOk_hd (fOk_tl hp))
  have p3 := p_get3 (by decide) (fOk_hd (fOk_tl (fOk_tl hp)))
  simp only [List.map, xv, fev, fvl, gtI, Int.one_mul, Int.add_zero, Int.zero_add] at p1 p2 p3
  have q := k_c1_bad1 (z := z) (n := n) (p := p) (k := k) (zn := zn) (zf := zf) (zs := zs) (zt := zt) (h := h) (r := r) (g := g) (ev := ev) (ri := ri) (ml := ml) (so := so) (t := t) (kd := kd) (pl := pl) (f := f) (kw := kw) (v := v) (w := w) (q3 p1) p2 p3
  refine ⟨[], rfl, fOk_cons (p_put3 rfl (by decide) ?_) fOk_nil⟩ <;> simp only [List.map, xv, fev, fvl, gtI, Int.one_mul, Int.add_zero, Int.zero_add, List.append_nil]
  exact q
def r_c1_bad3 : eRul := (22, [xP 65 [xv 0, xv 1, ([], 1), xv 2, xv 3, xv 4, xv 5, xv 6, xv 7, xv 8, xv 9, xv 10, xv 11, xv 12, xv 13, xv 14, xv 15, ([], 0)], xP 53 [xv 0, xv 1, ([], 900), xv 2, xv 16, xv 17, xv 18, xv 19, xv 20, xv 21], (.inl [[(3, 3)]], [xv 16]), xP 58 [xv 20, ([], 0), ([], 99), ([], 0)]], 0, [xP 64 [xv 0, xv 1, ([(17, -1)], -1), ([], 2)]])
theorem r_c1_bad3_ok : ruOk r_c1_bad3 := by
  intro ρ hl0 hp
  obtain ⟨z, t0, rfl, hl1⟩ := len_inv hl0
  obtain ⟨n, t1, rfl, hl2⟩ := len_inv hl1
  obtain ⟨p, t2, rfl, hl3⟩ := len_inv hl2
  obtain ⟨k, t3, rfl, hl4⟩ := len_inv hl3
  obtain ⟨zn, t4, rfl, hl5⟩ := len_inv hl4
  obtain ⟨zf, t5, rfl, hl6⟩ := len_inv hl5
  obtain ⟨zs, t6, rfl, hl7⟩ := len_inv hl6
  obtain ⟨zt, t7, rfl, hl8⟩ := len_inv hl7
  obtain ⟨h, t8, rfl, hl9⟩ := len_inv hl8
  obtain ⟨r, t9, rfl, hl10⟩ := len_inv hl9
  obtain ⟨g, t10, rfl, hl11⟩ := len_inv hl10
  obtain ⟨ev, t11, rfl, hl12⟩ := len_inv hl11
  obtain ⟨ri, t12, rfl, hl13⟩ := len_inv hl12
  obtain ⟨ml, t13, rfl, hl14⟩ := len_inv hl13
  obtain ⟨so, t14, rfl, hl15⟩ := len_inv hl14
  obtain ⟨t, t15, rfl, hl16⟩ := len_inv hl15
  obtain ⟨kd, t16, rfl, hl17⟩ := len_inv hl16
  obtain ⟨pl, t17, rfl, hl18⟩ := len_inv hl17
  obtain ⟨f, t18, rfl, hl19⟩ := len_inv hl18
  obtain ⟨kw, t19, rfl, hl20⟩ := len_inv hl19
  obtain ⟨v, t20, rfl, hl21⟩ := len_inv hl20
  obtain ⟨w, t21, rfl, hl22⟩ := len_inv hl21
  have hl := List.eq_nil_of_length_eq_zero hl22
  subst hl
  have p1 := p_get3 (by decide) (fOk_hd hp)
  have p2 := p_get3 (by decide) (fOk_hd (fOk_tl hp))
  have p3 := i_get (fOk_hd (fOk_tl (fOk_tl hp)))
  have p4 := p_get3 (by decide) (fOk_hd (fOk_tl (fOk_tl (fOk_tl hp))))
  simp only [List.map, xv, fev, fvl, gtI, Int.one_mul, Int.add_zero, Int.zero_add] at p1 p2 p3 p4
  have q := k_c1_bad3 (z := z) (n := n) (p := p) (k := k) (zn := zn) (zf := zf) (zs := zs) (zt := zt) (h := h) (r := r) (g := g) (ev := ev) (ri := ri) (ml := ml) (so := so) (t := t) (kd := kd) (pl := pl) (f := f) (kw := kw) (v := v) (w := w) (q3 p1) p2 p3 p4
  refine ⟨[], rfl, fOk_cons (p_put3 rfl (by decide) ?_) fOk_nil⟩ <;> simp only [List.map, xv, fev, fvl, gtI, Int.one_mul, Int.add_zero, Int.zero_add, List.append_nil]
  exact q
def r_c2_ok : eRul := (22, [xP 65 [xv 0, xv 1, ([], 2), xv 2, xv 3, xv 4, xv 5, xv 6, xv 7, xv 8, xv 9, xv 10, xv 11, xv 12, xv 13, xv 14, xv 15, ([], 0)], xP 53 [xv 0, xv 1, ([], 900), xv 2, xv 16, xv 17, xv 18, xv 19, xv 20, xv 21], (.inl [[(3, 3)]], [xv 16]), (.inl [[(1, 30)]], [xv 20])], 0, [xP 65 [xv 0, xv 1, ([], 3), xv 18, xv 3, xv 4, xv 5, xv 6, xv 7, xv 8, xv 9, xv 10, xv 20, xv 12, xv 13, xv 14, xv 15, ([], 0)]])
theorem r_c2_ok_ok : ruOk r_c2_ok := by
  intro ρ hl0 hp
  obtain ⟨z, t0, rfl, hl1⟩ := len_inv hl0
  obtain ⟨n, t1, rfl, hl2⟩ := len_inv hl1
  obtain ⟨p, t2, rfl, hl3⟩ := len_inv hl2
  obtain ⟨k, t3, rfl, hl4⟩ := len_inv hl3
  obtain ⟨zn, t4, rfl, hl5⟩ := len_inv hl4
  obtain ⟨zf, t5, rfl, hl6⟩ := len_inv hl5
  obtain ⟨zs, t6, rfl, hl7⟩ := len_inv hl6
  obtain ⟨zt, t7, rfl, hl8⟩ := len_inv hl7
  obtain ⟨h, t8, rfl, hl9⟩ := len_inv hl8
  obtain ⟨r, t9, rfl, hl10⟩ := len_inv hl9
  obtain ⟨g, t10, rfl, hl11⟩ := len_inv hl10
  obtain ⟨ev, t11, rfl, hl12⟩ := len_inv hl11
  obtain ⟨ri, t12, rfl, hl13⟩ := len_inv hl12
  obtain ⟨ml, t13, rfl, hl14⟩ := len_inv hl13
  obtain ⟨so, t14, rfl, hl15⟩ := len_inv hl14
  obtain ⟨t, t15, rfl, hl16⟩ := len_inv hl15
  obtain ⟨kd, t16, rfl, hl17⟩ := len_inv hl16
  obtain ⟨pl, t17, rfl, hl18⟩ := len_inv hl17
  obtain ⟨f, t18, rfl, hl19⟩ := len_inv hl18
  obtain ⟨kw, t19, rfl, hl20⟩ := len_inv hl19
  obtain ⟨v, t20, rfl, hl21⟩ := len_inv hl20
  obtain ⟨w, t21, rfl, hl22⟩ := len_inv hl21
  have hl := List.eq_nil_of_length_eq_zero hl22
  subst hl
  have p1 := p_get3 (by decide) (fOk_hd hp)
  have p2 := p_get3 (by decide) (fOk_hd (fOk_tl hp))
  have p3 := i_get (fOk_hd (fOk_tl (fOk_tl hp)))
  have p4 := i_get (fOk_hd (fOk_tl (fOk_tl (fOk_tl hp))))
  simp only [List.map, xv, fev, fvl, gtI, Int.one_mul, Int.add_zero, Int.zero_add] at p1 p2 p3 p4
  have q := k_c2_ok (z := z) (n := n) (p := p) (k := k) (zn := zn) (zf := zf) (zs := zs) (zt := zt) (h := h) (r := r) (g := g) (ev := ev) (ri := ri) (ml := ml) (so := so) (t := t) (kd := kd) (pl := pl) (f := f) (kw := kw) (v := v) (w := w) (q3 p1) p2 p3 p4
  refine ⟨[], rfl, fOk_cons (p_put3 rfl (by decide) ?_) fOk_nil⟩ <;> simp only [List.map, xv, fev, fvl, gtI, Int.one_mul, Int.add_zero, Int.zero_add, List.append_nil]
  exact ⟨rfl, q⟩
def r_c2_bad1 : eRul := (22, [xP 65 [xv 0, xv 1, ([], 2), xv 2, xv 3, xv 4, xv 5, xv 6, xv 7, xv 8, xv 9, xv 10, xv 11, xv 12, xv 13, xv 14, xv 15, ([], 0)], xP 53 [xv 0, xv 1, ([], 900), xv 2, xv 16, xv 17, xv 18, xv 19, xv 20, xv 21], xP 57 [xv 16]], 0, [xP 64 [xv 0, xv 1, ([(17, -1)], -1), ([], 1)]])
theorem r_c2_bad1_ok : ruOk r_c2_bad1 := by
  intro ρ hl0 hp
  obtain ⟨z, t0, rfl, hl1⟩ := len_inv hl0
  obtain ⟨n, t1, rfl, hl2⟩ := len_inv hl1
  obtain ⟨p, t2, rfl, hl3⟩ := len_inv hl2
  obtain ⟨k, t3, rfl, hl4⟩ := len_inv hl3
  obtain ⟨zn, t4, rfl, hl5⟩ := len_inv hl4
  obtain ⟨zf, t5, rfl, hl6⟩ := len_inv hl5
  obtain ⟨zs, t6, rfl, hl7⟩ := len_inv hl6
  obtain ⟨zt, t7, rfl, hl8⟩ := len_inv hl7
  obtain ⟨h, t8, rfl, hl9⟩ := len_inv hl8
  obtain ⟨r, t9, rfl, hl10⟩ := len_inv hl9
  obtain ⟨g, t10, rfl, hl11⟩ := len_inv hl10
  obtain ⟨ev, t11, rfl, hl12⟩ := len_inv hl11
  obtain ⟨ri, t12, rfl, hl13⟩ := len_inv hl12
  obtain ⟨ml, t13, rfl, hl14⟩ := len_inv hl13
  obtain ⟨so, t14, rfl, hl15⟩ := len_inv hl14
  obtain ⟨t, t15, rfl, hl16⟩ := len_inv hl15
  obtain ⟨kd, t16, rfl, hl17⟩ := len_inv hl16
  obtain ⟨pl, t17, rfl, hl18⟩ := len_inv hl17
  obtain ⟨f, t18, rfl, hl19⟩ := len_inv hl18
  obtain ⟨kw, t19, rfl, hl20⟩ := len_inv hl19
  obtain ⟨v, t20, rfl, hl21⟩ := len_inv hl20
  obtain ⟨w, t21, rfl, hl22⟩ := len_inv hl21
  have hl := List.eq_nil_of_length_eq_zero hl22
  subst hl
  have p1 := p_get3 (by decide) (fOk_hd hp)
  have p2 := p_get3 (by decide) (fOk_hd (fOk_tl hp))
  have p3 := p_get3 (by decide) (fOk_hd (fOk_tl (fOk_tl hp)))
  simp only [List.map, xv, fev, fvl, gtI, Int.one_mul, Int.add_zero, Int.zero_add] at p1 p2 p3
  have q := k_c2_bad1 (z := z) (n := n) (p := p) (k := k) (zn := zn) (zf := zf) (zs := zs) (zt := zt) (h := h) (r := r) (g := g) (ev := ev) (ri := ri) (ml := ml) (so := so) (t := t) (kd := kd) (pl := pl) (f := f) (kw := kw) (v := v) (w := w) (q3 p1) p2 p3
  refine ⟨[], rfl, fOk_cons (p_put3 rfl (by decide) ?_) fOk_nil⟩ <;> simp only [List.map, xv, fev, fvl, gtI, Int.one_mul, Int.add_zero, Int.zero_add, List.append_nil]
  exact q
def r_c2_bad3 : eRul := (22, [xP 65 [xv 0, xv 1, ([], 2), xv 2, xv 3, xv 4, xv 5, xv 6, xv 7, xv 8, xv 9, xv 10, xv 11, xv 12, xv 13, xv 14, xv 15, ([], 0)], xP 53 [xv 0, xv 1, ([], 900), xv 2, xv 16, xv 17, xv 18, xv 19, xv 20, xv 21], (.inl [[(3, 3)]], [xv 16]), xP 58 [xv 20, ([], 1), ([], 30), ([], 0)]], 0, [xP 64 [xv 0, xv 1, ([(17, -1)], -1), ([], 2)]])
theorem r_c2_bad3_ok : ruOk r_c2_bad3 := by
  intro ρ hl0 hp
  obtain ⟨z, t0, rfl, hl1⟩ := len_inv hl0
  obtain ⟨n, t1, rfl, hl2⟩ := len_inv hl1
  obtain ⟨p, t2, rfl, hl3⟩ := len_inv hl2
  obtain ⟨k, t3, rfl, hl4⟩ := len_inv hl3
  obtain ⟨zn, t4, rfl, hl5⟩ := len_inv hl4
  obtain ⟨zf, t5, rfl, hl6⟩ := len_inv hl5
  obtain ⟨zs, t6, rfl, hl7⟩ := len_inv hl6
  obtain ⟨zt, t7, rfl, hl8⟩ := len_inv hl7
  obtain ⟨h, t8, rfl, hl9⟩ := len_inv hl8
  obtain ⟨r, t9, rfl, hl10⟩ := len_inv hl9
  obtain ⟨g, t10, rfl, hl11⟩ := len_inv hl10
  obtain ⟨ev, t11, rfl, hl12⟩ := len_inv hl11
  obtain ⟨ri, t12, rfl, hl13⟩ := len_inv hl12
  obtain ⟨ml, t13, rfl, hl14⟩ := len_inv hl13
  obtain ⟨so, t14, rfl, hl15⟩ := len_inv hl14
  obtain ⟨t, t15, rfl, hl16⟩ := len_inv hl15
  obtain ⟨kd, t16, rfl, hl17⟩ := len_inv hl16
  obtain ⟨pl, t17, rfl, hl18⟩ := len_inv hl17
  obtain ⟨f, t18, rfl, hl19⟩ := len_inv hl18
  obtain ⟨kw, t19, rfl, hl20⟩ := len_inv hl19
  obtain ⟨v, t20, rfl, hl21⟩ := len_inv hl20
  obtain ⟨w, t21, rfl, hl22⟩ := len_inv hl21
  have hl := List.eq_nil_of_length_eq_zero hl22
  subst hl
  have p1 := p_get3 (by decide) (fOk_hd hp)
  have p2 := p_get3 (by decide) (fOk_hd (fOk_tl hp))
  have p3 := i_get (fOk_hd (fOk_tl (fOk_tl hp)))
  have p4 := p_get3 (by decide) (fOk_hd (fOk_tl (fOk_tl (fOk_tl hp))))
  simp only [List.map, xv, fev, fvl, gtI, Int.one_mul, Int.add_zero, Int.zero_add] at p1 p2 p3 p4
  have q := k_c2_bad3 (z := z) (n := n) (p := p) (k := k) (zn := zn) (zf := zf) (zs := zs) (zt := zt) (h := h) (r := r) (g := g) (ev := ev) (ri := ri) (ml := ml) (so := so) (t := t) (kd := kd) (pl := pl) (f := f) (kw := kw) (v := v) (w := w) (q3 p1) p2 p3 p4
  refine ⟨[], rfl, fOk_cons (p_put3 rfl (by decide) ?_) fOk_nil⟩ <;> simp only [List.map, xv, fev, fvl, gtI, Int.one_mul, Int.add_zero, Int.zero_add, List.append_nil]
  exact q
def r_c3_ok : eRul := (22, [xP 65 [xv 0, xv 1, ([], 3), xv 2, xv 3, xv 4, xv 5, xv 6, xv 7, xv 8, xv 9, xv 10, xv 11, xv 12, xv 13, xv 14, xv 15, ([], 0)], xP 53 [xv 0, xv 1, ([], 900), xv 2, xv 16, xv 17, xv 18, xv 19, xv 20, xv 21], (.inl [[(3, 3)]], [xv 16]), (.inl [[(0, 9)]], [xv 20])], 0, [xP 65 [xv 0, xv 1, ([], 30), xv 18, xv 3, xv 4, xv 5, xv 6, xv 7, xv 8, xv 9, xv 10, xv 11, xv 20, xv 13, xv 14, xv 15, ([], 0)]])
theorem r_c3_ok_ok : ruOk r_c3_ok := by
  intro ρ hl0 hp
  obtain ⟨z, t0, rfl, hl1⟩ := len_inv hl0
  obtain ⟨n, t1, rfl, hl2⟩ := len_inv hl1
  obtain ⟨p, t2, rfl, hl3⟩ := len_inv hl2
  obtain ⟨k, t3, rfl, hl4⟩ := len_inv hl3
  obtain ⟨zn, t4, rfl, hl5⟩ := len_inv hl4
  obtain ⟨zf, t5, rfl, hl6⟩ := len_inv hl5
  obtain ⟨zs, t6, rfl, hl7⟩ := len_inv hl6
  obtain ⟨zt, t7, rfl, hl8⟩ := len_inv hl7
  obtain ⟨h, t8, rfl, hl9⟩ := len_inv hl8
  obtain ⟨r, t9, rfl, hl10⟩ := len_inv hl9
  obtain ⟨g, t10, rfl, hl11⟩ := len_inv hl10
  obtain ⟨ev, t11, rfl, hl12⟩ := len_inv hl11
  obtain ⟨ri, t12, rfl, hl13⟩ := len_inv hl12
  obtain ⟨ml, t13, rfl, hl14⟩ := len_inv hl13
  obtain ⟨so, t14, rfl, hl15⟩ := len_inv hl14
  obtain ⟨t, t15, rfl, hl16⟩ := len_inv hl15
  obtain ⟨kd, t16, rfl, hl17⟩ := len_inv hl16
  obtain ⟨pl, t17, rfl, hl18⟩ := len_inv hl17
  obtain ⟨f, t18, rfl, hl19⟩ := len_inv hl18
  obtain ⟨kw, t19, rfl, hl20⟩ := len_inv hl19
  obtain ⟨v, t20, rfl, hl21⟩ := len_inv hl20
  obtain ⟨w, t21, rfl, hl22⟩ := len_inv hl21
  have hl := List.eq_nil_of_length_eq_zero hl22
  subst hl
  have p1 := p_get3 (by decide) (fOk_hd hp)
  have p2 := p_get3 (by decide) (fOk_hd (fOk_tl hp))
  have p3 := i_get (fOk_hd (fOk_tl (fOk_tl hp)))
  have p4 := i_get (fOk_hd (fOk_tl (fOk_tl (fOk_tl hp))))
  simp only [List.map, xv, fev, fvl, gtI, Int.one_mul, Int.add_zero, Int.zero_add] at p1 p2 p3 p4
  have q := k_c3_ok (z := z) (n := n) (p := p) (k := k) (zn := zn) (zf := zf) (zs := zs) (zt := zt) (h := h) (r := r) (g := g) (ev := ev) (ri := ri) (ml := ml) (so := so) (t := t) (kd := kd) (pl := pl) (f := f) (kw := kw) (v := v) (w := w) (q3 p1) p2 p3 p4
  refine ⟨[], rfl, fOk_cons (p_put3 rfl (by decide) ?_) fOk_nil⟩ <;> simp only [List.map, xv, fev, fvl, gtI, Int.one_mul, Int.add_zero, Int.zero_add, List.append_nil]
  exact ⟨rfl, q⟩
def r_c3_bad1 : eRul := (22, [xP 65 [xv 0, xv 1, ([], 3), xv 2, xv 3, xv 4, xv 5, xv 6, xv 7, xv 8, xv 9, xv 10, xv 11, xv 12, xv 13, xv 14, xv 15, ([], 0)], xP 53 [xv 0, xv 1, ([], 900), xv 2, xv 16, xv 17, xv 18, xv 19, xv 20, xv 21], xP 57 [xv 16]], 0, [xP 64 [xv 0, xv 1, ([(17, -1)], -1), ([], 1)]])
theorem r_c3_bad1_ok : ruOk r_c3_bad1 := by
  intro ρ hl0 hp
  obtain ⟨z, t0, rfl, hl1⟩ := len_inv hl0
  obtain ⟨n, t1, rfl, hl2⟩ := len_inv hl1
  obtain ⟨p, t2, rfl, hl3⟩ := len_inv hl2
  obtain ⟨k, t3, rfl, hl4⟩ := len_inv hl3
  obtain ⟨zn, t4, rfl, hl5⟩ := len_inv hl4
  obtain ⟨zf, t5, rfl, hl6⟩ := len_inv hl5
  obtain ⟨zs, t6, rfl, hl7⟩ := len_inv hl6
  obtain ⟨zt, t7, rfl, hl8⟩ := len_inv hl7
  obtain ⟨h, t8, rfl, hl9⟩ := len_inv hl8
  obtain ⟨r, t9, rfl, hl10⟩ := len_inv hl9
  obtain ⟨g, t10, rfl, hl11⟩ := len_inv hl10
  obtain ⟨ev, t11, rfl, hl12⟩ := len_inv hl11
  obtain ⟨ri, t12, rfl, hl13⟩ := len_inv hl12
  obtain ⟨ml, t13, rfl, hl14⟩ := len_inv hl13
  obtain ⟨so, t14, rfl, hl15⟩ := len_inv hl14
  obtain ⟨t, t15, rfl, hl16⟩ := len_inv hl15
  obtain ⟨kd, t16, rfl, hl17⟩ := len_inv hl16
  obtain ⟨pl, t17, rfl, hl18⟩ := len_inv hl17
  obtain ⟨f, t18, rfl, hl19⟩ := len_inv hl18
  obtain ⟨kw, t19, rfl, hl20⟩ := len_inv hl19
  obtain ⟨v, t20, rfl, hl21⟩ := len_inv hl20
  obtain ⟨w, t21, rfl, hl22⟩ := len_inv hl21
  have hl := List.eq_nil_of_length_eq_zero hl22
  subst hl
  have p1 := p_get3 (by decide) (fOk_hd hp)
  have p2 := p_get3 (by decide) (fOk_hd (fOk_tl hp))
  have p3 := p_get3 (by decide) (fOk_hd (fOk_tl (fOk_tl hp)))
  simp only [List.map, xv, fev, fvl, gtI, Int.one_mul, Int.add_zero, Int.zero_add] at p1 p2 p3
  have q := k_c3_bad1 (z := z) (n := n) (p := p) (k := k) (zn := zn) (zf := zf) (zs := zs) (zt := zt) (h := h) (r := r) (g := g) (ev := ev) (ri := ri) (ml := ml) (so := so) (t := t) (kd := kd) (pl := pl) (f := f) (kw := kw) (v := v) (w := w) (q3 p1) p2 p3
  refine ⟨[], rfl, fOk_cons (p_put3 rfl (by decide) ?_) fOk_nil⟩ <;> simp only [List.map, xv, fev, fvl, gtI, Int.one_mul, Int.add_zero, Int.zero_add, List.append_nil]
  exact q
def r_c3_bad3 : eRul := (22, [xP 65 [xv 0, xv 1, ([], 3), xv 2, xv 3, xv 4, xv 5, xv 6, xv 7, xv 8, xv 9, xv 10, xv 11, xv 12, xv 13, xv 14, xv 15, ([], 0)], xP 53 [xv 0, xv 1, ([], 900), xv 2, xv 16, xv 17, xv 18, xv 19, xv 20, xv 21], (.inl [[(3, 3)]], [xv 16]), xP 58 [xv 20, ([], 0), ([], 9), ([], 0)]], 0, [xP 64 [xv 0, xv 1, ([(17, -1)], -1), ([], 2)]])
theorem r_c3_bad3_ok : ruOk r_c3_bad3 := by
  intro ρ hl0 hp
  obtain ⟨z, t0, rfl, hl1⟩ := len_inv hl0
  obtain ⟨n, t1, rfl, hl2⟩ := len_inv hl1
  obtain ⟨p, t2, rfl, hl3⟩ := len_inv hl2
  obtain ⟨k, t3, rfl, hl4⟩ := len_inv hl3
  obtain ⟨zn, t4, rfl, hl5⟩ := len_inv hl4
  obtain ⟨zf, t5, rfl, hl6⟩ := len_inv hl5
  obtain ⟨zs, t6, rfl, hl7⟩ := len_inv hl6
  obtain ⟨zt, t7, rfl, hl8⟩ := len_inv hl7
  obtain ⟨h, t8, rfl, hl9⟩ := len_inv hl8
  obtain ⟨r, t9, rfl, hl10⟩ := len_inv hl9
  obtain ⟨g, t10, rfl, hl11⟩ := len_inv hl10
  obtain ⟨ev, t11, rfl, hl12⟩ := len_inv hl11
  obtain ⟨ri, t12, rfl, hl13⟩ := len_inv hl12
  obtain ⟨ml, t13, rfl, hl14⟩ := len_inv hl13
  obtain ⟨so, t14, rfl, hl15⟩ := len_inv hl14
  obtain ⟨t, t15, rfl, hl16⟩ := len_inv hl15
  obtain ⟨kd, t16, rfl, hl17⟩ := len_inv hl16
  obtain ⟨pl, t17, rfl, hl18⟩ := len_inv hl17
  obtain ⟨f, t18, rfl, hl19⟩ := len_inv hl18
  obtain ⟨kw, t19, rfl, hl20⟩ := len_inv hl19
  obtain ⟨v, t20, rfl, hl21⟩ := len_inv hl20
  obtain ⟨w, t21, rfl, hl22⟩ := len_inv hl21
  have hl := List.eq_nil_of_length_eq_zero hl22
  subst hl
  have p1 := p_get3 (by decide) (fOk_hd hp)
  have p2 := p_get3 (by decide) (fOk_hd (fOk_tl hp))
  have p3 := i_get (fOk_hd (fOk_tl (fOk_tl hp)))
  have p4 := p_get3 (by decide) (fOk_hd (fOk_tl (fOk_tl (fOk_tl hp))))
  simp only [List.map, xv, fev, fvl, gtI, Int.one_mul, Int.add_zero, Int.zero_add] at p1 p2 p3 p4
  have q := k_c3_bad3 (z := z) (n := n) (p := p) (k := k) (zn := zn) (zf := zf) (zs := zs) (zt := zt) (h := h) (r := r) (g := g) (ev := ev) (ri := ri) (ml := ml) (so := so) (t := t) (kd := kd) (pl := pl) (f := f) (kw := kw) (v := v) (w := w) (q3 p1) p2 p3 p4
  refine ⟨[], rfl, fOk_cons (p_put3 rfl (by decide) ?_) fOk_nil⟩ <;> simp only [List.map, xv, fev, fvl, gtI, Int.one_mul, Int.add_zero, Int.zero_add, List.append_nil]
  exact q
def r_c4_ok : eRul := (22, [xP 65 [xv 0, xv 1, ([], 4), xv 2, xv 3, xv 4, xv 5, xv 6, xv 7, xv 8, xv 9, xv 10, xv 11, xv 12, xv 13, xv 14, xv 15, ([], 0)], xP 53 [xv 0, xv 1, ([], 900), xv 2, xv 16, xv 17, xv 18, xv 19, xv 20, xv 21], (.inl [[(3, 3)]], [xv 16]), (.inl [[(0, 99)]], [xv 20])], 0, [xP 65 [xv 0, xv 1, ([], 30), xv 18, xv 3, xv 4, xv 5, xv 6, xv 7, xv 8, xv 9, xv 10, xv 11, xv 12, xv 20, xv 14, xv 15, ([], 0)]])
theorem r_c4_ok_ok : ruOk r_c4_ok := by
  intro ρ hl0 hp
  obtain ⟨z, t0, rfl, hl1⟩ := len_inv hl0
  obtain ⟨n, t1, rfl, hl2⟩ := len_inv hl1
  obtain ⟨p, t2, rfl, hl3⟩ := len_inv hl2
  obtain ⟨k, t3, rfl, hl4⟩ := len_inv hl3
  obtain ⟨zn, t4, rfl, hl5⟩ := len_inv hl4
  obtain ⟨zf, t5, rfl, hl6⟩ := len_inv hl5
  obtain ⟨zs, t6, rfl, hl7⟩ := len_inv hl6
  obtain ⟨zt, t7, rfl, hl8⟩ := len_inv hl7
  obtain ⟨h, t8, rfl, hl9⟩ := len_inv hl8
  obtain ⟨r, t9, rfl, hl10⟩ := len_inv hl9
  obtain ⟨g, t10, rfl, hl11⟩ := len_inv hl10
  obtain ⟨ev, t11, rfl, hl12⟩ := len_inv hl11
  obtain ⟨ri, t12, rfl, hl13⟩ := len_inv hl12
  obtain ⟨ml, t13, rfl, hl14⟩ := len_inv hl13
  obtain ⟨so, t14, rfl, hl15⟩ := len_inv hl14
  obtain ⟨t, t15, rfl, hl16⟩ := len_inv hl15
  obtain ⟨kd, t16, rfl, hl17⟩ := len_inv hl16
  obtain ⟨pl, t17, rfl, hl18⟩ := len_inv hl17
  obtain ⟨f, t18, rfl, hl19⟩ := len_inv hl18
  obtain ⟨kw, t19, rfl, hl20⟩ := len_inv hl19
  obtain ⟨v, t20, rfl, hl21⟩ := len_inv hl20
  obtain ⟨w, t21, rfl, hl22⟩ := len_inv hl21
  have hl := List.eq_nil_of_length_eq_zero hl22
  subst hl
  have p1 := p_get3 (by decide) (fOk_hd hp)
  have p2 := p_get3 (by decide) (fOk_hd (fOk_tl hp))
  have p3 := i_get (fOk_hd (fOk_tl (fOk_tl hp)))
  have p4 := i_get (fOk_hd (fOk_tl (fOk_tl (fOk_tl hp))))
  simp only [List.map, xv, fev, fvl, gtI, Int.one_mul, Int.add_zero, Int.zero_add] at p1 p2 p3 p4
  have q := k_c4_ok (z := z) (n := n) (p := p) (k := k) (zn := zn) (zf := zf) (zs := zs) (zt := zt) (h := h) (r := r) (g := g) (ev := ev) (ri := ri) (ml := ml) (so := so) (t := t) (kd := kd) (pl := pl) (f := f) (kw := kw) (v := v) (w := w) (q3 p1) p2 p3 p4
  refine ⟨[], rfl, fOk_cons (p_put3 rfl (by decide) ?_) fOk_nil⟩ <;> simp only [List.map, xv, fev, fvl, gtI, Int.one_mul, Int.add_zero, Int.zero_add, List.append_nil]
  exact ⟨rfl, q⟩
def r_c4_bad1 : eRul := (22, [xP 65 [xv 0, xv 1, ([], 4), xv 2, xv 3, xv 4, xv 5, xv 6, xv 7, xv 8, xv 9, xv 10, xv 11, xv 12, xv 13, xv 14, xv 15, ([], 0)], xP 53 [xv 0, xv 1, ([], 900), xv 2, xv 16, xv 17, xv 18, xv 19, xv 20, xv 21], xP 57 [xv 16]], 0, [xP 64 [xv 0, xv 1, ([(17, -1)], -1), ([], 1)]])
theorem r_c4_bad1_ok : ruOk r_c4_bad1 := by
  intro ρ hl0 hp
  obtain ⟨z, t0, rfl, hl1⟩ := len_inv hl0
  obtain ⟨n, t1, rfl, hl2⟩ := len_inv hl1
  obtain ⟨p, t2, rfl, hl3⟩ := len_inv hl2
  obtain ⟨k, t3, rfl, hl4⟩ := len_inv hl3
  obtain ⟨zn, t4, rfl, hl5⟩ := len_inv hl4
  obtain ⟨zf, t5, rfl, hl6⟩ := len_inv hl5
  obtain ⟨zs, t6, rfl, hl7⟩ := len_inv hl6
  obtain ⟨zt, t7, rfl, hl8⟩ := len_inv hl7
  obtain ⟨h, t8, rfl, hl9⟩ := len_inv hl8
  obtain ⟨r, t9, rfl, hl10⟩ := len_inv hl9
  obtain ⟨g, t10, rfl, hl11⟩ := len_inv hl10
  obtain ⟨ev, t11, rfl, hl12⟩ := len_inv hl11
  obtain ⟨ri, t12, rfl, hl13⟩ := len_inv hl12
  obtain ⟨ml, t13, rfl, hl14⟩ := len_inv hl13
  obtain ⟨so, t14, rfl, hl15⟩ := len_inv hl14
  obtain ⟨t, t15, rfl, hl16⟩ := len_inv hl15
  obtain ⟨kd, t16, rfl, hl17⟩ := len_inv hl16
  obtain ⟨pl, t17, rfl, hl18⟩ := len_inv hl17
  obtain ⟨f, t18, rfl, hl19⟩ := len_inv hl18
  obtain ⟨kw, t19, rfl, hl20⟩ := len_inv hl19
  obtain ⟨v, t20, rfl, hl21⟩ := len_inv hl20
  obtain ⟨w, t21, rfl, hl22⟩ := len_inv hl21
  have hl := List.eq_nil_of_length_eq_zero hl22
  subst hl
  have p1 := p_get3 (by decide) (fOk_hd hp)
  have p2 := p_get3 (by decide) (fOk_hd (fOk_tl hp))
  have p3 := p_get3 (by decide) (fOk_hd (fOk_tl (fOk_tl hp)))
  simp only [List.map, xv, fev, fvl, gtI, Int.one_mul, Int.add_zero, Int.zero_add] at p1 p2 p3
  have q := k_c4_bad1 (z := z) (n := n) (p := p) (k := k) (zn := zn) (zf := zf) (zs := zs) (zt := zt) (h := h) (r := r) (g := g) (ev := ev) (ri := ri) (ml := ml) (so := so) (t := t) (kd := kd) (pl := pl) (f := f) (kw := kw) (v := v) (w := w) (q3 p1) p2 p3
  refine ⟨[], rfl, fOk_cons (p_put3 rfl (by decide) ?_) fOk_nil⟩ <;> simp only [List.map, xv, fev, fvl, gtI, Int.one_mul, Int.add_zero, Int.zero_add, List.append_nil]
  exact q
def r_c4_bad3 : eRul := (22, [xP 65 [xv 0, xv 1, ([], 4), xv 2, xv 3, xv 4, xv 5, xv 6, xv 7, xv 8, xv 9, xv 10, xv 11, xv 12, xv 13, xv 14, xv 15, ([], 0)], xP 53 [xv 0, xv 1, ([], 900), xv 2, xv 16, xv 17, xv 18, xv 19, xv 20, xv 21], (.inl [[(3, 3)]], [xv 16]), xP 58 [xv 20, ([], 0), ([], 99), ([], 0)]], 0, [xP 64 [xv 0, xv 1, ([(17, -1)], -1), ([], 2)]])
theorem r_c4_bad3_ok : ruOk r_c4_bad3 := by
  intro ρ hl0 hp
  obtain ⟨z, t0, rfl, hl1⟩ := len_inv hl0
  obtain ⟨n, t1, rfl, hl2⟩ := len_inv hl1
  obtain ⟨p, t2, rfl, hl3⟩ := len_inv hl2
  obtain ⟨k, t3, rfl, hl4⟩ := len_inv hl3
  obtain ⟨zn, t4, rfl, hl5⟩ := len_inv hl4
  obtain ⟨zf, t5, rfl, hl6⟩ := len_inv hl5
  obtain ⟨zs, t6, rfl, hl7⟩ := len_inv hl6
  obtain ⟨zt, t7, rfl, hl8⟩ := len_inv hl7
  obtain ⟨h, t8, rfl, hl9⟩ := len_inv hl8
  obtain ⟨r, t9, rfl, hl10⟩ := len_inv hl9
  obtain ⟨g, t10, rfl, hl11⟩ := len_inv hl10
  obtain ⟨ev, t11, rfl, hl12⟩ := len_inv hl11
  obtain ⟨ri, t12, rfl, hl13⟩ := len_inv hl12
  obtain ⟨ml, t13, rfl, hl14⟩ := len_inv hl13
  obtain ⟨so, t14, rfl, hl15⟩ := len_inv hl14
  obtain ⟨t, t15, rfl, hl16⟩ := len_inv hl15
  obtain ⟨kd, t16, rfl, hl17⟩ := len_inv hl16
  obtain ⟨pl, t17, rfl, hl18⟩ := len_inv hl17
  obtain ⟨f, t18, rfl, hl19⟩ := len_inv hl18
  obtain ⟨kw, t19, rfl, hl20⟩ := len_inv hl19
  obtain ⟨v, t20, rfl, hl21⟩ := len_inv hl20
  obtain ⟨w, t21, rfl, hl22⟩ := len_inv hl21
  have hl := List.eq_nil_of_length_eq_zero hl22
  subst hl
  have p1 := p_get3 (by decide) (fOk_hd hp)
  have p2 := p_get3 (by decide) (fOk_hd (fOk_tl hp))
  have p3 := i_get (fOk_hd (fOk_tl (fOk_tl hp)))
  have p4 := p_get3 (by decide) (fOk_hd (fOk_tl (fOk_tl (fOk_tl hp))))
  simp only [List.map, xv, fev, fvl, gtI, Int.one_mul, Int.add_zero, Int.zero_add] at p1 p2 p3 p4
  have q := k_c4_bad3 (z := z) (n := n) (p := p) (k := k) (zn := zn) (zf := zf) (zs := zs) (zt := zt) (h := h) (r := r) (g := g) (ev := ev) (ri := ri) (ml := ml) (so := so) (t := t) (kd := kd) (pl := pl) (f := f) (kw := kw) (v := v) (w := w) (q3 p1) p2 p3 p4
  refine ⟨[], rfl, fOk_cons (p_put3 rfl (by decide) ?_) fOk_nil⟩ <;> simp only [List.map, xv, fev, fvl, gtI, Int.one_mul, Int.add_zero, Int.zero_add, List.append_nil]
  exact q
def r_c5_ok : eRul := (22, [xP 65 [xv 0, xv 1, ([], 5), xv 2, xv 3, xv 4, xv 5, xv 6, xv 7, xv 8, xv 9, xv 10, xv 11, xv 12, xv 13, xv 14, xv 15, ([], 0)], xP 53 [xv 0, xv 1, ([], 900), xv 2, xv 16, xv 17, xv 18, xv 19, xv 20, xv 21], (.inl [[(3, 3)]], [xv 16]), (.inl [[(0, 12)]], [xv 20])], 0, [xP 65 [xv 0, xv 1, ([], 30), xv 18, xv 3, xv 4, xv 5, xv 6, xv 7, xv 8, xv 9, xv 10, xv 11, xv 12, xv 13, xv 20, xv 15, ([], 0)]])
theorem r_c5_ok_ok : ruOk r_c5_ok := by
  intro ρ hl0 hp
  obtain ⟨z, t0, rfl, hl1⟩ := len_inv hl0
  obtain ⟨n, t1, rfl, hl2⟩ := len_inv hl1
  obtain ⟨p, t2, rfl, hl3⟩ := len_inv hl2
  obtain ⟨k, t3, rfl, hl4⟩ := len_inv hl3
  obtain ⟨zn, t4, rfl, hl5⟩ := len_inv hl4
  obtain ⟨zf, t5, rfl, hl6⟩ := len_inv hl5
  obtain ⟨zs, t6, rfl, hl7⟩ := len_inv hl6
  obtain ⟨zt, t7, rfl, hl8⟩ := len_inv hl7
  obtain ⟨h, t8, rfl, hl9⟩ := len_inv hl8
  obtain ⟨r, t9, rfl, hl10⟩ := len_inv hl9
  obtain ⟨g, t10, rfl, hl11⟩ := len_inv hl10
  obtain ⟨ev, t11, rfl, hl12⟩ := len_inv hl11
  obtain ⟨ri, t12, rfl, hl13⟩ := len_inv hl12
  obtain ⟨ml, t13, rfl, hl14⟩ := len_inv hl13
  obtain ⟨so, t14, rfl, hl15⟩ := len_inv hl14
  obtain ⟨t, t15, rfl, hl16⟩ := len_inv hl15
  obtain ⟨kd, t16, rfl, hl17⟩ := len_inv hl16
  obtain ⟨pl, t17, rfl, hl18⟩ := len_inv hl17
  obtain ⟨f, t18, rfl, hl19⟩ := len_inv hl18
  obtain ⟨kw, t19, rfl, hl20⟩ := len_inv hl19
  obtain ⟨v, t20, rfl, hl21⟩ := len_inv hl20
  obtain ⟨w, t21, rfl, hl22⟩ := len_inv hl21
  have hl := List.eq_nil_of_length_eq_zero hl22
  subst hl
  have p1 := p_get3 (by decide) (fOk_hd hp)
  have p2 := p_get3 (by decide) (fOk_hd (fOk_tl hp))
  have p3 := i_get (fOk_hd (fOk_tl (fOk_tl hp)))
  have p4 := i_get (fOk_hd (fOk_tl (fOk_tl (fOk_tl hp))))
  simp only [List.map, xv, fev, fvl, gtI, Int.one_mul, Int.add_zero, Int.zero_add] at p1 p2 p3 p4
  have q := k_c5_ok (z := z) (n := n) (p := p) (k := k) (zn := zn) (zf := zf) (zs := zs) (zt := zt) (h := h) (r := r) (g := g) (ev := ev) (ri := ri) (ml := ml) (so := so) (t := t) (kd := kd) (pl := pl) (f := f) (kw := kw) (v := v) (w := w) (q3 p1) p2 p3 p4
  refine ⟨[], rfl, fOk_cons (p_put3 rfl (by decide) ?_) fOk_nil⟩ <;> simp only [List.map, xv, fev, fvl, gtI, Int.one_mul, Int.add_zero, Int.zero_add, List.append_nil]
  exact ⟨rfl, q⟩
def r_c5_bad1 : eRul := (22, [xP 65 [xv 0, xv 1, ([], 5), xv 2, xv 3, xv 4, xv 5, xv 6, xv 7, xv 8, xv 9, xv 10, xv 11, xv 12, xv 13, xv 14, xv 15, ([], 0)], xP 53 [xv 0, xv 1, ([], 900), xv 2, xv 16, xv 17, xv 18, xv 19, xv 20, xv 21], xP 57 [xv 16]], 0, [xP 64 [xv 0, xv 1, ([(17, -1)], -1), ([], 1)]])
theorem r_c5_bad1_ok : ruOk r_c5_bad1 := by
  intro ρ hl0 hp
  obtain ⟨z, t0, rfl, hl1⟩ := len_inv hl0
  obtain ⟨n, t1, rfl, hl2⟩ := len_inv hl1
  obtain ⟨p, t2, rfl, hl3⟩ := len_inv hl2
  obtain ⟨k, t3, rfl, hl4⟩ := len_inv hl3
  obtain ⟨zn, t4, rfl, hl5⟩ := len_inv hl4
  obtain ⟨zf, t5, rfl, hl6⟩ := len_inv hl5
  obtain ⟨zs, t6, rfl, hl7⟩ := len_inv hl6
  obtain ⟨zt, t7, rfl, hl8⟩ := len_inv hl7
  obtain ⟨h, t8, rfl, hl9⟩ := len_inv hl8
  obtain ⟨r, t9, rfl, hl10⟩ := len_inv hl9
  obtain ⟨g, t10, rfl, hl11⟩ := len_inv hl10
  obtain ⟨ev, t11, rfl, hl12⟩ := len_inv hl11
  obtain ⟨ri, t12, rfl, hl13⟩ := len_inv hl12
  obtain ⟨ml, t13, rfl, hl14⟩ := len_inv hl13
  obtain ⟨so, t14, rfl, hl15⟩ := len_inv hl14
  obtain ⟨t, t15, rfl, hl16⟩ := len_inv hl15
  obtain ⟨kd, t16, rfl, hl17⟩ := len_inv hl16
  obtain ⟨pl, t17, rfl, hl18⟩ := len_inv hl17
  obtain ⟨f, t18, rfl, hl19⟩ := len_inv hl18
  obtain ⟨kw, t19, rfl, hl20⟩ := len_inv hl19
  obtain ⟨v, t20, rfl, hl21⟩ := len_inv hl20
  obtain ⟨w, t21, rfl, hl22⟩ := len_inv hl21
  have hl := List.eq_nil_of_length_eq_zero hl22
  subst hl
  have p1 := p_get3 (by decide) (fOk_hd hp)
  have p2 := p_get3 (by decide) (fOk_hd (fOk_tl hp))
  have p3 := p_get3 (by decide) (fOk_hd (fOk_tl (fOk_tl hp)))
  simp only [List.map, xv, fev, fvl, gtI, Int.one_mul, Int.add_zero, Int.zero_add] at p1 p2 p3
  have q := k_c5_bad1 (z := z) (n := n) (p := p) (k := k) (zn := zn) (zf := zf) (zs := zs) (zt := zt) (h := h) (r := r) (g := g) (ev := ev) (ri := ri) (ml := ml) (so := so) (t := t) (kd := kd) (pl := pl) (f := f) (kw := kw) (v := v) (w := w) (q3 p1) p2 p3
  refine ⟨[], rfl, fOk_cons (p_put3 rfl (by decide) ?_) fOk_nil⟩ <;> simp only [List.map, xv, fev, fvl, gtI, Int.one_mul, Int.add_zero, Int.zero_add, List.append_nil]
  exact q
def r_c5_bad3 : eRul := (22, [xP 65 [xv 0, xv 1, ([], 5), xv 2, xv 3, xv 4, xv 5, xv 6, xv 7, xv 8, xv 9, xv 10, xv 11, xv 12, xv 13, xv 14, xv 15, ([], 0)], xP 53 [xv 0, xv 1, ([], 900), xv 2, xv 16, xv 17, xv 18, xv 19, xv 20, xv 21], (.inl [[(3, 3)]], [xv 16]), xP 58 [xv 20, ([], 0), ([], 12), ([], 0)]], 0, [xP 64 [xv 0, xv 1, ([(17, -1)], -1), ([], 2)]])
theorem r_c5_bad3_ok : ruOk r_c5_bad3 := by
  intro ρ hl0 hp
  obtain ⟨z, t0, rfl, hl1⟩ := len_inv hl0
  obtain ⟨n, t1, rfl, hl2⟩ := len_inv hl1
  obtain ⟨p, t2, rfl, hl3⟩ := len_inv hl2
  obtain ⟨k, t3, rfl, hl4⟩ := len_inv hl3
  obtain ⟨zn, t4, rfl, hl5⟩ := len_inv hl4
  obtain ⟨zf, t5, rfl, hl6⟩ := len_inv hl5
  obtain ⟨zs, t6, rfl, hl7⟩ := len_inv hl6
  obtain ⟨zt, t7, rfl, hl8⟩ := len_inv hl7
  obtain ⟨h, t8, rfl, hl9⟩ := len_inv hl8
  obtain ⟨r, t9, rfl, hl10⟩ := len_inv hl9
  obtain ⟨g, t10, rfl, hl11⟩ := len_inv hl10
  obtain ⟨ev, t11, rfl, hl12⟩ := len_inv hl11
  obtain ⟨ri, t12, rfl, hl13⟩ := len_inv hl12
  obtain ⟨ml, t13, rfl, hl14⟩ := len_inv hl13
  obtain ⟨so, t14, rfl, hl15⟩ := len_inv hl14
  obtain ⟨t, t15, rfl, hl16⟩ := len_inv hl15
  obtain ⟨kd, t16, rfl, hl17⟩ := len_inv hl16
  obtain ⟨pl, t17, rfl, hl18⟩ := len_inv hl17
  obtain ⟨f, t18, rfl, hl19⟩ := len_inv hl18
  obtain ⟨kw, t19, rfl, hl20⟩ := len_inv hl19
  obtain ⟨v, t20, rfl, hl21⟩ := len_inv hl20
  obtain ⟨w, t21, rfl, hl22⟩ := len_inv hl21
  have hl := List.eq_nil_of_length_eq_zero hl22
  subst hl
  have p1 := p_get3 (by decide) (fOk_hd hp)
  have p2 := p_get3 (by decide) (fOk_hd (fOk_tl hp))
  have p3 := i_get (fOk_hd (fOk_tl (fOk_tl hp)))
  have p4 := p_get3 (by decide) (fOk_hd (fOk_tl (fOk_tl (fOk_tl hp))))
  simp only [List.map, xv, fev, fvl, gtI, Int.one_mul, Int.add_zero, Int.zero_add] at p1 p2 p3 p4
  have q := k_c5_bad3 (z := z) (n := n) (p := p) (k := k) (zn := zn) (zf := zf) (zs := zs) (zt := zt) (h := h) (r := r) (g := g) (ev := ev) (ri := ri) (ml := ml) (so := so) (t := t) (kd := kd) (pl := pl) (f := f) (kw := kw) (v := v) (w := w) (q3 p1) p2 p3 p4
  refine ⟨[], rfl, fOk_cons (p_put3 rfl (by decide) ?_) fOk_nil⟩ <;> simp only [List.map, xv, fev, fvl, gtI, Int.one_mul, Int.add_zero, Int.zero_add, List.append_nil]
  exact q
def r_c7_ok : eRul := (22, [xP 65 [xv 0, xv 1, ([], 7), xv 2, xv 3, xv 4, xv 5, xv 6, xv 7, xv 8, xv 9, xv 10, xv 11, xv 12, xv 13, xv 14, xv 15, ([], 0)], xP 53 [xv 0, xv 1, ([], 900), xv 2, xv 16, xv 17, xv 18, xv 19, xv 20, xv 21], (.inl [[(3, 3)]], [xv 16]), (.inl [[(0, 20)]], [xv 20])], 0, [xP 65 [xv 0, xv 1, ([], 8), xv 18, xv 3, xv 4, xv 5, xv 6, xv 7, xv 8, xv 9, xv 10, xv 11, xv 12, xv 13, xv 14, xv 15, ([], 0)]])
theorem r_c7_ok_ok : ruOk r_c7_ok := by
  intro ρ hl0 hp
  obtain ⟨z, t0, rfl, hl1⟩ := len_inv hl0
  obtain ⟨n, t1, rfl, hl2⟩ := len_inv hl1
  obtain ⟨p, t2, rfl, hl3⟩ := len_inv hl2
  obtain ⟨k, t3, rfl, hl4⟩ := len_inv hl3
  obtain ⟨zn, t4, rfl, hl5⟩ := len_inv hl4
  obtain ⟨zf, t5, rfl, hl6⟩ := len_inv hl5
  obtain ⟨zs, t6, rfl, hl7⟩ := len_inv hl6
  obtain ⟨zt, t7, rfl, hl8⟩ := len_inv hl7
  obtain ⟨h, t8, rfl, hl9⟩ := len_inv hl8
  obtain ⟨r, t9, rfl, hl10⟩ := len_inv hl9
  obtain ⟨g, t10, rfl, hl11⟩ := len_inv hl10
  obtain ⟨ev, t11, rfl, hl12⟩ := len_inv hl11
  obtain ⟨ri, t12, rfl, hl13⟩ := len_inv hl12
  obtain ⟨ml, t13, rfl, hl14⟩ := len_inv hl13
  obtain ⟨so, t14, rfl, hl15⟩ := len_inv hl14
  obtain ⟨t, t15, rfl, hl16⟩ := len_inv hl15
  obtain ⟨kd, t16, rfl, hl17⟩ := len_inv hl16
  obtain ⟨pl, t17, rfl, hl18⟩ := len_inv hl17
  obtain ⟨f, t18, rfl, hl19⟩ := len_inv hl18
  obtain ⟨kw, t19, rfl, hl20⟩ := len_inv hl19
  obtain ⟨v, t20, rfl, hl21⟩ := len_inv hl20
  obtain ⟨w, t21, rfl, hl22⟩ := len_inv hl21
  have hl := List.eq_nil_of_length_eq_zero hl22
  subst hl
  have p1 := p_get3 (by decide) (fOk_hd hp)
  have p2 := p_get3 (by decide) (fOk_hd (fOk_tl hp))
  have p3 := i_get (fOk_hd (fOk_tl (fOk_tl hp)))
  have p4 := i_get (fOk_hd (fOk_tl (fOk_tl (fOk_tl hp))))
  simp only [List.map, xv, fev, fvl, gtI, Int.one_mul, Int.add_zero, Int.zero_add] at p1 p2 p3 p4
  have q := k_c7_ok (z := z) (n := n) (p := p) (k := k) (zn := zn) (zf := zf) (zs := zs) (zt := zt) (h := h) (r := r) (g := g) (ev := ev) (ri := ri) (ml := ml) (so := so) (t := t) (kd := kd) (pl := pl) (f := f) (kw := kw) (v := v) (w := w) (q3 p1) p2 p3 p4
  refine ⟨[], rfl, fOk_cons (p_put3 rfl (by decide) ?_) fOk_nil⟩ <;> simp only [List.map, xv, fev, fvl, gtI, Int.one_mul, Int.add_zero, Int.zero_add, List.append_nil]
  exact ⟨rfl, q⟩
def r_c7_bad1 : eRul := (22, [xP 65 [xv 0, xv 1, ([], 7), xv 2, xv 3, xv 4, xv 5, xv 6, xv 7, xv 8, xv 9, xv 10, xv 11, xv 12, xv 13, xv 14, xv 15, ([], 0)], xP 53 [xv 0, xv 1, ([], 900), xv 2, xv 16, xv 17, xv 18, xv 19, xv 20, xv 21], xP 57 [xv 16]], 0, [xP 64 [xv 0, xv 1, ([(17, -1)], -1), ([], 1)]])
theorem r_c7_bad1_ok : ruOk r_c7_bad1 := by
  intro ρ hl0 hp
  obtain ⟨z, t0, rfl, hl1⟩ := len_inv hl0
  obtain ⟨n, t1, rfl, hl2⟩ := len_inv hl1
  obtain ⟨p, t2, rfl, hl3⟩ := len_inv hl2
  obtain ⟨k, t3, rfl, hl4⟩ := len_inv hl3
  obtain ⟨zn, t4, rfl, hl5⟩ := len_inv hl4
  obtain ⟨zf, t5, rfl, hl6⟩ := len_inv hl5
  obtain ⟨zs, t6, rfl, hl7⟩ := len_inv hl6
  obtain ⟨zt, t7, rfl, hl8⟩ := len_inv hl7
  obtain ⟨h, t8, rfl, hl9⟩ := len_inv hl8
  obtain ⟨r, t9, rfl, hl10⟩ := len_inv hl9
  obtain ⟨g, t10, rfl, hl11⟩ := len_inv hl10
  obtain ⟨ev, t11, rfl, hl12⟩ := len_inv hl11
  obtain ⟨ri, t12, rfl, hl13⟩ := len_inv hl12
  obtain ⟨ml, t13, rfl, hl14⟩ := len_inv hl13
  obtain ⟨so, t14, rfl, hl15⟩ := len_inv hl14
  obtain ⟨t, t15, rfl, hl16⟩ := len_inv hl15
  obtain ⟨kd, t16, rfl, hl17⟩ := len_inv hl16
  obtain ⟨pl, t17, rfl, hl18⟩ := len_inv hl17
  obtain ⟨f, t18, rfl, hl19⟩ := len_inv hl18
  obtain ⟨kw, t19, rfl, hl20⟩ := len_inv hl19
  obtain ⟨v, t20, rfl, hl21⟩ := len_inv hl20
  obtain ⟨w, t21, rfl, hl22⟩ := len_inv hl21
  have hl := List.eq_nil_of_length_eq_zero hl22
  subst hl
  have p1 := p_get3 (by decide) (fOk_hd hp)
  have p2 := p_get3 (by decide) (fOk_hd (fOk_tl hp))
  have p3 := p_get3 (by decide) (fOk_hd (fOk_tl (fOk_tl hp)))
  simp only [List.map, xv, fev, fvl, gtI, Int.one_mul, Int.add_zero, Int.zero_add] at p1 p2 p3
  have q := k_c7_bad1 (z := z) (n := n) (p := p) (k := k) (zn := zn) (zf := zf) (zs := zs) (zt := zt) (h := h) (r := r) (g := g) (ev := ev) (ri := ri) (ml := ml) (so := so) (t := t) (kd := kd) (pl := pl) (f := f) (kw := kw) (v := v) (w := w) (q3 p1) p2 p3
  refine ⟨[], rfl, fOk_cons (p_put3 rfl (by decide) ?_) fOk_nil⟩ <;> simp only [List.map, xv, fev, fvl, gtI, Int.one_mul, Int.add_zero, Int.zero_add, List.append_nil]
  exact q
def r_c7_bad3 : eRul := (22, [xP 65 [xv 0, xv 1, ([], 7), xv 2, xv 3, xv 4, xv 5, xv 6, xv 7, xv 8, xv 9, xv 10, xv 11, xv 12, xv 13, xv 14, xv 15, ([], 0)], xP 53 [xv 0, xv 1, ([], 900), xv 2, xv 16, xv 17, xv 18, xv 19, xv 20, xv 21], (.inl [[(3, 3)]], [xv 16]), xP 58 [xv 20, ([], 0), ([], 20), ([], 0)]], 0, [xP 64 [xv 0, xv 1, ([(17, -1)], -1), ([], 2)]])
theorem r_c7_bad3_ok : ruOk r_c7_bad3 := by
  intro ρ hl0 hp
  obtain ⟨z, t0, rfl, hl1⟩ := len_inv hl0
  obtain ⟨n, t1, rfl, hl2⟩ := len_inv hl1
  obtain ⟨p, t2, rfl, hl3⟩ := len_inv hl2
  obtain ⟨k, t3, rfl, hl4⟩ := len_inv hl3
  obtain ⟨zn, t4, rfl, hl5⟩ := len_inv hl4
  obtain ⟨zf, t5, rfl, hl6⟩ := len_inv hl5
  obtain ⟨zs, t6, rfl, hl7⟩ := len_inv hl6
  obtain ⟨zt, t7, rfl, hl8⟩ := len_inv hl7
  obtain ⟨h, t8, rfl, hl9⟩ := len_inv hl8
  obtain ⟨r, t9, rfl, hl10⟩ := len_inv hl9
  obtain ⟨g, t10, rfl, hl11⟩ := len_inv hl10
  obtain ⟨ev, t11, rfl, hl12⟩ := len_inv hl11
  obtain ⟨ri, t12, rfl, hl13⟩ := len_inv hl12
  obtain ⟨ml, t13, rfl, hl14⟩ := len_inv hl13
  obtain ⟨so, t14, rfl, hl15⟩ := len_inv hl14
  obtain ⟨t, t15, rfl, hl16⟩ := len_inv hl15
  obtain ⟨kd, t16, rfl, hl17⟩ := len_inv hl16
  obtain ⟨pl, t17, rfl, hl18⟩ := len_inv hl17
  obtain ⟨f, t18, rfl, hl19⟩ := len_inv hl18
  obtain ⟨kw, t19, rfl, hl20⟩ := len_inv hl19
  obtain ⟨v, t20, rfl, hl21⟩ := len_inv hl20
  obtain ⟨w, t21, rfl, hl22⟩ := len_inv hl21
  have hl := List.eq_nil_of_length_eq_zero hl22
  subst hl
  have p1 := p_get3 (by decide) (fOk_hd hp)
  have p2 := p_get3 (by decide) (fOk_hd (fOk_tl hp))
  have p3 := i_get (fOk_hd (fOk_tl (fOk_tl hp)))
  have p4 := p_get3 (by decide) (fOk_hd (fOk_tl (fOk_tl (fOk_tl hp))))
  simp only [List.map, xv, fev, fvl, gtI, Int.one_mul, Int.add_zero, Int.zero_add] at p1 p2 p3 p4
  have q := k_c7_bad3 (z := z) (n := n) (p := p) (k := k) (zn := zn) (zf := zf) (zs := zs) (zt := zt) (h := h) (r := r) (g := g) (ev := ev) (ri := ri) (ml := ml) (so := so) (t := t) (kd := kd) (pl := pl) (f := f) (kw := kw) (v := v) (w := w) (q3 p1) p2 p3 p4
  refine ⟨[], rfl, fOk_cons (p_put3 rfl (by decide) ?_) fOk_nil⟩ <;> simp only [List.map, xv, fev, fvl, gtI, Int.one_mul, Int.add_zero, Int.zero_add, List.append_nil]
  exact q
def r_c8_ok : eRul := (22, [xP 65 [xv 0, xv 1, ([], 8), xv 2, xv 3, xv 4, xv 5, xv 6, xv 7, xv 8, xv 9, xv 10, xv 11, xv 12, xv 13, xv 14, xv 15, ([], 0)], xP 53 [xv 0, xv 1, ([], 900), xv 2, xv 16, xv 17, xv 18, xv 19, xv 20, xv 21], (.inl [[(3, 3)]], [xv 16]), (.inl [[(0, 20)]], [xv 20])], 0, [xP 65 [xv 0, xv 1, ([], 30), xv 18, xv 3, xv 4, xv 5, xv 6, xv 7, ([(8, 1)], 1), xv 9, xv 10, xv 11, xv 12, xv 13, xv 14, xv 15, ([], 0)]])
theorem r_c8_ok_ok : ruOk r_c8_ok := by
  intro ρ hl0 hp
  obtain ⟨z, t0, rfl, hl1⟩ := len_inv hl0
  obtain ⟨n, t1, rfl, hl2⟩ := len_inv hl1
  obtain ⟨p, t2, rfl, hl3⟩ := len_inv hl2
  obtain ⟨k, t3, rfl, hl4⟩ := len_inv hl3
  obtain ⟨zn, t4, rfl, hl5⟩ := len_inv hl4
  obtain ⟨zf, t5, rfl, hl6⟩ := len_inv hl5
  obtain ⟨zs, t6, rfl, hl7⟩ := len_inv hl6
  obtain ⟨zt, t7, rfl, hl8⟩ := len_inv hl7
  obtain ⟨h, t8, rfl, hl9⟩ := len_inv hl8
  obtain ⟨r, t9, rfl, hl10⟩ := len_inv hl9
  obtain ⟨g, t10, rfl, hl11⟩ := len_inv hl10
  obtain ⟨ev, t11, rfl, hl12⟩ := len_inv hl11
  obtain ⟨ri, t12, rfl, hl13⟩ := len_inv hl12
  obtain ⟨ml, t13, rfl, hl14⟩ := len_inv hl13
  obtain ⟨so, t14, rfl, hl15⟩ := len_inv hl14
  obtain ⟨t, t15, rfl, hl16⟩ := len_inv hl15
  obtain ⟨kd, t16, rfl, hl17⟩ := len_inv hl16
  obtain ⟨pl, t17, rfl, hl18⟩ := len_inv hl17
  obtain ⟨f, t18, rfl, hl19⟩ := len_inv hl18
  obtain ⟨kw, t19, rfl, hl20⟩ := len_inv hl19
  obtain ⟨v, t20, rfl, hl21⟩ := len_inv hl20
  obtain ⟨w, t21, rfl, hl22⟩ := len_inv hl21
  have hl := List.eq_nil_of_length_eq_zero hl22
  subst hl
  have p1 := p_get3 (by decide) (fOk_hd hp)
  have p2 := p_get3 (by decide) (fOk_hd (fOk_tl hp))
  have p3 := i_get (fOk_hd (fOk_tl (fOk_tl hp)))
  have p4 := i_get (fOk_hd (fOk_tl (fOk_tl (fOk_tl hp))))
  simp only [List.map, xv, fev, fvl, gtI, Int.one_mul, Int.add_zero, Int.zero_add] at p1 p2 p3 p4
  have q := k_c8_ok (z := z) (n := n) (p := p) (k := k) (zn := zn) (zf := zf) (zs := zs) (zt := zt) (h := h) (r := r) (g := g) (ev := ev) (ri := ri) (ml := ml) (so := so) (t := t) (kd := kd) (pl := pl) (f := f) (kw := kw) (v := v) (w := w) (q3 p1) p2 p3 p4
  refine ⟨[], rfl, fOk_cons (p_put3 rfl (by decide) ?_) fOk_nil⟩ <;> simp only [List.map, xv, fev, fvl, gtI, Int.one_mul, Int.add_zero, Int.zero_add, List.append_nil]
  exact ⟨rfl, q⟩
def r_c8_bad1 : eRul := (22, [xP 65 [xv 0, xv 1, ([], 8), xv 2, xv 3, xv 4, xv 5, xv 6, xv 7, xv 8, xv 9, xv 10, xv 11, xv 12, xv 13, xv 14, xv 15, ([], 0)], xP 53 [xv 0, xv 1, ([], 900), xv 2, xv 16, xv 17, xv 18, xv 19, xv 20, xv 21], xP 57 [xv 16]], 0, [xP 64 [xv 0, xv 1, ([(17, -1)], -1), ([], 1)]])
theorem r_c8_bad1_ok : ruOk r_c8_bad1 := by
  intro ρ hl0 hp
  obtain ⟨z, t0, rfl, hl1⟩ := len_inv hl0
  obtain ⟨n, t1, rfl, hl2⟩ := len_inv hl1
  obtain ⟨p, t2, rfl, hl3⟩ := len_inv hl2
  obtain ⟨k, t3, rfl, hl4⟩ := len_inv hl3
  obtain ⟨zn, t4, rfl, hl5⟩ := len_inv hl4
  obtain ⟨zf, t5, rfl, hl6⟩ := len_inv hl5
  obtain ⟨zs, t6, rfl, hl7⟩ := len_inv hl6
  obtain ⟨zt, t7, rfl, hl8⟩ := len_inv hl7
  obtain ⟨h, t8, rfl, hl9⟩ := len_inv hl8
  obtain ⟨r, t9, rfl, hl10⟩ := len_inv hl9
  obtain ⟨g, t10, rfl, hl11⟩ := len_inv hl10
  obtain ⟨ev, t11, rfl, hl12⟩ := len_inv hl11
  obtain ⟨ri, t12, rfl, hl13⟩ := len_inv hl12
  obtain ⟨ml, t13, rfl, hl14⟩ := len_inv hl13
  obtain ⟨so, t14, rfl, hl15⟩ := len_inv hl14
  obtain ⟨t, t15, rfl, hl16⟩ := len_inv hl15
  obtain ⟨kd, t16, rfl, hl17⟩ := len_inv hl16
  obtain ⟨pl, t17, rfl, hl18⟩ := len_inv hl17
  obtain ⟨f, t18, rfl, hl19⟩ := len_inv hl18
  obtain ⟨kw, t19, rfl, hl20⟩ := len_inv hl19
  obtain ⟨v, t20, rfl, hl21⟩ := len_inv hl20
  obtain ⟨w, t21, rfl, hl22⟩ := len_inv hl21
  have hl := List.eq_nil_of_length_eq_zero hl22
  subst hl
  have p1 := p_get3 (by decide) (fOk_hd hp)
  have p2 := p_get3 (by decide) (fOk_hd (fOk_tl hp))
  have p3 := p_get3 (by decide) (fOk_hd (fOk_tl (fOk_tl hp)))
  simp only [List.map, xv, fev, fvl, gtI, Int.one_mul, Int.add_zero, Int.zero_add] at p1 p2 p3
  have q := k_c8_bad1 (z := z) (n := n) (p := p) (k := k) (zn := zn) (zf := zf) (zs := zs) (zt := zt) (h := h) (r := r) (g := g) (ev := ev) (ri := ri) (ml := ml) (so := so) (t := t) (kd := kd) (pl := pl) (f := f) (kw := kw) (v := v) (w := w) (q3 p1) p2 p3
  refine ⟨[], rfl, fOk_cons (p_put3 rfl (by decide) ?_) fOk_nil⟩ <;> simp only [List.map, xv, fev, fvl, gtI, Int.one_mul, Int.add_zero, Int.zero_add, List.append_nil]
  exact q
def r_c8_bad3 : eRul := (22, [xP 65 [xv 0, xv 1, ([], 8), xv 2, xv 3, xv 4, xv 5, xv 6, xv 7, xv 8, xv 9, xv 10, xv 11, xv 12, xv 13, xv 14, xv 15, ([], 0)], xP 53 [xv 0, xv 1, ([], 900), xv 2, xv 16, xv 17, xv 18, xv 19, xv 20, xv 21], (.inl [[(3, 3)]], [xv 16]), xP 58 [xv 20, ([], 0), ([], 20), ([], 0)]], 0, [xP 64 [xv 0, xv 1, ([(17, -1)], -1), ([], 2)]])
theorem r_c8_bad3_ok : ruOk r_c8_bad3 := by
  intro ρ hl0 hp
  obtain ⟨z, t0, rfl, hl1⟩ := len_inv hl0
  obtain ⟨n, t1, rfl, hl2⟩ := len_inv hl1
  obtain ⟨p, t2, rfl, hl3⟩ := len_inv hl2
  obtain ⟨k, t3, rfl, hl4⟩ := len_inv hl3
  obtain ⟨zn, t4, rfl, hl5⟩ := len_inv hl4
  obtain ⟨zf, t5, rfl, hl6⟩ := len_inv hl5
  obtain ⟨zs, t6, rfl, hl7⟩ := len_inv hl6
  obtain ⟨zt, t7, rfl, hl8⟩ := len_inv hl7
  obtain ⟨h, t8, rfl, hl9⟩ := len_inv hl8
  obtain ⟨r, t9, rfl, hl10⟩ := len_inv hl9
  obtain ⟨g, t10, rfl, hl11⟩ := len_inv hl10
  obtain ⟨ev, t11, rfl, hl12⟩ := len_inv hl11
  obtain ⟨ri, t12, rfl, hl13⟩ := len_inv hl12
  obtain ⟨ml, t13, rfl, hl14⟩ := len_inv hl13
  obtain ⟨so, t14, rfl, hl15⟩ := len_inv hl14
  obtain ⟨t, t15, rfl, hl16⟩ := len_inv hl15
  obtain ⟨kd, t16, rfl, hl17⟩ := len_inv hl16
  obtain ⟨pl, t17, rfl, hl18⟩ := len_inv hl17
  obtain ⟨f, t18, rfl, hl19⟩ := len_inv hl18
  obtain ⟨kw, t19, rfl, hl20⟩ := len_inv hl19
  obtain ⟨v, t20, rfl, hl21⟩ := len_inv hl20
  obtain ⟨w, t21, rfl, hl22⟩ := len_inv hl21
  have hl := List.eq_nil_of_length_eq_zero hl22
  subst hl
  have p1 := p_get3 (by decide) (fOk_hd hp)
  have p2 := p_get3 (by decide) (fOk_hd (fOk_tl hp))
  have p3 := i_get (fOk_hd (fOk_tl (fOk_tl hp)))
  have p4 := p_get3 (by decide) (fOk_hd (fOk_tl (fOk_tl (fOk_tl hp))))
  simp only [List.map, xv, fev, fvl, gtI, Int.one_mul, Int.add_zero, Int.zero_add] at p1 p2 p3 p4
  have q := k_c8_bad3 (z := z) (n := n) (p := p) (k := k) (zn := zn) (zf := zf) (zs := zs) (zt := zt) (h := h) (r := r) (g := g) (ev := ev) (ri := ri) (ml := ml) (so := so) (t := t) (kd := kd) (pl := pl) (f := f) (kw := kw) (v := v) (w := w) (q3 p1) p2 p3 p4
  refine ⟨[], rfl, fOk_cons (p_put3 rfl (by decide) ?_) fOk_nil⟩ <;> simp only [List.map, xv, fev, fvl, gtI, Int.one_mul, Int.add_zero, Int.zero_add, List.append_nil]
  exact q
def r_c11_ok : eRul := (23, [xP 65 [xv 0, xv 1, ([], 11), xv 2, xv 3, xv 4, xv 5, xv 6, xv 7, xv 8, xv 9, xv 10, xv 11, xv 12, xv 13, xv 14, xv 15, ([], 0)], xP 53 [xv 0, xv 1, ([], 900), xv 2, xv 16, xv 17, xv 18, xv 19, xv 20, xv 21], (.inl [[(3, 3)]], [xv 16]), (.inl [[(0, 99)]], [xv 20]), xP 2 [xv 22, xv 7, xv 9, xv 20]], 0, [xP 65 [xv 0, xv 1, ([], 12), xv 18, xv 3, xv 4, xv 5, xv 6, xv 22, xv 8, xv 9, xv 10, xv 11, xv 12, xv 13, xv 14, xv 15, ([], 0)]])
theorem r_c11_ok_ok : ruOk r_c11_ok := by
  intro ρ hl0 hp
  obtain ⟨z, t0, rfl, hl1⟩ := len_inv hl0
  obtain ⟨n, t1, rfl, hl2⟩ := len_inv hl1
  obtain ⟨p, t2, rfl, hl3⟩ := len_inv hl2
  obtain ⟨k, t3, rfl, hl4⟩ := len_inv hl3
  obtain ⟨zn, t4, rfl, hl5⟩ := len_inv hl4
  obtain ⟨zf, t5, rfl, hl6⟩ := len_inv hl5
  obtain ⟨zs, t6, rfl, hl7⟩ := len_inv hl6
  obtain ⟨zt, t7, rfl, hl8⟩ := len_inv hl7
  obtain ⟨h, t8, rfl, hl9⟩ := len_inv hl8
  obtain ⟨r, t9, rfl, hl10⟩ := len_inv hl9
  obtain ⟨g, t10, rfl, hl11⟩ := len_inv hl10
  obtain ⟨ev, t11, rfl, hl12⟩ := len_inv hl11
  obtain ⟨ri, t12, rfl, hl13⟩ := len_inv hl12
  obtain ⟨ml, t13, rfl, hl14⟩ := len_inv hl13
  obtain ⟨so, t14, rfl, hl15⟩ := len_inv hl14
  obtain ⟨t, t15, rfl, hl16⟩ := len_inv hl15
  obtain ⟨kd, t16, rfl, hl17⟩ := len_inv hl16
  obtain ⟨pl, t17, rfl, hl18⟩ := len_inv hl17
  obtain ⟨f, t18, rfl, hl19⟩ := len_inv hl18
  obtain ⟨kw, t19, rfl, hl20⟩ := len_inv hl19
  obtain ⟨v, t20, rfl, hl21⟩ := len_inv hl20
  obtain ⟨w, t21, rfl, hl22⟩ := len_inv hl21
  obtain ⟨zt2, t22, rfl, hl23⟩ := len_inv hl22
  have hl := List.eq_nil_of_length_eq_zero hl23
  subst hl
  have p1 := p_get3 (by decide) (fOk_hd hp)
  have p2 := p_get3 (by decide) (fOk_hd (fOk_tl hp))
  have p3 := i_get (fOk_hd (fOk_tl (fOk_tl hp)))
  have p4 := i_get (fOk_hd (fOk_tl (fOk_tl (fOk_tl hp))))
  have p5 := p_get (fOk_hd (fOk_tl (fOk_tl (fOk_tl (fOk_tl hp)))))
  simp only [List.map, xv, fev, fvl, gtI, Int.one_mul, Int.add_zero, Int.zero_add, PR] at p1 p2 p3 p4 p5
  have q := k_c11_ok (z := z) (n := n) (p := p) (k := k) (zn := zn) (zf := zf) (zs := zs) (zt := zt) (h := h) (r := r) (g := g) (ev := ev) (ri := ri) (ml := ml) (so := so) (t := t) (kd := kd) (pl := pl) (f := f) (kw := kw) (v := v) (w := w) (zt2 := zt2) (q3 p1) p2 p3 p4 p5
  refine ⟨[], rfl, fOk_cons (p_put3 rfl (by decide) ?_) fOk_nil⟩ <;> simp only [List.map, xv, fev, fvl, gtI, Int.one_mul, Int.add_zero, Int.zero_add, List.append_nil]
  exact ⟨rfl, q⟩
def r_c11_bad1 : eRul := (22, [xP 65 [xv 0, xv 1, ([], 11), xv 2, xv 3, xv 4, xv 5, xv 6, xv 7, xv 8, xv 9, xv 10, xv 11, xv 12, xv 13, xv 14, xv 15, ([], 0)], xP 53 [xv 0, xv 1, ([], 900), xv 2, xv 16, xv 17, xv 18, xv 19, xv 20, xv 21], xP 57 [xv 16]], 0, [xP 64 [xv 0, xv 1, ([(17, -1)], -1), ([], 1)]])
theorem r_c11_bad1_ok : ruOk r_c11_bad1 := by
  intro ρ hl0 hp
  obtain ⟨z, t0, rfl, hl1⟩ := len_inv hl0
  obtain ⟨n, t1, rfl, hl2⟩ := len_inv hl1
  obtain ⟨p, t2, rfl, hl3⟩ := len_inv hl2
  obtain ⟨k, t3, rfl, hl4⟩ := len_inv hl3
  obtain ⟨zn, t4, rfl, hl5⟩ := len_inv hl4
  obtain ⟨zf, t5, rfl, hl6⟩ := len_inv hl5
  obtain ⟨zs, t6, rfl, hl7⟩ := len_inv hl6
  obtain ⟨zt, t7, rfl, hl8⟩ := len_inv hl7
  obtain ⟨h, t8, rfl, hl9⟩ := len_inv hl8
  obtain ⟨r, t9, rfl, hl10⟩ := len_inv hl9
  obtain ⟨g, t10, rfl, hl11⟩ := len_inv hl10
  obtain ⟨ev, t11, rfl, hl12⟩ := len_inv hl11
  obtain ⟨ri, t12, rfl, hl13⟩ := len_inv hl12
  obtain ⟨ml, t13, rfl, hl14⟩ := len_inv hl13
  obtain ⟨so, t14, rfl, hl15⟩ := len_inv hl14
  obtain ⟨t, t15, rfl, hl16⟩ := len_inv hl15
  obtain ⟨kd, t16, rfl, hl17⟩ := len_inv hl16
  obtain ⟨pl, t17, rfl, hl18⟩ := len_inv hl17
  obtain ⟨f, t18, rfl, hl19⟩ := len_inv hl18
  obtain ⟨kw, t19, rfl, hl20⟩ := len_inv hl19
  obtain ⟨v, t20, rfl, hl21⟩ := len_inv hl20
  obtain ⟨w, t21, rfl, hl22⟩ := len_inv hl21
  have hl := List.eq_nil_of_length_eq_zero hl22
  subst hl
  have p1 := p_get3 (by decide) (fOk_hd hp)
  have p2 := p_get3 (by decide) (fOk_hd (fOk_tl hp))
  have p3 := p_get3 (by decide) (fOk_hd (fOk_tl (fOk_tl hp)))
  simp only [List.map, xv, fev, fvl, gtI, Int.one_mul, Int.add_zero, Int.zero_add] at p1 p2 p3
  have q := k_c11_bad1 (z := z) (n := n) (p := p) (k := k) (zn := zn) (zf := zf) (zs := zs) (zt := zt) (h := h) (r := r) (g := g) (ev := ev) (ri := ri) (ml := ml) (so := so) (t := t) (kd := kd) (pl := pl) (f := f) (kw := kw) (v := v) (w := w) (q3 p1) p2 p3
  refine ⟨[], rfl, fOk_cons (p_put3 rfl (by decide) ?_) fOk_nil⟩ <;> simp only [List.map, xv, fev, fvl, gtI, Int.one_mul, Int.add_zero, Int.zero_add, List.append_nil]
  exact q
def r_c11_bad3 : eRul := (22, [xP 65 [xv 0, xv 1, ([], 11), xv 2, xv 3, xv 4, xv 5, xv 6, xv 7, xv 8, xv 9, xv 10, xv 11, xv 12, xv 13, xv 14, xv 15, ([], 0)], xP 53 [xv 0, xv 1, ([], 900), xv 2, xv 16, xv 17, xv 18, xv 19, xv 20, xv 21], (.inl [[(3, 3)]], [xv 16]), xP 58 [xv 20, ([], 0), ([], 99), ([], 0)]], 0, [xP 64 [xv 0, xv 1, ([(17, -1)], -1), ([], 2)]])
theorem r_c11_bad3_ok : ruOk r_c11_bad3 := by
  intro ρ hl0 hp
  obtain ⟨z, t0, rfl, hl1⟩ := len_inv hl0
  obtain ⟨n, t1, rfl, hl2⟩ := len_inv hl1
  obtain ⟨p, t2, rfl, hl3⟩ := len_inv hl2
  obtain ⟨k, t3, rfl, hl4⟩ := len_inv hl3
  obtain ⟨zn, t4, rfl, hl5⟩ := len_inv hl4
  obtain ⟨zf, t5, rfl, hl6⟩ := len_inv hl5
  obtain ⟨zs, t6, rfl, hl7⟩ := len_inv hl6
  obtain ⟨zt, t7, rfl, hl8⟩ := len_inv hl7
  obtain ⟨h, t8, rfl, hl9⟩ := len_inv hl8
  obtain ⟨r, t9, rfl, hl10⟩ := len_inv hl9
  obtain ⟨g, t10, rfl, hl11⟩ := len_inv hl10
  obtain ⟨ev, t11, rfl, hl12⟩ := len_inv hl11
  obtain ⟨ri, t12, rfl, hl13⟩ := len_inv hl12
  obtain ⟨ml, t13, rfl, hl14⟩ := len_inv hl13
  obtain ⟨so, t14, rfl, hl15⟩ := len_inv hl14
  obtain ⟨t, t15, rfl, hl16⟩ := len_inv hl15
  obtain ⟨kd, t16, rfl, hl17⟩ := len_inv hl16
  obtain ⟨pl, t17, rfl, hl18⟩ := len_inv hl17
  obtain ⟨f, t18, rfl, hl19⟩ := len_inv hl18
  obtain ⟨kw, t19, rfl, hl20⟩ := len_inv hl19
  obtain ⟨v, t20, rfl, hl21⟩ := len_inv hl20
  obtain ⟨w, t21, rfl, hl22⟩ := len_inv hl21
  have hl := List.eq_nil_of_length_eq_zero hl22
  subst hl
  have p1 := p_get3 (by decide) (fOk_hd hp)
  have p2 := p_get3 (by decide) (fOk_hd (fOk_tl hp))
  have p3 := i_get (fOk_hd (fOk_tl (fOk_tl hp)))
  have p4 := p_get3 (by decide) (fOk_hd (fOk_tl (fOk_tl (fOk_tl hp))))
  simp only [List.map, xv, fev, fvl, gtI, Int.one_mul, Int.add_zero, Int.zero_add] at p1 p2 p3 p4
  have q := k_c11_bad3 (z := z) (n := n) (p := p) (k := k) (zn := zn) (zf := zf) (zs := zs) (zt := zt) (h := h) (r := r) (g := g) (ev := ev) (ri := ri) (ml := ml) (so := so) (t := t) (kd := kd) (pl := pl) (f := f) (kw := kw) (v := v) (w := w) (q3 p1) p2 p3 p4
  refine ⟨[], rfl, fOk_cons (p_put3 rfl (by decide) ?_) fOk_nil⟩ <;> simp only [List.map, xv, fev, fvl, gtI, Int.one_mul, Int.add_zero, Int.zero_add, List.append_nil]
  exact q
def r_c12_ok : eRul := (22, [xP 65 [xv 0, xv 1, ([], 12), xv 2, xv 3, xv 4, xv 5, xv 6, xv 7, xv 8, xv 9, xv 10, xv 11, xv 12, xv 13, xv 14, xv 15, ([], 0)], xP 53 [xv 0, xv 1, ([], 900), xv 2, xv 16, xv 17, xv 18, xv 19, xv 20, xv 21], (.inl [[(3, 3)]], [xv 16]), (.inl [[(1, 30)]], [xv 20])], 0, [xP 65 [xv 0, xv 1, ([], 30), xv 18, xv 3, xv 4, xv 5, xv 6, xv 7, xv 8, ([(9, 1)], 1), xv 10, xv 11, xv 12, xv 13, xv 14, xv 15, ([], 0)]])
theorem r_c12_ok_ok : ruOk r_c12_ok := by
  intro ρ hl0 hp
  obtain ⟨z, t0, rfl, hl1⟩ := len_inv hl0
  obtain ⟨n, t1, rfl, hl2⟩ := len_inv hl1
  obtain ⟨p, t2, rfl, hl3⟩ := len_inv hl2
  obtain ⟨k, t3, rfl, hl4⟩ := len_inv hl3
  obtain ⟨zn, t4, rfl, hl5⟩ := len_inv hl4
  obtain ⟨zf, t5, rfl, hl6⟩ := len_inv hl5
  obtain ⟨zs, t6, rfl, hl7⟩ := len_inv hl6
  obtain ⟨zt, t7, rfl, hl8⟩ := len_inv hl7
  obtain ⟨h, t8, rfl, hl9⟩ := len_inv hl8
  obtain ⟨r, t9, rfl, hl10⟩ := len_inv hl9
  obtain ⟨g, t10, rfl, hl11⟩ := len_inv hl10
  obtain ⟨ev, t11, rfl, hl12⟩ := len_inv hl11
  obtain ⟨ri, t12, rfl, hl13⟩ := len_inv hl12
  obtain ⟨ml, t13, rfl, hl14⟩ := len_inv hl13
  obtain ⟨so, t14, rfl, hl15⟩ := len_inv hl14
  obtain ⟨t, t15, rfl, hl16⟩ := len_inv hl15
  obtain ⟨kd, t16, rfl, hl17⟩ := len_inv hl16
  obtain ⟨pl, t17, rfl, hl18⟩ := len_inv hl17
  obtain ⟨f, t18, rfl, hl19⟩ := len_inv hl18
  obtain ⟨kw, t19, rfl, hl20⟩ := len_inv hl19
  obtain ⟨v, t20, rfl, hl21⟩ := len_inv hl20
  obtain ⟨w, t21, rfl, hl22⟩ := len_inv hl21
  have hl := List.eq_nil_of_length_eq_zero hl22
  subst hl
  have p1 := p_get3 (by decide) (fOk_hd hp)
  have p2 := p_get3 (by decide) (fOk_hd (fOk_tl hp))
  have p3 := i_get (fOk_hd (fOk_tl (fOk_tl hp)))
  have p4 := i_get (fOk_hd (fOk_tl (fOk_tl (fOk_tl hp))))
  simp only [List.map, xv, fev, fvl, gtI, Int.one_mul, Int.add_zero, Int.zero_add] at p1 p2 p3 p4
  have q := k_c12_ok (z := z) (n := n) (p := p) (k := k) (zn := zn) (zf := zf) (zs := zs) (zt := zt) (h := h) (r := r) (g := g) (ev := ev) (ri := ri) (ml := ml) (so := so) (t := t) (kd := kd) (pl := pl) (f := f) (kw := kw) (v := v) (w := w) (q3 p1) p2 p3 p4
  refine ⟨[], rfl, fOk_cons (p_put3 rfl (by decide) ?_) fOk_nil⟩ <;> simp only [List.map, xv, fev, fvl, gtI, Int.one_mul, Int.add_zero, Int.zero_add, List.append_nil]
  exact ⟨rfl, q⟩
def r_c12_bad1 : eRul := (22, [xP 65 [xv 0, xv 1, ([], 12), xv 2, xv 3, xv 4, xv 5, xv 6, xv 7, xv 8, xv 9, xv 10, xv 11, xv 12, xv 13, xv 14, xv 15, ([], 0)], xP 53 [xv 0, xv 1, ([], 900), xv 2, xv 16, xv 17, xv 18, xv 19, xv 20, xv 21], xP 57 [xv 16]], 0, [xP 64 [xv 0, xv 1, ([(17, -1)], -1), ([], 1)]])
theorem r_c12_bad1_ok : ruOk r_c12_bad1 := by
  intro ρ hl0 hp
  obtain ⟨z, t0, rfl, hl1⟩ := len_inv hl0
  obtain ⟨n, t1, rfl, hl2⟩ := len_inv hl1
  obtain ⟨p, t2, rfl, hl3⟩ := len_inv hl2
  obtain ⟨k, t3, rfl, hl4⟩ := len_inv hl3
  obtain ⟨zn, t4, rfl, hl5⟩ := len_inv hl4
  obtain ⟨zf, t5, rfl, hl6⟩ := len_inv hl5
  obtain ⟨zs, t6, rfl, hl7⟩ := len_inv hl6
  obtain ⟨zt, t7, rfl, hl8⟩ := len_inv hl7
  obtain ⟨h, t8, rfl, hl9⟩ := len_inv hl8
  obtain ⟨r, t9, rfl, hl10⟩ := len_inv hl9
  obtain ⟨g, t10, rfl, hl11⟩ := len_inv hl10
  obtain ⟨ev, t11, rfl, hl12⟩ := len_inv hl11
  obtain ⟨ri, t12, rfl, hl13⟩ := len_inv hl12
  obtain ⟨ml, t13, rfl, hl14⟩ := len_inv hl13
  obtain ⟨so, t14, rfl, hl15⟩ := len_inv hl14
  obtain ⟨t, t15, rfl, hl16⟩ := len_inv hl15
  obtain ⟨kd, t16, rfl, hl17⟩ := len_inv hl16
  obtain ⟨pl, t17, rfl, hl18⟩ := len_inv hl17
  obtain ⟨f, t18, rfl, hl19⟩ := len_inv hl18
  obtain ⟨kw, t19, rfl, hl20⟩ := len_inv hl19
  obtain ⟨v, t20, rfl, hl21⟩ := len_inv hl20
  obtain ⟨w, t21, rfl, hl22⟩ := len_inv hl21
  have hl := List.eq_nil_of_length_eq_zero hl22
  subst hl
  have p1 := p_get3 (by decide) (fOk_hd hp)
  have p2 := p_get3 (by decide) (fOk_hd (fOk_tl hp))
  have p3 := p_get3 (by decide) (fOk_hd (fOk_tl (fOk_tl hp)))
  simp only [List.map, xv, fev, fvl, gtI, Int.one_mul, Int.add_zero, Int.zero_add] at p1 p2 p3
  have q := k_c12_bad1 (z := z) (n := n) (p := p) (k := k) (zn := zn) (zf := zf) (zs := zs) (zt := zt) (h := h) (r := r) (g := g) (ev := ev) (ri := ri) (ml := ml) (so := so) (t := t) (kd := kd) (pl := pl) (f := f) (kw := kw) (v := v) (w := w) (q3 p1) p2 p3
  refine ⟨[], rfl, fOk_cons (p_put3 rfl (by decide) ?_) fOk_nil⟩ <;> simp only [List.map, xv, fev, fvl, gtI, Int.one_mul, Int.add_zero, Int.zero_add, List.append_nil]
  exact q
def r_c12_bad3 : eRul := (22, [xP 65 [xv 0, xv 1, ([], 12), xv 2, xv 3, xv 4, xv 5, xv 6, xv 7, xv 8, xv 9, xv 10, xv 11, xv 12, xv 13, xv 14, xv 15, ([], 0)], xP 53 [xv 0, xv 1, ([], 900), xv 2, xv 16, xv 17, xv 18, xv 19, xv 20, xv 21], (.inl [[(3, 3)]], [xv 16]), xP 58 [xv 20, ([], 1), ([], 30), ([], 0)]], 0, [xP 64 [xv 0, xv 1, ([(17, -1)], -1), ([], 2)]])
theorem r_c12_bad3_ok : ruOk r_c12_bad3 := by
  intro ρ hl0 hp
  obtain ⟨z, t0, rfl, hl1⟩ := len_inv hl0
  obtain ⟨n, t1, rfl, hl2⟩ := len_inv hl1
  obtain ⟨p, t2, rfl, hl3⟩ := len_inv hl2
  obtain ⟨k, t3, rfl, hl4⟩ := len_inv hl3
  obtain ⟨zn, t4, rfl, hl5⟩ := len_inv hl4
  obtain ⟨zf, t5, rfl, hl6⟩ := len_inv hl5
  obtain ⟨zs, t6, rfl, hl7⟩ := len_inv hl6
  obtain ⟨zt, t7, rfl, hl8⟩ := len_inv hl7
  obtain ⟨h, t8, rfl, hl9⟩ := len_inv hl8
  obtain ⟨r, t9, rfl, hl10⟩ := len_inv hl9
  obtain ⟨g, t10, rfl, hl11⟩ := len_inv hl10
  obtain ⟨ev, t11, rfl, hl12⟩ := len_inv hl11
  obtain ⟨ri, t12, rfl, hl13⟩ := len_inv hl12
  obtain ⟨ml, t13, rfl, hl14⟩ := len_inv hl13
  obtain ⟨so, t14, rfl, hl15⟩ := len_inv hl14
  obtain ⟨t, t15, rfl, hl16⟩ := len_inv hl15
  obtain ⟨kd, t16, rfl, hl17⟩ := len_inv hl16
  obtain ⟨pl, t17, rfl, hl18⟩ := len_inv hl17
  obtain ⟨f, t18, rfl, hl19⟩ := len_inv hl18
  obtain ⟨kw, t19, rfl, hl20⟩ := len_inv hl19
  obtain ⟨v, t20, rfl, hl21⟩ := len_inv hl20
  obtain ⟨w, t21, rfl, hl22⟩ := len_inv hl21
  have hl := List.eq_nil_of_length_eq_zero hl22
  subst hl
  have p1 := p_get3 (by decide) (fOk_hd hp)
  have p2 := p_get3 (by decide) (fOk_hd (fOk_tl hp))
  have p3 := i_get (fOk_hd (fOk_tl (fOk_tl hp)))
  have p4 := p_get3 (by decide) (fOk_hd (fOk_tl (fOk_tl (fOk_tl hp))))
  simp only [List.map, xv, fev, fvl, gtI, Int.one_mul, Int.add_zero, Int.zero_add] at p1 p2 p3 p4
  have q := k_c12_bad3 (z := z) (n := n) (p := p) (k := k) (zn := zn) (zf := zf) (zs := zs) (zt := zt) (h := h) (r := r) (g := g) (ev := ev) (ri := ri) (ml := ml) (so := so) (t := t) (kd := kd) (pl := pl) (f := f) (kw := kw) (v := v) (w := w) (q3 p1) p2 p3 p4
  refine ⟨[], rfl, fOk_cons (p_put3 rfl (by decide) ?_) fOk_nil⟩ <;> simp only [List.map, xv, fev, fvl, gtI, Int.one_mul, Int.add_zero, Int.zero_add, List.append_nil]
  exact q
def r_c14_ok : eRul := (22, [xP 65 [xv 0, xv 1, ([], 14), xv 2, xv 3, xv 4, xv 5, xv 6, xv 7, xv 8, xv 9, xv 10, xv 11, xv 12, xv 13, xv 14, xv 15, ([], 0)], xP 53 [xv 0, xv 1, ([], 900), xv 2, xv 16, xv 17, xv 18, xv 19, xv 20, xv 21], (.inl [[(3, 3)]], [xv 16]), (.inl [[(0, 99)]], [xv 20])], 0, [xP 65 [xv 0, xv 1, ([], 15), xv 18, xv 3, xv 4, xv 5, xv 6, xv 7, xv 8, xv 9, xv 10, xv 11, xv 12, xv 13, xv 14, xv 15, ([], 0)]])
theorem r_c14_ok_ok : ruOk r_c14_ok := by
  intro ρ hl0 hp
  obtain ⟨z, t0, rfl, hl1⟩ := len_inv hl0
  obtain ⟨n, t1, rfl, hl2⟩ := len_inv hl1
  obtain ⟨p, t2, rfl, hl3⟩ := len_inv hl2
  obtain ⟨k, t3, rfl, hl4⟩ := len_inv hl3
  obtain ⟨zn, t4, rfl, hl5⟩ := len_inv hl4
  obtain ⟨zf, t5, rfl, hl6⟩ := len_inv hl5
  obtain ⟨zs, t6, rfl, hl7⟩ := len_inv hl6
  obtain ⟨zt, t7, rfl, hl8⟩ := len_inv hl7
  obtain ⟨h, t8, rfl, hl9⟩ := len_inv hl8
  obtain ⟨r, t9, rfl, hl10⟩ := len_inv hl9
  obtain ⟨g, t10, rfl, hl11⟩ := len_inv hl10
  obtain ⟨ev, t11, rfl, hl12⟩ := len_inv hl11
  obtain ⟨ri, t12, rfl, hl13⟩ := len_inv hl12
  obtain ⟨ml, t13, rfl, hl14⟩ := len_inv hl13
  obtain ⟨so, t14, rfl, hl15⟩ := len_inv hl14
  obtain ⟨t, t15, rfl, hl16⟩ := len_inv hl15
  obtain ⟨kd, t16, rfl, hl17⟩ := len_inv hl16
  obtain ⟨pl, t17, rfl, hl18⟩ := len_inv hl17
  obtain ⟨f, t18, rfl, hl19⟩ := len_inv hl18
  obtain ⟨kw, t19, rfl, hl20⟩ := len_inv hl19
  obtain ⟨v, t20, rfl, hl21⟩ := len_inv hl20
  obtain ⟨w, t21, rfl, hl22⟩ := len_inv hl21
  have hl := List.eq_nil_of_length_eq_zero hl22
  subst hl
  have p1 := p_get3 (by decide) (fOk_hd hp)
  have p2 := p_get3 (by decide) (fOk_hd (fOk_tl hp))
  have p3 := i_get (fOk_hd (fOk_tl (fOk_tl hp)))
  have p4 := i_get (fOk_hd (fOk_tl (fOk_tl (fOk_tl hp))))
  simp only [List.map, xv, fev, fvl, gtI, Int.one_mul, Int.add_zero, Int.zero_add] at p1 p2 p3 p4
  have q := k_c14_ok (z := z) (n := n) (p := p) (k := k) (zn := zn) (zf := zf) (zs := zs) (zt := zt) (h := h) (r := r) (g := g) (ev := ev) (ri := ri) (ml := ml) (so := so) (t := t) (kd := kd) (pl := pl) (f := f) (kw := kw) (v := v) (w := w) (q3 p1) p2 p3 p4
  refine ⟨[], rfl, fOk_cons (p_put3 rfl (by decide) ?_) fOk_nil⟩ <;> simp only [List.map, xv, fev, fvl, gtI, Int.one_mul, Int.add_zero, Int.zero_add, List.append_nil]
  exact ⟨rfl, q⟩
def r_c14_bad1 : eRul := (22, [xP 65 [xv 0, xv 1, ([], 14), xv 2, xv 3, xv 4, xv 5, xv 6, xv 7, xv 8, xv 9, xv 10, xv 11, xv 12, xv 13, xv 14, xv 15, ([], 0)], xP 53 [xv 0, xv 1, ([], 900), xv 2, xv 16, xv 17, xv 18, xv 19, xv 20, xv 21], xP 57 [xv 16]], 0, [xP 64 [xv 0, xv 1, ([(17, -1)], -1), ([], 1)]])
theorem r_c14_bad1_ok : ruOk r_c14_bad1 := by
  intro ρ hl0 hp
  obtain ⟨z, t0, rfl, hl1⟩ := len_inv hl0
  obtain ⟨n, t1, rfl, hl2⟩ := len_inv hl1
  obtain ⟨p, t2, rfl, hl3⟩ := len_inv hl2
  obtain ⟨k, t3, rfl, hl4⟩ := len_inv hl3
  obtain ⟨zn, t4, rfl, hl5⟩ := len_inv hl4
  obtain ⟨zf, t5, rfl, hl6⟩ := len_inv hl5
  obtain ⟨zs, t6, rfl, hl7⟩ := len_inv hl6
  obtain ⟨zt, t7, rfl, hl8⟩ := len_inv hl7
  obtain ⟨h, t8, rfl, hl9⟩ := len_inv hl8
  obtain ⟨r, t9, rfl, hl10⟩ := len_inv hl9
  obtain ⟨g, t10, rfl, hl11⟩ := len_inv hl10
  obtain ⟨ev, t11, rfl, hl12⟩ := len_inv hl11
  obtain ⟨ri, t12, rfl, hl13⟩ := len_inv hl12
  obtain ⟨ml, t13, rfl, hl14⟩ := len_inv hl13
  obtain ⟨so, t14, rfl, hl15⟩ := len_inv hl14
  obtain ⟨t, t15, rfl, hl16⟩ := len_inv hl15
  obtain ⟨kd, t16, rfl, hl17⟩ := len_inv hl16
  obtain ⟨pl, t17, rfl, hl18⟩ := len_inv hl17
  obtain ⟨f, t18, rfl, hl19⟩ := len_inv hl18
  obtain ⟨kw, t19, rfl, hl20⟩ := len_inv hl19
  obtain ⟨v, t20, rfl, hl21⟩ := len_inv hl20
  obtain ⟨w, t21, rfl, hl22⟩ := len_inv hl21
  have hl := List.eq_nil_of_length_eq_zero hl22
  subst hl
  have p1 := p_get3 (by decide) (fOk_hd hp)
  have p2 := p_get3 (by decide) (fOk_hd (fOk_tl hp))
  have p3 := p_get3 (by decide) (fOk_hd (fOk_tl (fOk_tl hp)))
  simp only [List.map, xv, fev, fvl, gtI, Int.one_mul, Int.add_zero, Int.zero_add] at p1 p2 p3
  have q := k_c14_bad1 (z := z) (n := n) (p := p) (k := k) (zn := zn) (zf := zf) (zs := zs) (zt := zt) (h := h) (r := r) (g := g) (ev := ev) (ri := ri) (ml := ml) (so := so) (t := t) (kd := kd) (pl := pl) (f := f) (kw := kw) (v := v) (w := w) (q3 p1) p2 p3
  refine ⟨[], rfl, fOk_cons (p_put3 rfl (by decide) ?_) fOk_nil⟩ <;> simp only [List.map, xv, fev, fvl, gtI, Int.one_mul, Int.add_zero, Int.zero_add, List.append_nil]
  exact q
def r_c14_bad3 : eRul := (22, [xP 65 [xv 0, xv 1, ([], 14), xv 2, xv 3, xv 4, xv 5, xv 6, xv 7, xv 8, xv 9, xv 10, xv 11, xv 12, xv 13, xv 14, xv 15, ([], 0)], xP 53 [xv 0, xv 1, ([], 900), xv 2, xv 16, xv 17, xv 18, xv 19, xv 20, xv 21], (.inl [[(3, 3)]], [xv 16]), xP 58 [xv 20, ([], 0), ([], 99), ([], 0)]], 0, [xP 64 [xv 0, xv 1, ([(17, -1)], -1), ([], 2)]])
theorem r_c14_bad3_ok : ruOk r_c14_bad3 := by
  intro ρ hl0 hp
  obtain ⟨z, t0, rfl, hl1⟩ := len_inv hl0
  obtain ⟨n, t1, rfl, hl2⟩ := len_inv hl1
  obtain ⟨p, t2, rfl, hl3⟩ := len_inv hl2
  obtain ⟨k, t3, rfl, hl4⟩ := len_inv hl3
  obtain ⟨zn, t4, rfl, hl5⟩ := len_inv hl4
  obtain ⟨zf, t5, rfl, hl6⟩ := len_inv hl5
  obtain ⟨zs, t6, rfl, hl7⟩ := len_inv hl6
  obtain ⟨zt, t7, rfl, hl8⟩ := len_inv hl7
  obtain ⟨h, t8, rfl, hl9⟩ := len_inv hl8
  obtain ⟨r, t9, rfl, hl10⟩ := len_inv hl9
  obtain ⟨g, t10, rfl, hl11⟩ := len_inv hl10
  obtain ⟨ev, t11, rfl, hl12⟩ := len_inv hl11
  obtain ⟨ri, t12, rfl, hl13⟩ := len_inv hl12
  obtain ⟨ml, t13, rfl, hl14⟩ := len_inv hl13
  obtain ⟨so, t14, rfl, hl15⟩ := len_inv hl14
  obtain ⟨t, t15, rfl, hl16⟩ := len_inv hl15
  obtain ⟨kd, t16, rfl, hl17⟩ := len_inv hl16
  obtain ⟨pl, t17, rfl, hl18⟩ := len_inv hl17
  obtain ⟨f, t18, rfl, hl19⟩ := len_inv hl18
  obtain ⟨kw, t19, rfl, hl20⟩ := len_inv hl19
  obtain ⟨v, t20, rfl, hl21⟩ := len_inv hl20
  obtain ⟨w, t21, rfl, hl22⟩ := len_inv hl21
  have hl := List.eq_nil_of_length_eq_zero hl22
  subst hl
  have p1 := p_get3 (by decide) (fOk_hd hp)
  have p2 := p_get3 (by decide) (fOk_hd (fOk_tl hp))
  have p3 := i_get (fOk_hd (fOk_tl (fOk_tl hp)))
  have p4 := p_get3 (by decide) (fOk_hd (fOk_tl (fOk_tl (fOk_tl hp))))
  simp only [List.map, xv, fev, fvl, gtI, Int.one_mul, Int.add_zero, Int.zero_add] at p1 p2 p3 p4
  have q := k_c14_bad3 (z := z) (n := n) (p := p) (k := k) (zn := zn) (zf := zf) (zs := zs) (zt := zt) (h := h) (r := r) (g := g) (ev := ev) (ri := ri) (ml := ml) (so := so) (t := t) (kd := kd) (pl := pl) (f := f) (kw := kw) (v := v) (w := w) (q3 p1) p2 p3 p4
  refine ⟨[], rfl, fOk_cons (p_put3 rfl (by decide) ?_) fOk_nil⟩ <;> simp only [List.map, xv, fev, fvl, gtI, Int.one_mul, Int.add_zero, Int.zero_add, List.append_nil]
  exact q
def r_c15_ok : eRul := (22, [xP 65 [xv 0, xv 1, ([], 15), xv 2, xv 3, xv 4, xv 5, xv 6, xv 7, xv 8, xv 9, xv 10, xv 11, xv 12, xv 13, xv 14, xv 15, ([], 0)], xP 53 [xv 0, xv 1, ([], 900), xv 2, xv 16, xv 17, xv 18, xv 19, xv 20, xv 21], (.inl [[(3, 3)]], [xv 16]), (.inl [[(0, 20)]], [xv 20])], 0, [xP 65 [xv 0, xv 1, ([], 30), xv 18, xv 3, xv 4, xv 5, xv 6, xv 7, xv 8, xv 9, ([(10, 1)], 1), xv 11, xv 12, xv 13, xv 14, xv 15, ([], 0)]])
theorem r_c15_ok_ok : ruOk r_c15_ok := by
  intro ρ hl0 hp
  obtain ⟨z, t0, rfl, hl1⟩ := len_inv hl0
  obtain ⟨n, t1, rfl, hl2⟩ := len_inv hl1
  obtain ⟨p, t2, rfl, hl3⟩ := len_inv hl2
  obtain ⟨k, t3, rfl, hl4⟩ := len_inv hl3
  obtain ⟨zn, t4, rfl, hl5⟩ := len_inv hl4
  obtain ⟨zf, t5, rfl, hl6⟩ := len_inv hl5
  obtain ⟨zs, t6, rfl, hl7⟩ := len_inv hl6
  obtain ⟨zt, t7, rfl, hl8⟩ := len_inv hl7
  obtain ⟨h, t8, rfl, hl9⟩ := len_inv hl8
  obtain ⟨r, t9, rfl, hl10⟩ := len_inv hl9
  obtain ⟨g, t10, rfl, hl11⟩ := len_inv hl10
  obtain ⟨ev, t11, rfl, hl12⟩ := len_inv hl11
  obtain ⟨ri, t12, rfl, hl13⟩ := len_inv hl12
  obtain ⟨ml, t13, rfl, hl14⟩ := len_inv hl13
  obtain ⟨so, t14, rfl, hl15⟩ := len_inv hl14
  obtain ⟨t, t15, rfl, hl16⟩ := len_inv hl15
  obtain ⟨kd, t16, rfl, hl17⟩ := len_inv hl16
  obtain ⟨pl, t17, rfl, hl18⟩ := len_inv hl17
  obtain ⟨f, t18, rfl, hl19⟩ := len_inv hl18
  obtain ⟨kw, t19, rfl, hl20⟩ := len_inv hl19
  obtain ⟨v, t20, rfl, hl21⟩ := len_inv hl20
  obtain ⟨w, t21, rfl, hl22⟩ := len_inv hl21
  have hl := List.eq_nil_of_length_eq_zero hl22
  subst hl
  have p1 := p_get3 (by decide) (fOk_hd hp)
  have p2 := p_get3 (by decide) (fOk_hd (fOk_tl hp))
  have p3 := i_get (fOk_hd (fOk_tl (fOk_tl hp)))
  have p4 := i_get (fOk_hd (fOk_tl (fOk_tl (fOk_tl hp))))
  simp only [List.map, xv, fev, fvl, gtI, Int.one_mul, Int.add_zero, Int.zero_add] at p1 p2 p3 p4
  have q := k_c15_ok (z := z) (n := n) (p := p) (k := k) (zn := zn) (zf := zf) (zs := zs) (zt := zt) (h := h) (r := r) (g := g) (ev := ev) (ri := ri) (ml := ml) (so := so) (t := t) (kd := kd) (pl := pl) (f := f) (kw := kw) (v := v) (w := w) (q3 p1) p2 p3 p4
  refine ⟨[], rfl, fOk_cons (p_put3 rfl (by decide) ?_) fOk_nil⟩ <;> simp only [List.map, xv, fev, fvl, gtI, Int.one_mul, Int.add_zero, Int.zero_add, List.append_nil]
  exact ⟨rfl, q⟩
def r_c15_bad1 : eRul := (22, [xP 65 [xv 0, xv 1, ([], 15), xv 2, xv 3, xv 4, xv 5, xv 6, xv 7, xv 8, xv 9, xv 10, xv 11, xv 12, xv 13, xv 14, xv 15, ([], 0)], xP 53 [xv 0, xv 1, ([], 900), xv 2, xv 16, xv 17, xv 18, xv 19, xv 20, xv 21], xP 57 [xv 16]], 0, [xP 64 [xv 0, xv 1, ([(17, -1)], -1), ([], 1)]])
theorem r_c15_bad1_ok : ruOk r_c15_bad1 := by
  intro ρ hl0 hp
  obtain ⟨z, t0, rfl, hl1⟩ := len_inv hl0
  obtain ⟨n, t1, rfl, hl2⟩ := len_inv hl1
  obtain ⟨p, t2, rfl, hl3⟩ := len_inv hl2
  obtain ⟨k, t3, rfl, hl4⟩ := len_inv hl3
  obtain ⟨zn, t4, rfl, hl5⟩ := len_inv hl4
  obtain ⟨zf, t5, rfl, hl6⟩ := len_inv hl5
  obtain ⟨zs, t6, rfl, hl7⟩ := len_inv hl6
  obtain ⟨zt, t7, rfl, hl8⟩ := len_inv hl7
  obtain ⟨h, t8, rfl, hl9⟩ := len_inv hl8
  obtain ⟨r, t9, rfl, hl10⟩ := len_inv hl9
  obtain ⟨g, t10, rfl, hl11⟩ := len_inv hl10
  obtain ⟨ev, t11, rfl, hl12⟩ := len_inv hl11
  obtain ⟨ri, t12, rfl, hl13⟩ := len_inv hl12
  obtain ⟨ml, t13, rfl, hl14⟩ := len_inv hl13
  obtain ⟨so, t14, rfl, hl15⟩ := len_inv hl14
  obtain ⟨t, t15, rfl, hl16⟩ := len_inv hl15
  obtain ⟨kd, t16, rfl, hl17⟩ := len_inv hl16
  obtain ⟨pl, t17, rfl, hl18⟩ := len_inv hl17
  obtain ⟨f, t18, rfl, hl19⟩ := len_inv hl18
  obtain ⟨kw, t19, rfl, hl20⟩ := len_inv hl19
  obtain ⟨v, t20, rfl, hl21⟩ := len_inv hl20
  obtain ⟨w, t21, rfl, hl22⟩ := len_inv hl21
  have hl := List.eq_nil_of_length_eq_zero hl22
  subst hl
  have p1 := p_get3 (by decide) (fOk_hd hp)
  have p2 := p_get3 (by decide) (fOk_hd (fOk_tl hp))
  have p3 := p_get3 (by decide) (fOk_hd (fOk_tl (fOk_tl hp)))
  simp only [List.map, xv, fev, fvl, gtI, Int.one_mul, Int.add_zero, Int.zero_add] at p1 p2 p3
  have q := k_c15_bad1 (z := z) (n := n) (p := p) (k := k) (zn := zn) (zf := zf) (zs := zs) (zt := zt) (h := h) (r := r) (g := g) (ev := ev) (ri := ri) (ml := ml) (so := so) (t := t) (kd := kd) (pl := pl) (f := f) (kw := kw) (v := v) (w := w) (q3 p1) p2 p3
  refine ⟨[], rfl, fOk_cons (p_put3 rfl (by decide) ?_) fOk_nil⟩ <;> simp only [List.map, xv, fev, fvl, gtI, Int.one_mul, Int.add_zero, Int.zero_add, List.append_nil]
  exact q
def r_c15_bad3 : eRul := (22, [xP 65 [xv 0, xv 1, ([], 15), xv 2, xv 3, xv 4, xv 5, xv 6, xv 7, xv 8, xv 9, xv 10, xv 11, xv 12, xv 13, xv 14, xv 15, ([], 0)], xP 53 [xv 0, xv 1, ([], 900), xv 2, xv 16, xv 17, xv 18, xv 19, xv 20, xv 21], (.inl [[(3, 3)]], [xv 16]), xP 58 [xv 20, ([], 0), ([], 20), ([], 0)]], 0, [xP 64 [xv 0, xv 1, ([(17, -1)], -1), ([], 2)]])
theorem r_c15_bad3_ok : ruOk r_c15_bad3 := by
  intro ρ hl0 hp
  obtain ⟨z, t0, rfl, hl1⟩ := len_inv hl0
  obtain ⟨n, t1, rfl, hl2⟩ := len_inv hl1
  obtain ⟨p, t2, rfl, hl3⟩ := len_inv hl2
  obtain ⟨k, t3, rfl, hl4⟩ := len_inv hl3
  obtain ⟨zn, t4, rfl, hl5⟩ := len_inv hl4
  obtain ⟨zf, t5, rfl, hl6⟩ := len_inv hl5
  obtain ⟨zs, t6, rfl, hl7⟩ := len_inv hl6
  obtain ⟨zt, t7, rfl, hl8⟩ := len_inv hl7
  obtain ⟨h, t8, rfl, hl9⟩ := len_inv hl8
  obtain ⟨r, t9, rfl, hl10⟩ := len_inv hl9
  obtain ⟨g, t10, rfl, hl11⟩ := len_inv hl10
  obtain ⟨ev, t11, rfl, hl12⟩ := len_inv hl11
  obtain ⟨ri, t12, rfl, hl13⟩ := len_inv hl12
  obtain ⟨ml, t13, rfl, hl14⟩ := len_inv hl13
  obtain ⟨so, t14, rfl, hl15⟩ := len_inv hl14
  obtain ⟨t, t15, rfl, hl16⟩ := len_inv hl15
  obtain ⟨kd, t16, rfl, hl17⟩ := len_inv hl16
  obtain ⟨pl, t17, rfl, hl18⟩ := len_inv hl17
  obtain ⟨f, t18, rfl, hl19⟩ := len_inv hl18
  obtain ⟨kw, t19, rfl, hl20⟩ := len_inv hl19
  obtain ⟨v, t20, rfl, hl21⟩ := len_inv hl20
  obtain ⟨w, t21, rfl, hl22⟩ := len_inv hl21
  have hl := List.eq_nil_of_length_eq_zero hl22
  subst hl
  have p1 := p_get3 (by decide) (fOk_hd hp)
  have p2 := p_get3 (by decide) (fOk_hd (fOk_tl hp))
  have p3 := i_get (fOk_hd (fOk_tl (fOk_tl hp)))
  have p4 := p_get3 (by decide) (fOk_hd (fOk_tl (fOk_tl (fOk_tl hp))))
  simp only [List.map, xv, fev, fvl, gtI, Int.one_mul, Int.add_zero, Int.zero_add] at p1 p2 p3 p4
  have q := k_c15_bad3 (z := z) (n := n) (p := p) (k := k) (zn := zn) (zf := zf) (zs := zs) (zt := zt) (h := h) (r := r) (g := g) (ev := ev) (ri := ri) (ml := ml) (so := so) (t := t) (kd := kd) (pl := pl) (f := f) (kw := kw) (v := v) (w := w) (q3 p1) p2 p3 p4
  refine ⟨[], rfl, fOk_cons (p_put3 rfl (by decide) ?_) fOk_nil⟩ <;> simp only [List.map, xv, fev, fvl, gtI, Int.one_mul, Int.add_zero, Int.zero_add, List.append_nil]
  exact q
def r_c6_ok : eRul := (23, [xP 65 [xv 0, xv 1, ([], 6), xv 2, xv 3, xv 4, xv 5, xv 6, xv 7, xv 8, xv 9, xv 10, xv 11, xv 12, xv 13, xv 14, xv 15, ([], 0)], xP 53 [xv 0, xv 1, ([], 900), xv 2, xv 16, xv 17, xv 18, xv 19, xv 20, xv 21], xP 55 [xv 16, xv 19, ([], 1)], xP 61 [xv 4, ([], 0), ([], 19), xv 21, ([], -1)], xP 2 [xv 22, xv 4, xv 8, xv 21]], 0, [xP 65 [xv 0, xv 1, ([], 7), xv 18, xv 3, xv 22, xv 5, xv 6, xv 7, xv 8, xv 9, xv 10, xv 11, xv 12, xv 13, xv 14, xv 15, ([], 0)]])
theorem r_c6_ok_ok : ruOk r_c6_ok := by
  intro ρ hl0 hp
  obtain ⟨z, t0, rfl, hl1⟩ := len_inv hl0
  obtain ⟨n, t1, rfl, hl2⟩ := len_inv hl1
  obtain ⟨p, t2, rfl, hl3⟩ := len_inv hl2
  obtain ⟨k, t3, rfl, hl4⟩ := len_inv hl3
  obtain ⟨zn, t4, rfl, hl5⟩ := len_inv hl4
  obtain ⟨zf, t5, rfl, hl6⟩ := len_inv hl5
  obtain ⟨zs, t6, rfl, hl7⟩ := len_inv hl6
  obtain ⟨zt, t7, rfl, hl8⟩ := len_inv hl7
  obtain ⟨h, t8, rfl, hl9⟩ := len_inv hl8
  obtain ⟨r, t9, rfl, hl10⟩ := len_inv hl9
  obtain ⟨g, t10, rfl, hl11⟩ := len_inv hl10
  obtain ⟨ev, t11, rfl, hl12⟩ := len_inv hl11
  obtain ⟨ri, t12, rfl, hl13⟩ := len_inv hl12
  obtain ⟨ml, t13, rfl, hl14⟩ := len_inv hl13
  obtain ⟨so, t14, rfl, hl15⟩ := len_inv hl14
  obtain ⟨t, t15, rfl, hl16⟩ := len_inv hl15
  obtain ⟨kd, t16, rfl, hl17⟩ := len_inv hl16
  obtain ⟨pl, t17, rfl, hl18⟩ := len_inv hl17
  obtain ⟨f, t18, rfl, hl19⟩ := len_inv hl18
  obtain ⟨kw, t19, rfl, hl20⟩ := len_inv hl19
  obtain ⟨v, t20, rfl, hl21⟩ := len_inv hl20
  obtain ⟨w, t21, rfl, hl22⟩ := len_inv hl21
  obtain ⟨zn2, t22, rfl, hl23⟩ := len_inv hl22
  have hl := List.eq_nil_of_length_eq_zero hl23
  subst hl
  have p1 := p_get3 (by decide) (fOk_hd hp)
  have p2 := p_get3 (by decide) (fOk_hd (fOk_tl hp))
  have p3 := p_get3 (by decide) (fOk_hd (fOk_tl (fOk_tl hp)))
  have p4 := p_get3 (by decide) (fOk_hd (fOk_tl (fOk_tl (fOk_tl hp))))
  have p5 := p_get (fOk_hd (fOk_tl (fOk_tl (fOk_tl (fOk_tl hp)))))
  simp only [List.map, xv, fev, fvl, gtI, Int.one_mul, Int.add_zero, Int.zero_add, PR] at p1 p2 p3 p4 p5
  have q := k_c6_ok (z := z) (n := n) (p := p) (k := k) (zn := zn) (zf := zf) (zs := zs) (zt := zt) (h := h) (r := r) (g := g) (ev := ev) (ri := ri) (ml := ml) (so := so) (t := t) (kd := kd) (pl := pl) (f := f) (kw := kw) (v := v) (w := w) (zn2 := zn2) (q3 p1) p2 p3 p4 p5
  refine ⟨[], rfl, fOk_cons (p_put3 rfl (by decide) ?_) fOk_nil⟩ <;> simp only [List.map, xv, fev, fvl, gtI, Int.one_mul, Int.add_zero, Int.zero_add, List.append_nil]
  exact ⟨rfl, q⟩
def r_c6_bad1 : eRul := (22, [xP 65 [xv 0, xv 1, ([], 6), xv 2, xv 3, xv 4, xv 5, xv 6, xv 7, xv 8, xv 9, xv 10, xv 11, xv 12, xv 13, xv 14, xv 15, ([], 0)], xP 53 [xv 0, xv 1, ([], 900), xv 2, xv 16, xv 17, xv 18, xv 19, xv 20, xv 21], xP 55 [xv 16, xv 19, ([], 0)]], 0, [xP 64 [xv 0, xv 1, ([(17, -1)], -1), ([], 1)]])
theorem r_c6_bad1_ok : ruOk r_c6_bad1 := by
  intro ρ hl0 hp
  obtain ⟨z, t0, rfl, hl1⟩ := len_inv hl0
  obtain ⟨n, t1, rfl, hl2⟩ := len_inv hl1
  obtain ⟨p, t2, rfl, hl3⟩ := len_inv hl2
  obtain ⟨k, t3, rfl, hl4⟩ := len_inv hl3
  obtain ⟨zn, t4, rfl, hl5⟩ := len_inv hl4
  obtain ⟨zf, t5, rfl, hl6⟩ := len_inv hl5
  obtain ⟨zs, t6, rfl, hl7⟩ := len_inv hl6
  obtain ⟨zt, t7, rfl, hl8⟩ := len_inv hl7
  obtain ⟨h, t8, rfl, hl9⟩ := len_inv hl8
  obtain ⟨r, t9, rfl, hl10⟩ := len_inv hl9
  obtain ⟨g, t10, rfl, hl11⟩ := len_inv hl10
  obtain ⟨ev, t11, rfl, hl12⟩ := len_inv hl11
  obtain ⟨ri, t12, rfl, hl13⟩ := len_inv hl12
  obtain ⟨ml, t13, rfl, hl14⟩ := len_inv hl13
  obtain ⟨so, t14, rfl, hl15⟩ := len_inv hl14
  obtain ⟨t, t15, rfl, hl16⟩ := len_inv hl15
  obtain ⟨kd, t16, rfl, hl17⟩ := len_inv hl16
  obtain ⟨pl, t17, rfl, hl18⟩ := len_inv hl17
  obtain ⟨f, t18, rfl, hl19⟩ := len_inv hl18
  obtain ⟨kw, t19, rfl, hl20⟩ := len_inv hl19
  obtain ⟨v, t20, rfl, hl21⟩ := len_inv hl20
  obtain ⟨w, t21, rfl, hl22⟩ := len_inv hl21
  have hl := List.eq_nil_of_length_eq_zero hl22
  subst hl
  have p1 := p_get3 (by decide) (fOk_hd hp)
  have p2 := p_get3 (by decide) (fOk_hd (fOk_tl hp))
  have p3 := p_get3 (by decide) (fOk_hd (fOk_tl (fOk_tl hp)))
  simp only [List.map, xv, fev, fvl, gtI, Int.one_mul, Int.add_zero, Int.zero_add] at p1 p2 p3
  have q := k_c6_bad1 (z := z) (n := n) (p := p) (k := k) (zn := zn) (zf := zf) (zs := zs) (zt := zt) (h := h) (r := r) (g := g) (ev := ev) (ri := ri) (ml := ml) (so := so) (t := t) (kd := kd) (pl := pl) (f := f) (kw := kw) (v := v) (w := w) (q3 p1) p2 p3
  refine ⟨[], rfl, fOk_cons (p_put3 rfl (by decide) ?_) fOk_nil⟩ <;> simp only [List.map, xv, fev, fvl, gtI, Int.one_mul, Int.add_zero, Int.zero_add, List.append_nil]
  exact q
def r_c6_bad2 : eRul := (22, [xP 65 [xv 0, xv 1, ([], 6), xv 2, xv 3, xv 4, xv 5, xv 6, xv 7, xv 8, xv 9, xv 10, xv 11, xv 12, xv 13, xv 14, xv 15, ([], 0)], xP 53 [xv 0, xv 1, ([], 900), xv 2, xv 16, xv 17, xv 18, xv 19, xv 20, xv 21], xP 55 [xv 16, xv 19, ([], 1)], xP 88 [xv 4, xv 21]], 0, [xP 64 [xv 0, xv 1, ([(17, -1)], -1), ([], 3)]])
theorem r_c6_bad2_ok : ruOk r_c6_bad2 := by
  intro ρ hl0 hp
  obtain ⟨z, t0, rfl, hl1⟩ := len_inv hl0
  obtain ⟨n, t1, rfl, hl2⟩ := len_inv hl1
  obtain ⟨p, t2, rfl, hl3⟩ := len_inv hl2
  obtain ⟨k, t3, rfl, hl4⟩ := len_inv hl3
  obtain ⟨zn, t4, rfl, hl5⟩ := len_inv hl4
  obtain ⟨zf, t5, rfl, hl6⟩ := len_inv hl5
  obtain ⟨zs, t6, rfl, hl7⟩ := len_inv hl6
  obtain ⟨zt, t7, rfl, hl8⟩ := len_inv hl7
  obtain ⟨h, t8, rfl, hl9⟩ := len_inv hl8
  obtain ⟨r, t9, rfl, hl10⟩ := len_inv hl9
  obtain ⟨g, t10, rfl, hl11⟩ := len_inv hl10
  obtain ⟨ev, t11, rfl, hl12⟩ := len_inv hl11
  obtain ⟨ri, t12, rfl, hl13⟩ := len_inv hl12
  obtain ⟨ml, t13, rfl, hl14⟩ := len_inv hl13
  obtain ⟨so, t14, rfl, hl15⟩ := len_inv hl14
  obtain ⟨t, t15, rfl, hl16⟩ := len_inv hl15
  obtain ⟨kd, t16, rfl, hl17⟩ := len_inv hl16
  obtain ⟨pl, t17, rfl, hl18⟩ := len_inv hl17
  obtain ⟨f, t18, rfl, hl19⟩ := len_inv hl18
  obtain ⟨kw, t19, rfl, hl20⟩ := len_inv hl19
  obtain ⟨v, t20, rfl, hl21⟩ := len_inv hl20
  obtain ⟨w, t21, rfl, hl22⟩ := len_inv hl21
  have hl := List.eq_nil_of_length_eq_zero hl22
  subst hl
  have p1 := p_get3 (by decide) (fOk_hd hp)
  have p2 := p_get3 (by decide) (fOk_hd (fOk_tl hp))
  have p3 := p_get3 (by decide) (fOk_hd (fOk_tl (fOk_tl hp)))
  have p4 := p_get3 (by decide) (fOk_hd (fOk_tl (fOk_tl (fOk_tl hp))))
  simp only [List.map, xv, fev, fvl, gtI, Int.one_mul, Int.add_zero, Int.zero_add] at p1 p2 p3 p4
  have q := k_c6_bad2 (z := z) (n := n) (p := p) (k := k) (zn := zn) (zf := zf) (zs := zs) (zt := zt) (h := h) (r := r) (g := g) (ev := ev) (ri := ri) (ml := ml) (so := so) (t := t) (kd := kd) (pl := pl) (f := f) (kw := kw) (v := v) (w := w) (q3 p1) p2 p3 p4
  refine ⟨[], rfl, fOk_cons (p_put3 rfl (by decide) ?_) fOk_nil⟩ <;> simp only [List.map, xv, fev, fvl, gtI, Int.one_mul, Int.add_zero, Int.zero_add, List.append_nil]
  exact q
def r_c9_ok : eRul := (23, [xP 65 [xv 0, xv 1, ([], 9), xv 2, xv 3, xv 4, xv 5, xv 6, xv 7, xv 8, xv 9, xv 10, xv 11, xv 12, xv 13, xv 14, xv 15, ([], 0)], xP 53 [xv 0, xv 1, ([], 900), xv 2, xv 16, xv 17, xv 18, xv 19, xv 20, xv 21], xP 55 [xv 16, xv 19, ([], 1)], xP 61 [xv 4, ([], 0), ([], 19), xv 21, ([], -1)], xP 2 [xv 22, xv 4, ([(9, 1)], 5), xv 21]], 0, [xP 65 [xv 0, xv 1, ([], 10), xv 18, xv 3, xv 22, xv 5, xv 6, xv 7, xv 8, xv 9, xv 10, xv 11, xv 12, xv 13, xv 14, xv 15, ([], 0)]])
theorem r_c9_ok_ok : ruOk r_c9_ok := by
  intro ρ hl0 hp
  obtain ⟨z, t0, rfl, hl1⟩ := len_inv hl0
  obtain ⟨n, t1, rfl, hl2⟩ := len_inv hl1
  obtain ⟨p, t2, rfl, hl3⟩ := len_inv hl2
  obtain ⟨k, t3, rfl, hl4⟩ := len_inv hl3
  obtain ⟨zn, t4, rfl, hl5⟩ := len_inv hl4
  obtain ⟨zf, t5, rfl, hl6⟩ := len_inv hl5
  obtain ⟨zs, t6, rfl, hl7⟩ := len_inv hl6
  obtain ⟨zt, t7, rfl, hl8⟩ := len_inv hl7
  obtain ⟨h, t8, rfl, hl9⟩ := len_inv hl8
  obtain ⟨r, t9, rfl, hl10⟩ := len_inv hl9
  obtain ⟨g, t10, rfl, hl11⟩ := len_inv hl10
  obtain ⟨ev, t11, rfl, hl12⟩ := len_inv hl11
  obtain ⟨ri, t12, rfl, hl13⟩ := len_inv hl12
  obtain ⟨ml, t13, rfl, hl14⟩ := len_inv hl13
  obtain ⟨so, t14, rfl, hl15⟩ := len_inv hl14
  obtain ⟨t, t15, rfl, hl16⟩ := len_inv hl15
  obtain ⟨kd, t16, rfl, hl17⟩ := len_inv hl16
  obtain ⟨pl, t17, rfl, hl18⟩ := len_inv hl17
  obtain ⟨f, t18, rfl, hl19⟩ := len_inv hl18
  obtain ⟨kw, t19, rfl, hl20⟩ := len_inv hl19
  obtain ⟨v, t20, rfl, hl21⟩ := len_inv hl20
  obtain ⟨w, t21, rfl, hl22⟩ := len_inv hl21
  obtain ⟨zn2, t22, rfl, hl23⟩ := len_inv hl22
  have hl := List.eq_nil_of_length_eq_zero hl23
  subst hl
  have p1 := p_get3 (by decide) (fOk_hd hp)
  have p2 := p_get3 (by decide) (fOk_hd (fOk_tl hp))
  have p3 := p_get3 (by decide) (fOk_hd (fOk_tl (fOk_tl hp)))
  have p4 := p_get3 (by decide) (fOk_hd (fOk_tl (fOk_tl (fOk_tl hp))))
  have p5 := p_get (fOk_hd (fOk_tl (fOk_tl (fOk_tl (fOk_tl hp)))))
  simp only [List.map, xv, fev, fvl, gtI, Int.one_mul, Int.add_zero, Int.zero_add, PR] at p1 p2 p3 p4 p5
  have q := k_c9_ok (z := z) (n := n) (p := p) (k := k) (zn := zn) (zf := zf) (zs := zs) (zt := zt) (h := h) (r := r) (g := g) (ev := ev) (ri := ri) (ml := ml) (so := so) (t := t) (kd := kd) (pl := pl) (f := f) (kw := kw) (v := v) (w := w) (zn2 := zn2) (q3 p1) p2 p3 p4 p5
  refine ⟨[], rfl, fOk_cons (p_put3 rfl (by decide) ?_) fOk_nil⟩ <;> simp only [List.map, xv, fev, fvl, gtI, Int.one_mul, Int.add_zero, Int.zero_add, List.append_nil]
  exact ⟨rfl, q⟩
def r_c9_bad1 : eRul := (22, [xP 65 [xv 0, xv 1, ([], 9), xv 2, xv 3, xv 4, xv 5, xv 6, xv 7, xv 8, xv 9, xv 10, xv 11, xv 12, xv 13, xv 14, xv 15, ([], 0)], xP 53 [xv 0, xv 1, ([], 900), xv 2, xv 16, xv 17, xv 18, xv 19, xv 20, xv 21], xP 55 [xv 16, xv 19, ([], 0)]], 0, [xP 64 [xv 0, xv 1, ([(17, -1)], -1), ([], 1)]])
theorem r_c9_bad1_ok : ruOk r_c9_bad1 := by
  intro ρ hl0 hp
  obtain ⟨z, t0, rfl, hl1⟩ := len_inv hl0
  obtain ⟨n, t1, rfl, hl2⟩ := len_inv hl1
  obtain ⟨p, t2, rfl, hl3⟩ := len_inv hl2
  obtain ⟨k, t3, rfl, hl4⟩ := len_inv hl3
  obtain ⟨zn, t4, rfl, hl5⟩ := len_inv hl4
  obtain ⟨zf, t5, rfl, hl6⟩ := len_inv hl5
  obtain ⟨zs, t6, rfl, hl7⟩ := len_inv hl6
  obtain ⟨zt, t7, rfl, hl8⟩ := len_inv hl7
  obtain ⟨h, t8, rfl, hl9⟩ := len_inv hl8
  obtain ⟨r, t9, rfl, hl10⟩ := len_inv hl9
  obtain ⟨g, t10, rfl, hl11⟩ := len_inv hl10
  obtain ⟨ev, t11, rfl, hl12⟩ := len_inv hl11
  obtain ⟨ri, t12, rfl, hl13⟩ := len_inv hl12
  obtain ⟨ml, t13, rfl, hl14⟩ := len_inv hl13
  obtain ⟨so, t14, rfl, hl15⟩ := len_inv hl14
  obtain ⟨t, t15, rfl, hl16⟩ := len_inv hl15
  obtain ⟨kd, t16, rfl, hl17⟩ := len_inv hl16
  obtain ⟨pl, t17, rfl, hl18⟩ := len_inv hl17
  obtain ⟨f, t18, rfl, hl19⟩ := len_inv hl18
  obtain ⟨kw, t19, rfl, hl20⟩ := len_inv hl19
  obtain ⟨v, t20, rfl, hl21⟩ := len_inv hl20
  obtain ⟨w, t21, rfl, hl22⟩ := len_inv hl21
  have hl := List.eq_nil_of_length_eq_zero hl22
  subst hl
  have p1 := p_get3 (by decide) (fOk_hd hp)
  have p2 := p_get3 (by decide) (fOk_hd (fOk_tl hp))
  have p3 := p_get3 (by decide) (fOk_hd (fOk_tl (fOk_tl hp)))
  simp only [List.map, xv, fev, fvl, gtI, Int.one_mul, Int.add_zero, Int.zero_add] at p1 p2 p3
  have q := k_c9_bad1 (z := z) (n := n) (p := p) (k := k) (zn := zn) (zf := zf) (zs := zs) (zt := zt) (h := h) (r := r) (g := g) (ev := ev) (ri := ri) (ml := ml) (so := so) (t := t) (kd := kd) (pl := pl) (f := f) (kw := kw) (v := v) (w := w) (q3 p1) p2 p3
  refine ⟨[], rfl, fOk_cons (p_put3 rfl (by decide) ?_) fOk_nil⟩ <;> simp only [List.map, xv, fev, fvl, gtI, Int.one_mul, Int.add_zero, Int.zero_add, List.append_nil]
  exact q
def r_c9_bad2 : eRul := (22, [xP 65 [xv 0, xv 1, ([], 9), xv 2, xv 3, xv 4, xv 5, xv 6, xv 7, xv 8, xv 9, xv 10, xv 11, xv 12, xv 13, xv 14, xv 15, ([], 0)], xP 53 [xv 0, xv 1, ([], 900), xv 2, xv 16, xv 17, xv 18, xv 19, xv 20, xv 21], xP 55 [xv 16, xv 19, ([], 1)], xP 88 [xv 4, xv 21]], 0, [xP 64 [xv 0, xv 1, ([(17, -1)], -1), ([], 3)]])
theorem r_c9_bad2_ok : ruOk r_c9_bad2 := by
  intro ρ hl0 hp
  obtain ⟨z, t0, rfl, hl1⟩ := len_inv hl0
  obtain ⟨n, t1, rfl, hl2⟩ := len_inv hl1
  obtain ⟨p, t2, rfl, hl3⟩ := len_inv hl2
  obtain ⟨k, t3, rfl, hl4⟩ := len_inv hl3
  obtain ⟨zn, t4, rfl, hl5⟩ := len_inv hl4
  obtain ⟨zf, t5, rfl, hl6⟩ := len_inv hl5
  obtain ⟨zs, t6, rfl, hl7⟩ := len_inv hl6
  obtain ⟨zt, t7, rfl, hl8⟩ := len_inv hl7
  obtain ⟨h, t8, rfl, hl9⟩ := len_inv hl8
  obtain ⟨r, t9, rfl, hl10⟩ := len_inv hl9
  obtain ⟨g, t10, rfl, hl11⟩ := len_inv hl10
  obtain ⟨ev, t11, rfl, hl12⟩ := len_inv hl11
  obtain ⟨ri, t12, rfl, hl13⟩ := len_inv hl12
  obtain ⟨ml, t13, rfl, hl14⟩ := len_inv hl13
  obtain ⟨so, t14, rfl, hl15⟩ := len_inv hl14
  obtain ⟨t, t15, rfl, hl16⟩ := len_inv hl15
  obtain ⟨kd, t16, rfl, hl17⟩ := len_inv hl16
  obtain ⟨pl, t17, rfl, hl18⟩ := len_inv hl17
  obtain ⟨f, t18, rfl, hl19⟩ := len_inv hl18
  obtain ⟨kw, t19, rfl, hl20⟩ := len_inv hl19
  obtain ⟨v, t20, rfl, hl21⟩ := len_inv hl20
  obtain ⟨w, t21, rfl, hl22⟩ := len_inv hl21
  have hl := List.eq_nil_of_length_eq_zero hl22
  subst hl
  have p1 := p_get3 (by decide) (fOk_hd hp)
  have p2 := p_get3 (by decide) (fOk_hd (fOk_tl hp))
  have p3 := p_get3 (by decide) (fOk_hd (fOk_tl (fOk_tl hp)))
  have p4 := p_get3 (by decide) (fOk_hd (fOk_tl (fOk_tl (fOk_tl hp))))
  simp only [List.map, xv, fev, fvl, gtI, Int.one_mul, Int.add_zero, Int.zero_add] at p1 p2 p3 p4
  have q := k_c9_bad2 (z := z) (n := n) (p := p) (k := k) (zn := zn) (zf := zf) (zs := zs) (zt := zt) (h := h) (r := r) (g := g) (ev := ev) (ri := ri) (ml := ml) (so := so) (t := t) (kd := kd) (pl := pl) (f := f) (kw := kw) (v := v) (w := w) (q3 p1) p2 p3 p4
  refine ⟨[], rfl, fOk_cons (p_put3 rfl (by decide) ?_) fOk_nil⟩ <;> simp only [List.map, xv, fev, fvl, gtI, Int.one_mul, Int.add_zero, Int.zero_add, List.append_nil]
  exact q
def r_c13_ok : eRul := (23, [xP 65 [xv 0, xv 1, ([], 13), xv 2, xv 3, xv 4, xv 5, xv 6, xv 7, xv 8, xv 9, xv 10, xv 11, xv 12, xv 13, xv 14, xv 15, ([], 0)], xP 53 [xv 0, xv 1, ([], 900), xv 2, xv 16, xv 17, xv 18, xv 19, xv 20, xv 21], xP 55 [xv 16, xv 19, ([], 1)], xP 61 [xv 4, ([], 0), ([], 19), xv 21, ([], -1)], xP 2 [xv 22, xv 4, ([(10, 1)], 13), xv 21]], 0, [xP 65 [xv 0, xv 1, ([], 14), xv 18, xv 3, xv 22, xv 5, xv 6, xv 7, xv 8, xv 9, xv 10, xv 11, xv 12, xv 13, xv 14, xv 15, ([], 0)]])
theorem r_c13_ok_ok : ruOk r_c13_ok := by
  intro ρ hl0 hp
  obtain ⟨z, t0, rfl, hl1⟩ := len_inv hl0
  obtain ⟨n, t1, rfl, hl2⟩ := len_inv hl1
  obtain ⟨p, t2, rfl, hl3⟩ := len_inv hl2
  obtain ⟨k, t3, rfl, hl4⟩ := len_inv hl3
  obtain ⟨zn, t4, rfl, hl5⟩ := len_inv hl4
  obtain ⟨zf, t5, rfl, hl6⟩ := len_inv hl5
  obtain ⟨zs, t6, rfl, hl7⟩ := len_inv hl6
  obtain ⟨zt, t7, rfl, hl8⟩ := len_inv hl7
  obtain ⟨h, t8, rfl, hl9⟩ := len_inv hl8
  obtain ⟨r, t9, rfl, hl10⟩ := len_inv hl9
  obtain ⟨g, t10, rfl, hl11⟩ := len_inv hl10
  obtain ⟨ev, t11, rfl, hl12⟩ := len_inv hl11
  obtain ⟨ri, t12, rfl, hl13⟩ := len_inv hl12
  obtain ⟨ml, t13, rfl, hl14⟩ := len_inv hl13
  obtain ⟨so, t14, rfl, hl15⟩ := len_inv hl14
  obtain ⟨t, t15, rfl, hl16⟩ := len_inv hl15
  obtain ⟨kd, t16, rfl, hl17⟩ := len_inv hl16
  obtain ⟨pl, t17, rfl, hl18⟩ := len_inv hl17
  obtain ⟨f, t18, rfl, hl19⟩ := len_inv hl18
  obtain ⟨kw, t19, rfl, hl20⟩ := len_inv hl19
  obtain ⟨v, t20, rfl, hl21⟩ := len_inv hl20
  obtain ⟨w, t21, rfl, hl22⟩ := len_inv hl21
  obtain ⟨zn2, t22, rfl, hl23⟩ := len_inv hl22
  have hl := List.eq_nil_of_length_eq_zero hl23
  subst hl
  have p1 := p_get3 (by decide) (fOk_hd hp)
  have p2 := p_get3 (by decide) (fOk_hd (fOk_tl hp))
  have p3 := p_get3 (by decide) (fOk_hd (fOk_tl (fOk_tl hp)))
  have p4 := p_get3 (by decide) (fOk_hd (fOk_tl (fOk_tl (fOk_tl hp))))
  have p5 := p_get (fOk_hd (fOk_tl (fOk_tl (fOk_tl (fOk_tl hp)))))
  simp only [List.map, xv, fev, fvl, gtI, Int.one_mul, Int.add_zero, Int.zero_add, PR] at p1 p2 p3 p4 p5
  have q := k_c13_ok (z := z) (n := n) (p := p) (k := k) (zn := zn) (zf := zf) (zs := zs) (zt := zt) (h := h) (r := r) (g := g) (ev := ev) (ri := ri) (ml := ml) (so := so) (t := t) (kd := kd) (pl := pl) (f := f) (kw := kw) (v := v) (w := w) (zn2 := zn2) (q3 p1) p2 p3 p4 p5
  refine ⟨[], rfl, fOk_cons (p_put3 rfl (by decide) ?_) fOk_nil⟩ <;> simp only [List.map, xv, fev, fvl, gtI, Int.one_mul, Int.add_zero, Int.zero_add, List.append_nil]
  exact ⟨rfl, q⟩
def r_c13_bad1 : eRul := (22, [xP 65 [xv 0, xv 1, ([], 13), xv 2, xv 3, xv 4, xv 5, xv 6, xv 7, xv 8, xv 9, xv 10, xv 11, xv 12, xv 13, xv 14, xv 15, ([], 0)], xP 53 [xv 0, xv 1, ([], 900), xv 2, xv 16, xv 17, xv 18, xv 19, xv 20, xv 21], xP 55 [xv 16, xv 19, ([], 0)]], 0, [xP 64 [xv 0, xv 1, ([(17, -1)], -1), ([], 1)]])
theorem r_c13_bad1_ok : ruOk r_c13_bad1 := by
  intro ρ hl0 hp
  obtain ⟨z, t0, rfl, hl1⟩ := len_inv hl0
  obtain ⟨n, t1, rfl, hl2⟩ := len_inv hl1
  obtain ⟨p, t2, rfl, hl3⟩ := len_inv hl2
  obtain ⟨k, t3, rfl, hl4⟩ := len_inv hl3
  obtain ⟨zn, t4, rfl, hl5⟩ := len_inv hl4
  obtain ⟨zf, t5, rfl, hl6⟩ := len_inv hl5
  obtain ⟨zs, t6, rfl, hl7⟩ := len_inv hl6
  obtain ⟨zt, t7, rfl, hl8⟩ := len_inv hl7
  obtain ⟨h, t8, rfl, hl9⟩ := len_inv hl8
  obtain ⟨r, t9, rfl, hl10⟩ := len_inv hl9
  obtain ⟨g, t10, rfl, hl11⟩ := len_inv hl10
  obtain ⟨ev, t11, rfl, hl12⟩ := len_inv hl11
  obtain ⟨ri, t12, rfl, hl13⟩ := len_inv hl12
  obtain ⟨ml, t13, rfl, hl14⟩ := len_inv hl13
  obtain ⟨so, t14, rfl, hl15⟩ := len_inv hl14
  obtain ⟨t, t15, rfl, hl16⟩ := len_inv hl15
  obtain ⟨kd, t16, rfl, hl17⟩ := len_inv hl16
  obtain ⟨pl, t17, rfl, hl18⟩ := len_inv hl17
  obtain ⟨f, t18, rfl, hl19⟩ := len_inv hl18
  obtain ⟨kw, t19, rfl, hl20⟩ := len_inv hl19
  obtain ⟨v, t20, rfl, hl21⟩ := len_inv hl20
  obtain ⟨w, t21, rfl, hl22⟩ := len_inv hl21
  have hl := List.eq_nil_of_length_eq_zero hl22
  subst hl
  have p1 := p_get3 (by decide) (fOk_hd hp)
  have p2 := p_get3 (by decide) (fOk_hd (fOk_tl hp))
  have p3 := p_get3 (by decide) (fOk_hd (fOk_tl (fOk_tl hp)))
  simp only [List.map, xv, fev, fvl, gtI, Int.one_mul, Int.add_zero, Int.zero_add] at p1 p2 p3
  have q := k_c13_bad1 (z := z) (n := n) (p := p) (k := k) (zn := zn) (zf := zf) (zs := zs) (zt := zt) (h := h) (r := r) (g := g) (ev := ev) (ri := ri) (ml := ml) (so := so) (t := t) (kd := kd) (pl := pl) (f := f) (kw := kw) (v := v) (w := w) (q3 p1) p2 p3
  refine ⟨[], rfl, fOk_cons (p_put3 rfl (by decide) ?_) fOk_nil⟩ <;> simp only [List.map, xv, fev, fvl, gtI, Int.one_mul, Int.add_zero, Int.zero_add, List.append_nil]
  exact q
def r_c13_bad2 : eRul := (22, [xP 65 [xv 0, xv 1, ([], 13), xv 2, xv 3, xv 4, xv 5, xv 6, xv 7, xv 8, xv 9, xv 10, xv 11, xv 12, xv 13, xv 14, xv 15, ([], 0)], xP 53 [xv 0, xv 1, ([], 900), xv 2, xv 16, xv 17, xv 18, xv 19, xv 20, xv 21], xP 55 [xv 16, xv 19, ([], 1)], xP 88 [xv 4, xv 21]], 0, [xP 64 [xv 0, xv 1, ([(17, -1)], -1), ([], 3)]])
theorem r_c13_bad2_ok : ruOk r_c13_bad2 := by
  intro ρ hl0 hp
  obtain ⟨z, t0, rfl, hl1⟩ := len_inv hl0
  obtain ⟨n, t1, rfl, hl2⟩ := len_inv hl1
  obtain ⟨p, t2, rfl, hl3⟩ := len_inv hl2
  obtain ⟨k, t3, rfl, hl4⟩ := len_inv hl3
  obtain ⟨zn, t4, rfl, hl5⟩ := len_inv hl4
  obtain ⟨zf, t5, rfl, hl6⟩ := len_inv hl5
  obtain ⟨zs, t6, rfl, hl7⟩ := len_inv hl6
  obtain ⟨zt, t7, rfl, hl8⟩ := len_inv hl7
  obtain ⟨h, t8, rfl, hl9⟩ := len_inv hl8
  obtain ⟨r, t9, rfl, hl10⟩ := len_inv hl9
  obtain ⟨g, t10, rfl, hl11⟩ := len_inv hl10
  obtain ⟨ev, t11, rfl, hl12⟩ := len_inv hl11
  obtain ⟨ri, t12, rfl, hl13⟩ := len_inv hl12
  obtain ⟨ml, t13, rfl, hl14⟩ := len_inv hl13
  obtain ⟨so, t14, rfl, hl15⟩ := len_inv hl14
  obtain ⟨t, t15, rfl, hl16⟩ := len_inv hl15
  obtain ⟨kd, t16, rfl, hl17⟩ := len_inv hl16
  obtain ⟨pl, t17, rfl, hl18⟩ := len_inv hl17
  obtain ⟨f, t18, rfl, hl19⟩ := len_inv hl18
  obtain ⟨kw, t19, rfl, hl20⟩ := len_inv hl19
  obtain ⟨v, t20, rfl, hl21⟩ := len_inv hl20
  obtain ⟨w, t21, rfl, hl22⟩ := len_inv hl21
  have hl := List.eq_nil_of_length_eq_zero hl22
  subst hl
  have p1 := p_get3 (by decide) (fOk_hd hp)
  have p2 := p_get3 (by decide) (fOk_hd (fOk_tl hp))
  have p3 := p_get3 (by decide) (fOk_hd (fOk_tl (fOk_tl hp)))
  have p4 := p_get3 (by decide) (fOk_hd (fOk_tl (fOk_tl (fOk_tl hp))))
  simp only [List.map, xv, fev, fvl, gtI, Int.one_mul, Int.add_zero, Int.zero_add] at p1 p2 p3 p4
  have q := k_c13_bad2 (z := z) (n := n) (p := p) (k := k) (zn := zn) (zf := zf) (zs := zs) (zt := zt) (h := h) (r := r) (g := g) (ev := ev) (ri := ri) (ml := ml) (so := so) (t := t) (kd := kd) (pl := pl) (f := f) (kw := kw) (v := v) (w := w) (q3 p1) p2 p3 p4
  refine ⟨[], rfl, fOk_cons (p_put3 rfl (by decide) ?_) fOk_nil⟩ <;> simp only [List.map, xv, fev, fvl, gtI, Int.one_mul, Int.add_zero, Int.zero_add, List.append_nil]
  exact q
def r_c10_ok : eRul := (23, [xP 65 [xv 0, xv 1, ([], 10), xv 2, xv 3, xv 4, xv 5, xv 6, xv 7, xv 8, xv 9, xv 10, xv 11, xv 12, xv 13, xv 14, xv 15, ([], 0)], xP 53 [xv 0, xv 1, ([], 900), xv 2, xv 16, xv 17, xv 18, xv 19, xv 20, xv 21], xP 55 [xv 16, xv 19, ([], 1)], xP 61 [xv 4, ([], 0), xv 8, xv 21, xv 22], xG (([(22, -1)], 0))], 0, [xP 65 [xv 0, xv 1, ([], 11), xv 18, xv 3, xv 4, xv 5, xv 6, xv 7, xv 8, xv 9, xv 10, xv 11, xv 12, xv 13, xv 14, xv 15, ([], 0)]])
theorem r_c10_ok_ok : ruOk r_c10_ok := by
  intro ρ hl0 hp
  obtain ⟨z, t0, rfl, hl1⟩ := len_inv hl0
  obtain ⟨n, t1, rfl, hl2⟩ := len_inv hl1
  obtain ⟨p, t2, rfl, hl3⟩ := len_inv hl2
  obtain ⟨k, t3, rfl, hl4⟩ := len_inv hl3
  obtain ⟨zn, t4, rfl, hl5⟩ := len_inv hl4
  obtain ⟨zf, t5, rfl, hl6⟩ := len_inv hl5
  obtain ⟨zs, t6, rfl, hl7⟩ := len_inv hl6
  obtain ⟨zt, t7, rfl, hl8⟩ := len_inv hl7
  obtain ⟨h, t8, rfl, hl9⟩ := len_inv hl8
  obtain ⟨r, t9, rfl, hl10⟩ := len_inv hl9
  obtain ⟨g, t10, rfl, hl11⟩ := len_inv hl10
  obtain ⟨ev, t11, rfl, hl12⟩ := len_inv hl11
  obtain ⟨ri, t12, rfl, hl13⟩ := len_inv hl12
  obtain ⟨ml, t13, rfl, hl14⟩ := len_inv hl13
  obtain ⟨so, t14, rfl, hl15⟩ := len_inv hl14
  obtain ⟨t, t15, rfl, hl16⟩ := len_inv hl15
  obtain ⟨kd, t16, rfl, hl17⟩ := len_inv hl16
  obtain ⟨pl, t17, rfl, hl18⟩ := len_inv hl17
  obtain ⟨f, t18, rfl, hl19⟩ := len_inv hl18
  obtain ⟨kw, t19, rfl, hl20⟩ := len_inv hl19
  obtain ⟨v, t20, rfl, hl21⟩ := len_inv hl20
  obtain ⟨w, t21, rfl, hl22⟩ := len_inv hl21
  obtain ⟨i, t22, rfl, hl23⟩ := len_inv hl22
  have hl := List.eq_nil_of_length_eq_zero hl23
  subst hl
  have p1 := p_get3 (by decide) (fOk_hd hp)
  have p2 := p_get3 (by decide) (fOk_hd (fOk_tl hp))
  have p3 := p_get3 (by decide) (fOk_hd (fOk_tl (fOk_tl hp)))
  have p4 := p_get3 (by decide) (fOk_hd (fOk_tl (fOk_tl (fOk_tl hp))))
  have p5 := gg_get (fOk_hd (fOk_tl (fOk_tl (fOk_tl (fOk_tl hp)))))
  simp only [List.map, xv, fev, fvl, gtI, Int.one_mul, Int.add_zero, Int.zero_add] at p1 p2 p3 p4 p5
  have q := k_c10_ok (z := z) (n := n) (p := p) (k := k) (zn := zn) (zf := zf) (zs := zs) (zt := zt) (h := h) (r := r) (g := g) (ev := ev) (ri := ri) (ml := ml) (so := so) (t := t) (kd := kd) (pl := pl) (f := f) (kw := kw) (v := v) (w := w) (i := i) (q3 p1) p2 p3 p4 p5
  refine ⟨[], rfl, fOk_cons (p_put3 rfl (by decide) ?_) fOk_nil⟩ <;> simp only [List.map, xv, fev, fvl, gtI, Int.one_mul, Int.add_zero, Int.zero_add, List.append_nil]
  exact ⟨rfl, q⟩
def r_c10_bad1 : eRul := (22, [xP 65 [xv 0, xv 1, ([], 10), xv 2, xv 3, xv 4, xv 5, xv 6, xv 7, xv 8, xv 9, xv 10, xv 11, xv 12, xv 13, xv 14, xv 15, ([], 0)], xP 53 [xv 0, xv 1, ([], 900), xv 2, xv 16, xv 17, xv 18, xv 19, xv 20, xv 21], xP 55 [xv 16, xv 19, ([], 0)]], 0, [xP 64 [xv 0, xv 1, ([(17, -1)], -1), ([], 1)]])
theorem r_c10_bad1_ok : ruOk r_c10_bad1 := by
  intro ρ hl0 hp
  obtain ⟨z, t0, rfl, hl1⟩ := len_inv hl0
  obtain ⟨n, t1, rfl, hl2⟩ := len_inv hl1
  obtain ⟨p, t2, rfl, hl3⟩ := len_inv hl2
  obtain ⟨k, t3, rfl, hl4⟩ := len_inv hl3
  obtain ⟨zn, t4, rfl, hl5⟩ := len_inv hl4
  obtain ⟨zf, t5, rfl, hl6⟩ := len_inv hl5
  obtain ⟨zs, t6, rfl, hl7⟩ := len_inv hl6
  obtain ⟨zt, t7, rfl, hl8⟩ := len_inv hl7
  obtain ⟨h, t8, rfl, hl9⟩ := len_inv hl8
  obtain ⟨r, t9, rfl, hl10⟩ := len_inv hl9
  obtain ⟨g, t10, rfl, hl11⟩ := len_inv hl10
  obtain ⟨ev, t11, rfl, hl12⟩ := len_inv hl11
  obtain ⟨ri, t12, rfl, hl13⟩ := len_inv hl12
  obtain ⟨ml, t13, rfl, hl14⟩ := len_inv hl13
  obtain ⟨so, t14, rfl, hl15⟩ := len_inv hl14
  obtain ⟨t, t15, rfl, hl16⟩ := len_inv hl15
  obtain ⟨kd, t16, rfl, hl17⟩ := len_inv hl16
  obtain ⟨pl, t17, rfl, hl18⟩ := len_inv hl17
  obtain ⟨f, t18, rfl, hl19⟩ := len_inv hl18
  obtain ⟨kw, t19, rfl, hl20⟩ := len_inv hl19
  obtain ⟨v, t20, rfl, hl21⟩ := len_inv hl20
  obtain ⟨w, t21, rfl, hl22⟩ := len_inv hl21
  have hl := List.eq_nil_of_length_eq_zero hl22
  subst hl
  have p1 := p_get3 (by decide) (fOk_hd hp)
  have p2 := p_get3 (by decide) (fOk_hd (fOk_tl hp))
  have p3 := p_get3 (by decide) (fOk_hd (fOk_tl (fOk_tl hp)))
  simp only [List.map, xv, fev, fvl, gtI, Int.one_mul, Int.add_zero, Int.zero_add] at p1 p2 p3
  have q := k_c10_bad1 (z := z) (n := n) (p := p) (k := k) (zn := zn) (zf := zf) (zs := zs) (zt := zt) (h := h) (r := r) (g := g) (ev := ev) (ri := ri) (ml := ml) (so := so) (t := t) (kd := kd) (pl := pl) (f := f) (kw := kw) (v := v) (w := w) (q3 p1) p2 p3
  refine ⟨[], rfl, fOk_cons (p_put3 rfl (by decide) ?_) fOk_nil⟩ <;> simp only [List.map, xv, fev, fvl, gtI, Int.one_mul, Int.add_zero, Int.zero_add, List.append_nil]
  exact q
def r_c10_bad2 : eRul := (22, [xP 65 [xv 0, xv 1, ([], 10), xv 2, xv 3, xv 4, xv 5, xv 6, xv 7, xv 8, xv 9, xv 10, xv 11, xv 12, xv 13, xv 14, xv 15, ([], 0)], xP 53 [xv 0, xv 1, ([], 900), xv 2, xv 16, xv 17, xv 18, xv 19, xv 20, xv 21], xP 55 [xv 16, xv 19, ([], 1)], xP 61 [xv 4, ([], 0), xv 8, xv 21, ([], -1)]], 0, [xP 64 [xv 0, xv 1, ([(17, -1)], -1), ([], 3)]])
theorem r_c10_bad2_ok : ruOk r_c10_bad2 := by
  intro ρ hl0 hp
  obtain ⟨z, t0, rfl, hl1⟩ := len_inv hl0
  obtain ⟨n, t1, rfl, hl2⟩ := len_inv hl1
  obtain ⟨p, t2, rfl, hl3⟩ := len_inv hl2
  obtain ⟨k, t3, rfl, hl4⟩ := len_inv hl3
  obtain ⟨zn, t4, rfl, hl5⟩ := len_inv hl4
  obtain ⟨zf, t5, rfl, hl6⟩ := len_inv hl5
  obtain ⟨zs, t6, rfl, hl7⟩ := len_inv hl6
  obtain ⟨zt, t7, rfl, hl8⟩ := len_inv hl7
  obtain ⟨h, t8, rfl, hl9⟩ := len_inv hl8
  obtain ⟨r, t9, rfl, hl10⟩ := len_inv hl9
  obtain ⟨g, t10, rfl, hl11⟩ := len_inv hl10
  obtain ⟨ev, t11, rfl, hl12⟩ := len_inv hl11
  obtain ⟨ri, t12, rfl, hl13⟩ := len_inv hl12
  obtain ⟨ml, t13, rfl, hl14⟩ := len_inv hl13
  obtain ⟨so, t14, rfl, hl15⟩ := len_inv hl14
  obtain ⟨t, t15, rfl, hl16⟩ := len_inv hl15
  obtain ⟨kd, t16, rfl, hl17⟩ := len_inv hl16
  obtain ⟨pl, t17, rfl, hl18⟩ := len_inv hl17
  obtain ⟨f, t18, rfl, hl19⟩ := len_inv hl18
  obtain ⟨kw, t19, rfl, hl20⟩ := len_inv hl19
  obtain ⟨v, t20, rfl, hl21⟩ := len_inv hl20
  obtain ⟨w, t21, rfl, hl22⟩ := len_inv hl21
  have hl := List.eq_nil_of_length_eq_zero hl22
  subst hl
  have p1 := p_get3 (by decide) (fOk_hd hp)
  have p2 := p_get3 (by decide) (fOk_hd (fOk_tl hp))
  have p3 := p_get3 (by decide) (fOk_hd (fOk_tl (fOk_tl hp)))
  have p4 := p_get3 (by decide) (fOk_hd (fOk_tl (fOk_tl (fOk_tl hp))))
  simp only [List.map, xv, fev, fvl, gtI, Int.one_mul, Int.add_zero, Int.zero_add] at p1 p2 p3 p4
  have q := k_c10_bad2 (z := z) (n := n) (p := p) (k := k) (zn := zn) (zf := zf) (zs := zs) (zt := zt) (h := h) (r := r) (g := g) (ev := ev) (ri := ri) (ml := ml) (so := so) (t := t) (kd := kd) (pl := pl) (f := f) (kw := kw) (v := v) (w := w) (q3 p1) p2 p3 p4
  refine ⟨[], rfl, fOk_cons (p_put3 rfl (by decide) ?_) fOk_nil⟩ <;> simp only [List.map, xv, fev, fvl, gtI, Int.one_mul, Int.add_zero, Int.zero_add, List.append_nil]
  exact q
def r_c16_ok : eRul := (23, [xP 65 [xv 0, xv 1, ([], 16), xv 2, xv 3, xv 4, xv 5, xv 6, xv 7, xv 8, xv 9, xv 10, xv 11, xv 12, xv 13, xv 14, xv 15, ([], 0)], xP 53 [xv 0, xv 1, ([], 900), xv 2, xv 16, xv 17, xv 18, xv 19, xv 20, xv 21], xP 55 [xv 16, xv 19, ([], 1)], xP 61 [xv 4, ([], 13), xv 10, xv 21, xv 22], xG (([(22, -1)], 0))], 0, [xP 65 [xv 0, xv 1, ([], 17), xv 18, xv 3, xv 4, xv 5, xv 6, xv 7, xv 8, xv 9, xv 10, xv 11, xv 12, xv 13, xv 14, xv 15, xv 22]])
theorem r_c16_ok_ok : ruOk r_c16_ok := by
  intro ρ hl0 hp
  obtain ⟨z, t0, rfl, hl1⟩ := len_inv hl0
  obtain ⟨n, t1, rfl, hl2⟩ := len_inv hl1
  obtain ⟨p, t2, rfl, hl3⟩ := len_inv hl2
  obtain ⟨k, t3, rfl, hl4⟩ := len_inv hl3
  obtain ⟨zn, t4, rfl, hl5⟩ := len_inv hl4
  obtain ⟨zf, t5, rfl, hl6⟩ := len_inv hl5
  obtain ⟨zs, t6, rfl, hl7⟩ := len_inv hl6
  obtain ⟨zt, t7, rfl, hl8⟩ := len_inv hl7
  obtain ⟨h, t8, rfl, hl9⟩ := len_inv hl8
  obtain ⟨r, t9, rfl, hl10⟩ := len_inv hl9
  obtain ⟨g, t10, rfl, hl11⟩ := len_inv hl10
  obtain ⟨ev, t11, rfl, hl12⟩ := len_inv hl11
  obtain ⟨ri, t12, rfl, hl13⟩ := len_inv hl12
  obtain ⟨ml, t13, rfl, hl14⟩ := len_inv hl13
  obtain ⟨so, t14, rfl, hl15⟩ := len_inv hl14
  obtain ⟨t, t15, rfl, hl16⟩ := len_inv hl15
  obtain ⟨kd, t16, rfl, hl17⟩ := len_inv hl16
  obtain ⟨pl, t17, rfl, hl18⟩ := len_inv hl17
  obtain ⟨f, t18, rfl, hl19⟩ := len_inv hl18
  obtain ⟨kw, t19, rfl, hl20⟩ := len_inv hl19
  obtain ⟨v, t20, rfl, hl21⟩ := len_inv hl20
  obtain ⟨w, t21, rfl, hl22⟩ := len_inv hl21
  obtain ⟨i, t22, rfl, hl23⟩ := len_inv hl22
  have hl := List.eq_nil_of_length_eq_zero hl23
  subst hl
  have p1 := p_get3 (by decide) (fOk_hd hp)
  have p2 := p_get3 (by decide) (fOk_hd (fOk_tl hp))
  have p3 := p_get3 (by decide) (fOk_hd (fOk_tl (fOk_tl hp)))
  have p4 := p_get3 (by decide) (fOk_hd (fOk_tl (fOk_tl (fOk_tl hp))))
  have p5 := gg_get (fOk_hd (fOk_tl (fOk_tl (fOk_tl (fOk_tl hp)))))
  simp only [List.map, xv, fev, fvl, gtI, Int.one_mul, Int.add_zero, Int.zero_add] at p1 p2 p3 p4 p5
  have q := k_c16_ok (z := z) (n := n) (p := p) (k := k) (zn := zn) (zf := zf) (zs := zs) (zt := zt) (h := h) (r := r) (g := g) (ev := ev) (ri := ri) (ml := ml) (so := so) (t := t) (kd := kd) (pl := pl) (f := f) (kw := kw) (v := v) (w := w) (i := i) (q3 p1) p2 p3 p4 p5
  refine ⟨[], rfl, fOk_cons (p_put3 rfl (by decide) ?_) fOk_nil⟩ <;> simp only [List.map, xv, fev, fvl, gtI, Int.one_mul, Int.add_zero, Int.zero_add, List.append_nil]
  exact ⟨rfl, q⟩
def r_c16_bad1 : eRul := (22, [xP 65 [xv 0, xv 1, ([], 16), xv 2, xv 3, xv 4, xv 5, xv 6, xv 7, xv 8, xv 9, xv 10, xv 11, xv 12, xv 13, xv 14, xv 15, ([], 0)], xP 53 [xv 0, xv 1, ([], 900), xv 2, xv 16, xv 17, xv 18, xv 19, xv 20, xv 21], xP 55 [xv 16, xv 19, ([], 0)]], 0, [xP 64 [xv 0, xv 1, ([(17, -1)], -1), ([], 1)]])
theorem r_c16_bad1_ok : ruOk r_c16_bad1 := by
  intro ρ hl0 hp
  obtain ⟨z, t0, rfl, hl1⟩ := len_inv hl0
  obtain ⟨n, t1, rfl, hl2⟩ := len_inv hl1
  obtain ⟨p, t2, rfl, hl3⟩ := len_inv hl2
  obtain ⟨k, t3, rfl, hl4⟩ := len_inv hl3
  obtain ⟨zn, t4, rfl, hl5⟩ := len_inv hl4
  obtain ⟨zf, t5, rfl, hl6⟩ := len_inv hl5
  obtain ⟨zs, t6, rfl, hl7⟩ := len_inv hl6
  obtain ⟨zt, t7, rfl, hl8⟩ := len_inv hl7
  obtain ⟨h, t8, rfl, hl9⟩ := len_inv hl8
  obtain ⟨r, t9, rfl, hl10⟩ := len_inv hl9
  obtain ⟨g, t10, rfl, hl11⟩ := len_inv hl10
  obtain ⟨ev, t11, rfl, hl12⟩ := len_inv hl11
  obtain ⟨ri, t12, rfl, hl13⟩ := len_inv hl12
  obtain ⟨ml, t13, rfl, hl14⟩ := len_inv hl13
  obtain ⟨so, t14, rfl, hl15⟩ := len_inv hl14
  obtain ⟨t, t15, rfl, hl16⟩ := len_inv hl15
  obtain ⟨kd, t16, rfl, hl17⟩ := len_inv hl16
  obtain ⟨pl, t17, rfl, hl18⟩ := len_inv hl17
  obtain ⟨f, t18, rfl, hl19⟩ := len_inv hl18
  obtain ⟨kw, t19, rfl, hl20⟩ := len_inv hl19
  obtain ⟨v, t20, rfl, hl21⟩ := len_inv hl20
  obtain ⟨w, t21, rfl, hl22⟩ := len_inv hl21
  have hl := List.eq_nil_of_length_eq_zero hl22
  subst hl
  have p1 := p_get3 (by decide) (fOk_hd hp)
  have p2 := p_get3 (by decide) (fOk_hd (fOk_tl hp))
  have p3 := p_get3 (by decide) (fOk_hd (fOk_tl (fOk_tl hp)))
  simp only [List.map, xv, fev, fvl, gtI, Int.one_mul, Int.add_zero, Int.zero_add] at p1 p2 p3
  have q := k_c16_bad1 (z := z) (n := n) (p := p) (k := k) (zn := zn) (zf := zf) (zs := zs) (zt := zt) (h := h) (r := r) (g := g) (ev := ev) (ri := ri) (ml := ml) (so := so) (t := t) (kd := kd) (pl := pl) (f := f) (kw := kw) (v := v) (w := w) (q3 p1) p2 p3
  refine ⟨[], rfl, fOk_cons (p_put3 rfl (by decide) ?_) fOk_nil⟩ <;> simp only [List.map, xv, fev, fvl, gtI, Int.one_mul, Int.add_zero, Int.zero_add, List.append_nil]
  exact q
def r_c16_bad2 : eRul := (22, [xP 65 [xv 0, xv 1, ([], 16), xv 2, xv 3, xv 4, xv 5, xv 6, xv 7, xv 8, xv 9, xv 10, xv 11, xv 12, xv 13, xv 14, xv 15, ([], 0)], xP 53 [xv 0, xv 1, ([], 900), xv 2, xv 16, xv 17, xv 18, xv 19, xv 20, xv 21], xP 55 [xv 16, xv 19, ([], 1)], xP 61 [xv 4, ([], 13), xv 10, xv 21, ([], -1)]], 0, [xP 64 [xv 0, xv 1, ([(17, -1)], -1), ([], 3)]])
theorem r_c16_bad2_ok : ruOk r_c16_bad2 := by
  intro ρ hl0 hp
  obtain ⟨z, t0, rfl, hl1⟩ := len_inv hl0
  obtain ⟨n, t1, rfl, hl2⟩ := len_inv hl1
  obtain ⟨p, t2, rfl, hl3⟩ := len_inv hl2
  obtain ⟨k, t3, rfl, hl4⟩ := len_inv hl3
  obtain ⟨zn, t4, rfl, hl5⟩ := len_inv hl4
  obtain ⟨zf, t5, rfl, hl6⟩ := len_inv hl5
  obtain ⟨zs, t6, rfl, hl7⟩ := len_inv hl6
  obtain ⟨zt, t7, rfl, hl8⟩ := len_inv hl7
  obtain ⟨h, t8, rfl, hl9⟩ := len_inv hl8
  obtain ⟨r, t9, rfl, hl10⟩ := len_inv hl9
  obtain ⟨g, t10, rfl, hl11⟩ := len_inv hl10
  obtain ⟨ev, t11, rfl, hl12⟩ := len_inv hl11
  obtain ⟨ri, t12, rfl, hl13⟩ := len_inv hl12
  obtain ⟨ml, t13, rfl, hl14⟩ := len_inv hl13
  obtain ⟨so, t14, rfl, hl15⟩ := len_inv hl14
  obtain ⟨t, t15, rfl, hl16⟩ := len_inv hl15
  obtain ⟨kd, t16, rfl, hl17⟩ := len_inv hl16
  obtain ⟨pl, t17, rfl, hl18⟩ := len_inv hl17
  obtain ⟨f, t18, rfl, hl19⟩ := len_inv hl18
  obtain ⟨kw, t19, rfl, hl20⟩ := len_inv hl19
  obtain ⟨v, t20, rfl, hl21⟩ := len_inv hl20
  obtain ⟨w, t21, rfl, hl22⟩ := len_inv hl21
  have hl := List.eq_nil_of_length_eq_zero hl22
  subst hl
  have p1 := p_get3 (by decide) (fOk_hd hp)
  have p2 := p_get3 (by decide) (fOk_hd (fOk_tl hp))
  have p3 := p_get3 (by decide) (fOk_hd (fOk_tl (fOk_tl hp)))
  have p4 := p_get3 (by decide) (fOk_hd (fOk_tl (fOk_tl (fOk_tl hp))))
  simp only [List.map, xv, fev, fvl, gtI, Int.one_mul, Int.add_zero, Int.zero_add] at p1 p2 p3 p4
  have q := k_c16_bad2 (z := z) (n := n) (p := p) (k := k) (zn := zn) (zf := zf) (zs := zs) (zt := zt) (h := h) (r := r) (g := g) (ev := ev) (ri := ri) (ml := ml) (so := so) (t := t) (kd := kd) (pl := pl) (f := f) (kw := kw) (v := v) (w := w) (q3 p1) p2 p3 p4
  refine ⟨[], rfl, fOk_cons (p_put3 rfl (by decide) ?_) fOk_nil⟩ <;> simp only [List.map, xv, fev, fvl, gtI, Int.one_mul, Int.add_zero, Int.zero_add, List.append_nil]
  exact q
def r_c17_ok : eRul := (30, [xP 65 [xv 0, xv 1, ([], 17), xv 2, xv 3, xv 4, xv 5, xv 6, xv 7, xv 8, xv 9, xv 10, xv 11, xv 12, xv 13, xv 14, xv 15, xv 16], xP 53 [xv 0, xv 1, ([], 900), xv 2, xv 17, xv 18, xv 19, xv 20, xv 21, xv 22], xP 55 [xv 17, xv 20, ([], 1)], xP 61 [xv 4, ([], 13), xv 10, xv 22, xv 23], xG (([(23, -1)], 0)), xP 89 [xv 5, xv 16, xv 23, ([], 0)], xP 1 [xv 24, xv 5, xv 16], xP 63 [xv 25, xv 24, xv 23], xP 2 [xv 26, xv 5, xv 16, xv 25], xP 1 [xv 27, xv 26, xv 23], xP 63 [xv 28, xv 27, xv 16], xP 2 [xv 29, xv 26, xv 23, xv 28], xP 86 [xv 16, xv 23]], 0, [xP 65 [xv 0, xv 1, ([], 30), xv 19, xv 3, xv 4, xv 29, xv 6, xv 7, xv 8, xv 9, xv 10, xv 11, xv 12, xv 13, xv 14, xv 15, ([], 0)]])
theorem r_c17_ok_ok : ruOk r_c17_ok := by
  intro ρ hl0 hp
  obtain ⟨z, t0, rfl, hl1⟩ := len_inv hl0
  obtain ⟨n, t1, rfl, hl2⟩ := len_inv hl1
  obtain ⟨p, t2, rfl, hl3⟩ := len_inv hl2
  obtain ⟨k, t3, rfl, hl4⟩ := len_inv hl3
  obtain ⟨zn, t4, rfl, hl5⟩ := len_inv hl4
  obtain ⟨zf, t5, rfl, hl6⟩ := len_inv hl5
  obtain ⟨zs, t6, rfl, hl7⟩ := len_inv hl6
  obtain ⟨zt, t7, rfl, hl8⟩ := len_inv hl7
  obtain ⟨h, t8, rfl, hl9⟩ := len_inv hl8
  obtain ⟨r, t9, rfl, hl10⟩ := len_inv hl9
  obtain ⟨g, t10, rfl, hl11⟩ := len_inv hl10
  obtain ⟨ev, t11, rfl, hl12⟩ := len_inv hl11
  obtain ⟨ri, t12, rfl, hl13⟩ := len_inv hl12
  obtain ⟨ml, t13, rfl, hl14⟩ := len_inv hl13
  obtain ⟨so, t14, rfl, hl15⟩ := len_inv hl14
  obtain ⟨t, t15, rfl, hl16⟩ := len_inv hl15
  obtain ⟨u, t16, rfl, hl17⟩ := len_inv hl16
  obtain ⟨kd, t17, rfl, hl18⟩ := len_inv hl17
  obtain ⟨pl, t18, rfl, hl19⟩ := len_inv hl18
  obtain ⟨f, t19, rfl, hl20⟩ := len_inv hl19
  obtain ⟨kw, t20, rfl, hl21⟩ := len_inv hl20
  obtain ⟨v, t21, rfl, hl22⟩ := len_inv hl21
  obtain ⟨w, t22, rfl, hl23⟩ := len_inv hl22
  obtain ⟨i, t23, rfl, hl24⟩ := len_inv hl23
  obtain ⟨x, t24, rfl, hl25⟩ := len_inv hl24
  obtain ⟨x2, t25, rfl, hl26⟩ := len_inv hl25
  obtain ⟨zf2, t26, rfl, hl27⟩ := len_inv hl26
  obtain ⟨y, t27, rfl, hl28⟩ := len_inv hl27
  obtain ⟨y2, t28, rfl, hl29⟩ := len_inv hl28
  obtain ⟨zf3, t29, rfl, hl30⟩ := len_inv hl29
  have hl := List.eq_nil_of_length_eq_zero hl30
  subst hl
  have p1 := p_get3 (by decide) (fOk_hd hp)
  have p2 := p_get3 (by decide) (fOk_hd (fOk_tl hp))
  have p3 := p_get3 (by decide) (fOk_hd (fOk_tl (fOk_tl hp)))
  have p4 := p_get3 (by decide) (fOk_hd (fOk_tl (fOk_tl (fOk_tl hp))))
  have p5 := gg_get (fOk_hd (fOk_tl (fOk_tl (fOk_tl (fOk_tl hp)))))
  have p6 := p_get3 (by decide) (fOk_hd (fOk_tl (fOk_tl (fOk_tl (fOk_tl (fOk_tl hp))))))
  have p7 := p_get (fOk_hd (fOk_tl (fOk_tl (fOk_tl (fOk_tl (fOk_tl (fOk_tl hp)))))))
  have p8 := p_get3 (by decide) (fOk_hd (fOk_tl (fOk_tl (fOk_tl (fOk_tl (fOk_tl (fOk_tl (fOk_tl hp))))))))
  have p9 := p_get (fOk_hd (fOk_tl (fOk_tl (fOk_tl (fOk_tl (fOk_tl (fOk_tl (fOk_tl (fOk_tl hp)))))))))
  have p10 := p_get (fOk_hd (fOk_tl (fOk_tl (fOk_tl (fOk_tl (fOk_tl (fOk_tl (fOk_tl (fOk_tl (fOk_tl hp))))))))))
  have p11 := p_get3 (by decide) (fOk_hd (fOk_tl (fOk_tl (fOk_tl (fOk_tl (fOk_tl (fOk_tl (fOk_tl (fOk_tl (fOk_tl (fOk_tl hp)))))))))))
  have p12 := p_get (fOk_hd (fOk_tl (fOk_tl (fOk_tl (fOk_tl (fOk_tl (fOk_tl (fOk_tl (fOk_tl (fOk_tl (fOk_tl (fOk_tl hp))))))))))))
  have p13 := p_get3 (by decide) (fOk_hd (fOk_tl (fOk_tl (fOk_tl (fOk_tl (fOk_tl (fOk_tl (fOk_tl (fOk_tl (fOk_tl (fOk_tl (fOk_tl (fOk_tl hp)))))))))))))
  simp only [List.map, xv, fev, fvl, gtI, Int.one_mul, Int.add_zero, Int.zero_add, PR] at p1 p2 p3 p4 p5 p6 p7 p8 p9 p10 p11 p12 p13
  have q := k_c17_ok (z := z) (n := n) (p := p) (k := k) (zn := zn) (zf := zf) (zs := zs) (zt := zt) (h := h) (r := r) (g := g) (ev := ev) (ri := ri) (ml := ml) (so := so) (t := t) (u := u) (kd := kd) (pl := pl) (f := f) (kw := kw) (v := v) (w := w) (i := i) (x := x) (x2 := x2) (zf2 := zf2) (y := y) (y2 := y2) (zf3 := zf3) (q3 p1) p2 p3 p4 p5 p6 p7 p8 p9 p10 p11 p12 p13
  refine ⟨[], rfl, fOk_cons (p_put3 rfl (by decide) ?_) fOk_nil⟩ <;> simp only [List.map, xv, fev, fvl, gtI, Int.one_mul, Int.add_zero, Int.zero_add, List.append_nil]
  exact ⟨rfl, q⟩
def r_c17_bad1 : eRul := (23, [xP 65 [xv 0, xv 1, ([], 17), xv 2, xv 3, xv 4, xv 5, xv 6, xv 7, xv 8, xv 9, xv 10, xv 11, xv 12, xv 13, xv 14, xv 15, xv 16], xP 53 [xv 0, xv 1, ([], 900), xv 2, xv 17, xv 18, xv 19, xv 20, xv 21, xv 22], xP 55 [xv 17, xv 20, ([], 0)]], 0, [xP 64 [xv 0, xv 1, ([(18, -1)], -1), ([], 1)]])
theorem r_c17_bad1_ok : ruOk r_c17_bad1 := by
  intro ρ hl0 hp
  obtain ⟨z, t0, rfl, hl1⟩ := len_inv hl0
  obtain ⟨n, t1, rfl, hl2⟩ := len_inv hl1
  obtain ⟨p, t2, rfl, hl3⟩ := len_inv hl2
  obtain ⟨k, t3, rfl, hl4⟩ := len_inv hl3
  obtain ⟨zn, t4, rfl, hl5⟩ := len_inv hl4
  obtain ⟨zf, t5, rfl, hl6⟩ := len_inv hl5
  obtain ⟨zs, t6, rfl, hl7⟩ := len_inv hl6
  obtain ⟨zt, t7, rfl, hl8⟩ := len_inv hl7
  obtain ⟨h, t8, rfl, hl9⟩ := len_inv hl8
  obtain ⟨r, t9, rfl, hl10⟩ := len_inv hl9
  obtain ⟨g, t10, rfl, hl11⟩ := len_inv hl10
  obtain ⟨ev, t11, rfl, hl12⟩ := len_inv hl11
  obtain ⟨ri, t12, rfl, hl13⟩ := len_inv hl12
  obtain ⟨ml, t13, rfl, hl14⟩ := len_inv hl13
  obtain ⟨so, t14, rfl, hl15⟩ := len_inv hl14
  obtain ⟨t, t15, rfl, hl16⟩ := len_inv hl15
  obtain ⟨u, t16, rfl, hl17⟩ := len_inv hl16
  obtain ⟨kd, t17, rfl, hl18⟩ := len_inv hl17
  obtain ⟨pl, t18, rfl, hl19⟩ := len_inv hl18
  obtain ⟨f, t19, rfl, hl20⟩ := len_inv hl19
  obtain ⟨kw, t20, rfl, hl21⟩ := len_inv hl20
  obtain ⟨v, t21, rfl, hl22⟩ := len_inv hl21
  obtain ⟨w, t22, rfl, hl23⟩ := len_inv hl22
  have hl := List.eq_nil_of_length_eq_zero hl23
  subst hl
  have p1 := p_get3 (by decide) (fOk_hd hp)
  have p2 := p_get3 (by decide) (fOk_hd (fOk_tl hp))
  have p3 := p_get3 (by decide) (fOk_hd (fOk_tl (fOk_tl hp)))
  simp only [List.map, xv, fev, fvl, gtI, Int.one_mul, Int.add_zero, Int.zero_add] at p1 p2 p3
  have q := k_c17_bad1 (z := z) (n := n) (p := p) (k := k) (zn := zn) (zf := zf) (zs := zs) (zt := zt) (h := h) (r := r) (g := g) (ev := ev) (ri := ri) (ml := ml) (so := so) (t := t) (u := u) (kd := kd) (pl := pl) (f := f) (kw := kw) (v := v) (w := w) (q3 p1) p2 p3
  refine ⟨[], rfl, fOk_cons (p_put3 rfl (by decide) ?_) fOk_nil⟩ <;> simp only [List.map, xv, fev, fvl, gtI, Int.one_mul, Int.add_zero, Int.zero_add, List.append_nil]
  exact q
def r_c17_bad2 : eRul := (23, [xP 65 [xv 0, xv 1, ([], 17), xv 2, xv 3, xv 4, xv 5, xv 6, xv 7, xv 8, xv 9, xv 10, xv 11, xv 12, xv 13, xv 14, xv 15, xv 16], xP 53 [xv 0, xv 1, ([], 900), xv 2, xv 17, xv 18, xv 19, xv 20, xv 21, xv 22], xP 55 [xv 17, xv 20, ([], 1)], xP 61 [xv 4, ([], 13), xv 10, xv 22, ([], -1)]], 0, [xP 64 [xv 0, xv 1, ([(18, -1)], -1), ([], 3)]])
theorem r_c17_bad2_ok : ruOk r_c17_bad2 := by
  intro ρ hl0 hp
  obtain ⟨z, t0, rfl, hl1⟩ := len_inv hl0
  obtain ⟨n, t1, rfl, hl2⟩ := len_inv hl1
  obtain ⟨p, t2, rfl, hl3⟩ := len_inv hl2
  obtain ⟨k, t3, rfl, hl4⟩ := len_inv hl3
  obtain ⟨zn, t4, rfl, hl5⟩ := len_inv hl4
  obtain ⟨zf, t5, rfl, hl6⟩ := len_inv hl5
  obtain ⟨zs, t6, rfl, hl7⟩ := len_inv hl6
  obtain ⟨zt, t7, rfl, hl8⟩ := len_inv hl7
  obtain ⟨h, t8, rfl, hl9⟩ := len_inv hl8
  obtain ⟨r, t9, rfl, hl10⟩ := len_inv hl9
  obtain ⟨g, t10, rfl, hl11⟩ := len_inv hl10
  obtain ⟨ev, t11, rfl, hl12⟩ := len_inv hl11
  obtain ⟨ri, t12, rfl, hl13⟩ := len_inv hl12
  obtain ⟨ml, t13, rfl, hl14⟩ := len_inv hl13
  obtain ⟨so, t14, rfl, hl15⟩ := len_inv hl14
  obtain ⟨t, t15, rfl, hl16⟩ := len_inv hl15
  obtain ⟨u, t16, rfl, hl17⟩ := len_inv hl16
  obtain ⟨kd, t17, rfl, hl18⟩ := len_inv hl17
  obtain ⟨pl, t18, rfl, hl19⟩ := len_inv hl18
  obtain ⟨f, t19, rfl, hl20⟩ := len_inv hl19
  obtain ⟨kw, t20, rfl, hl21⟩ := len_inv hl20
  obtain ⟨v, t21, rfl, hl22⟩ := len_inv hl21
  obtain ⟨w, t22, rfl, hl23⟩ := len_inv hl22
  have hl := List.eq_nil_of_length_eq_zero hl23
  subst hl
  have p1 := p_get3 (by decide) (fOk_hd hp)
  have p2 := p_get3 (by decide) (fOk_hd (fOk_tl hp))
  have p3 := p_get3 (by decide) (fOk_hd (fOk_tl (fOk_tl hp)))
  have p4 := p_get3 (by decide) (fOk_hd (fOk_tl (fOk_tl (fOk_tl hp))))
  simp only [List.map, xv, fev, fvl, gtI, Int.one_mul, Int.add_zero, Int.zero_add] at p1 p2 p3 p4
  have q := k_c17_bad2 (z := z) (n := n) (p := p) (k := k) (zn := zn) (zf := zf) (zs := zs) (zt := zt) (h := h) (r := r) (g := g) (ev := ev) (ri := ri) (ml := ml) (so := so) (t := t) (u := u) (kd := kd) (pl := pl) (f := f) (kw := kw) (v := v) (w := w) (q3 p1) p2 p3 p4
  refine ⟨[], rfl, fOk_cons (p_put3 rfl (by decide) ?_) fOk_nil⟩ <;> simp only [List.map, xv, fev, fvl, gtI, Int.one_mul, Int.add_zero, Int.zero_add, List.append_nil]
  exact q
def r_c17_bad3 : eRul := (24, [xP 65 [xv 0, xv 1, ([], 17), xv 2, xv 3, xv 4, xv 5, xv 6, xv 7, xv 8, xv 9, xv 10, xv 11, xv 12, xv 13, xv 14, xv 15, xv 16], xP 53 [xv 0, xv 1, ([], 900), xv 2, xv 17, xv 18, xv 19, xv 20, xv 21, xv 22], xP 55 [xv 17, xv 20, ([], 1)], xP 61 [xv 4, ([], 13), xv 10, xv 22, xv 23], xG (([(16, 1), (23, -1)], 0)), xG (([(16, -1), (23, 1)], 0)), xG (([(23, -1)], 0))], 0, [xP 64 [xv 0, xv 1, ([(18, -1)], -1), ([], 3)]])
theorem r_c17_bad3_ok : ruOk r_c17_bad3 := by
  intro ρ hl0 hp
  obtain ⟨z, t0, rfl, hl1⟩ := len_inv hl0
  obtain ⟨n, t1, rfl, hl2⟩ := len_inv hl1
  obtain ⟨p, t2, rfl, hl3⟩ := len_inv hl2
  obtain ⟨k, t3, rfl, hl4⟩ := len_inv hl3
  obtain ⟨zn, t4, rfl, hl5⟩ := len_inv hl4
  obtain ⟨zf, t5, rfl, hl6⟩ := len_inv hl5
  obtain ⟨zs, t6, rfl, hl7⟩ := len_inv hl6
  obtain ⟨zt, t7, rfl, hl8⟩ := len_inv hl7
  obtain ⟨h, t8, rfl, hl9⟩ := len_inv hl8
  obtain ⟨r, t9, rfl, hl10⟩ := len_inv hl9
  obtain ⟨g, t10, rfl, hl11⟩ := len_inv hl10
  obtain ⟨ev, t11, rfl, hl12⟩ := len_inv hl11
  obtain ⟨ri, t12, rfl, hl13⟩ := len_inv hl12
  obtain ⟨ml, t13, rfl, hl14⟩ := len_inv hl13
  obtain ⟨so, t14, rfl, hl15⟩ := len_inv hl14
  obtain ⟨t, t15, rfl, hl16⟩ := len_inv hl15
  obtain ⟨u, t16, rfl, hl17⟩ := len_inv hl16
  obtain ⟨kd, t17, rfl, hl18⟩ := len_inv hl17
  obtain ⟨pl, t18, rfl, hl19⟩ := len_inv hl18
  obtain ⟨f, t19, rfl, hl20⟩ := len_inv hl19
  obtain ⟨kw, t20, rfl, hl21⟩ := len_inv hl20
  obtain ⟨v, t21, rfl, hl22⟩ := len_inv hl21
  obtain ⟨w, t22, rfl, hl23⟩ := len_inv hl22
  obtain ⟨i, t23, rfl, hl24⟩ := len_inv hl23
  have hl := List.eq_nil_of_length_eq_zero hl24
  subst hl
  have p1 := p_get3 (by decide) (fOk_hd hp)
  have p2 := p_get3 (by decide) (fOk_hd (fOk_tl hp))
  have p3 := p_get3 (by decide) (fOk_hd (fOk_tl (fOk_tl hp)))
  have p4 := p_get3 (by decide) (fOk_hd (fOk_tl (fOk_tl (fOk_tl hp))))
  have p5 := gg_get (fOk_hd (fOk_tl (fOk_tl (fOk_tl (fOk_tl hp)))))
  have p6 := gg_get (fOk_hd (fOk_tl (fOk_tl (fOk_tl (fOk_tl (fOk_tl hp))))))
  have p7 := gg_get (fOk_hd (fOk_tl (fOk_tl (fOk_tl (fOk_tl (fOk_tl (fOk_tl hp)))))))
  simp only [List.map, xv, fev, fvl, gtI, Int.one_mul, Int.add_zero, Int.zero_add] at p1 p2 p3 p4 p5 p6 p7
  have q := k_c17_bad3 (z := z) (n := n) (p := p) (k := k) (zn := zn) (zf := zf) (zs := zs) (zt := zt) (h := h) (r := r) (g := g) (ev := ev) (ri := ri) (ml := ml) (so := so) (t := t) (u := u) (kd := kd) (pl := pl) (f := f) (kw := kw) (v := v) (w := w) (i := i) (q3 p1) p2 p3 p4 p5 p6 p7
  refine ⟨[], rfl, fOk_cons (p_put3 rfl (by decide) ?_) fOk_nil⟩ <;> simp only [List.map, xv, fev, fvl, gtI, Int.one_mul, Int.add_zero, Int.zero_add, List.append_nil]
  exact q
def r_c17_bad4 : eRul := (24, [xP 65 [xv 0, xv 1, ([], 17), xv 2, xv 3, xv 4, xv 5, xv 6, xv 7, xv 8, xv 9, xv 10, xv 11, xv 12, xv 13, xv 14, xv 15, xv 16], xP 53 [xv 0, xv 1, ([], 900), xv 2, xv 17, xv 18, xv 19, xv 20, xv 21, xv 22], xP 55 [xv 17, xv 20, ([], 1)], xP 61 [xv 4, ([], 13), xv 10, xv 22, xv 23], xG (([(23, -1)], 0)), xP 89 [xv 5, xv 16, xv 23, ([], 1)]], 0, [xP 64 [xv 0, xv 1, ([(18, -1)], -1), ([], 3)]])
theorem r_c17_bad4_ok : ruOk r_c17_bad4 := by
  intro ρ hl0 hp
  obtain ⟨z, t0, rfl, hl1⟩ := len_inv hl0
  obtain ⟨n, t1, rfl, hl2⟩ := len_inv hl1
  obtain ⟨p, t2, rfl, hl3⟩ := len_inv hl2
  obtain ⟨k, t3, rfl, hl4⟩ := len_inv hl3
  obtain ⟨zn, t4, rfl, hl5⟩ := len_inv hl4
  obtain ⟨zf, t5, rfl, hl6⟩ := len_inv hl5
  obtain ⟨zs, t6, rfl, hl7⟩ := len_inv hl6
  obtain ⟨zt, t7, rfl, hl8⟩ := len_inv hl7
  obtain ⟨h, t8, rfl, hl9⟩ := len_inv hl8
  obtain ⟨r, t9, rfl, hl10⟩ := len_inv hl9
  obtain ⟨g, t10, rfl, hl11⟩ := len_inv hl10
  obtain ⟨ev, t11, rfl, hl12⟩ := len_inv hl11
  obtain ⟨ri, t12, rfl, hl13⟩ := len_inv hl12
  obtain ⟨ml, t13, rfl, hl14⟩ := len_inv hl13
  obtain ⟨so, t14, rfl, hl15⟩ := len_inv hl14
  obtain ⟨t, t15, rfl, hl16⟩ := len_inv hl15
  obtain ⟨u, t16, rfl, hl17⟩ := len_inv hl16
  obtain ⟨kd, t17, rfl, hl18⟩ := len_inv hl17
  obtain ⟨pl, t18, rfl, hl19⟩ := len_inv hl18
  obtain ⟨f, t19, rfl, hl20⟩ := len_inv hl19
  obtain ⟨kw, t20, rfl, hl21⟩ := len_inv hl20
  obtain ⟨v, t21, rfl, hl22⟩ := len_inv hl21
  obtain ⟨w, t22, rfl, hl23⟩ := len_inv hl22
  obtain ⟨i, t23, rfl, hl24⟩ := len_inv hl23
  have hl := List.eq_nil_of_length_eq_zero hl24
  subst hl
  have p1 := p_get3 (by decide) (fOk_hd hp)
  have p2 := p_get3 (by decide) (fOk_hd (fOk_tl hp))
  have p3 := p_get3 (by decide) (fOk_hd (fOk_tl (fOk_tl hp)))
  have p4 := p_get3 (by decide) (fOk_hd (fOk_tl (fOk_tl (fOk_tl hp))))
  have p5 := gg_get (fOk_hd (fOk_tl (fOk_tl (fOk_tl (fOk_tl hp)))))
  have p6 := p_get3 (by decide) (fOk_hd (fOk_tl (fOk_tl (fOk_tl (fOk_tl (fOk_tl hp))))))
  simp only [List.map, xv, fev, fvl, gtI, Int.one_mul, Int.add_zero, Int.zero_add] at p1 p2 p3 p4 p5 p6
  have q := k_c17_bad4 (z := z) (n := n) (p := p) (k := k) (zn := zn) (zf := zf) (zs := zs) (zt := zt) (h := h) (r := r) (g := g) (ev := ev) (ri := ri) (ml := ml) (so := so) (t := t) (u := u) (kd := kd) (pl := pl) (f := f) (kw := kw) (v := v) (w := w) (i := i) (q3 p1) p2 p3 p4 p5 p6
  refine ⟨[], rfl, fOk_cons (p_put3 rfl (by decide) ?_) fOk_nil⟩ <;> simp only [List.map, xv, fev, fvl, gtI, Int.one_mul, Int.add_zero, Int.zero_add, List.append_nil]
  exact q
def r_c18_ok : eRul := (24, [xP 65 [xv 0, xv 1, ([], 18), xv 2, xv 3, xv 4, xv 5, xv 6, xv 7, xv 8, xv 9, xv 10, xv 11, xv 12, xv 13, xv 14, xv 15, ([], 0)], xP 53 [xv 0, xv 1, ([], 900), xv 2, xv 16, xv 17, xv 18, xv 19, xv 20, xv 21], xP 55 [xv 16, xv 19, ([], 1)], xP 61 [xv 4, ([], 13), xv 10, xv 21, xv 22], xG (([(22, -1)], 0)), xP 1 [xv 23, xv 6, xv 22], (.inl [[(-1, -1)]], [xv 23])], 0, [xP 65 [xv 0, xv 1, ([], 19), xv 18, xv 3, xv 4, xv 5, xv 6, xv 7, xv 8, xv 9, xv 10, xv 11, xv 12, xv 13, xv 14, xv 15, xv 22]])
theorem r_c18_ok_ok : ruOk r_c18_ok := by
  intro ρ hl0 hp
  obtain ⟨z, t0, rfl, hl1⟩ := len_inv hl0
  obtain ⟨n, t1, rfl, hl2⟩ := len_inv hl1
  obtain ⟨p, t2, rfl, hl3⟩ := len_inv hl2
  obtain ⟨k, t3, rfl, hl4⟩ := len_inv hl3
  obtain ⟨zn, t4, rfl, hl5⟩ := len_inv hl4
  obtain ⟨zf, t5, rfl, hl6⟩ := len_inv hl5
  obtain ⟨zs, t6, rfl, hl7⟩ := len_inv hl6
  obtain ⟨zt, t7, rfl, hl8⟩ := len_inv hl7
  obtain ⟨h, t8, rfl, hl9⟩ := len_inv hl8
  obtain ⟨r, t9, rfl, hl10⟩ := len_inv hl9
  obtain ⟨g, t10, rfl, hl11⟩ := len_inv hl10
  obtain ⟨ev, t11, rfl, hl12⟩ := len_inv hl11
  obtain ⟨ri, t12, rfl, hl13⟩ := len_inv hl12
  obtain ⟨ml, t13, rfl, hl14⟩ := len_inv hl13
  obtain ⟨so, t14, rfl, hl15⟩ := len_inv hl14
  obtain ⟨t, t15, rfl, hl16⟩ := len_inv hl15
  obtain ⟨kd, t16, rfl, hl17⟩ := len_inv hl16
  obtain ⟨pl, t17, rfl, hl18⟩ := len_inv hl17
  obtain ⟨f, t18, rfl, hl19⟩ := len_inv hl18
  obtain ⟨kw, t19, rfl, hl20⟩ := len_inv hl19
  obtain ⟨v, t20, rfl, hl21⟩ := len_inv hl20
  obtain ⟨w, t21, rfl, hl22⟩ := len_inv hl21
  obtain ⟨i, t22, rfl, hl23⟩ := len_inv hl22
  obtain ⟨x, t23, rfl, hl24⟩ := len_inv hl23
  have hl := List.eq_nil_of_length_eq_zero hl24
  subst hl
  have p1 := p_get3 (by decide) (fOk_hd hp)
  have p2 := p_get3 (by decide) (fOk_hd (fOk_tl hp))
  have p3 := p_get3 (by decide) (fOk_hd (fOk_tl (fOk_tl hp)))
  have p4 := p_get3 (by decide) (fOk_hd (fOk_tl (fOk_tl (fOk_tl hp))))
  have p5 := gg_get (fOk_hd (fOk_tl (fOk_tl (fOk_tl (fOk_tl hp)))))
  have p6 := p_get (fOk_hd (fOk_tl (fOk_tl (fOk_tl (fOk_tl (fOk_tl hp))))))
  have p7 := i_get (fOk_hd (fOk_tl (fOk_tl (fOk_tl (fOk_tl (fOk_tl (fOk_tl hp)))))))
  simp only [List.map, xv, fev, fvl, gtI, Int.one_mul, Int.add_zero, Int.zero_add, PR] at p1 p2 p3 p4 p5 p6 p7
  have q := k_c18_ok (z := z) (n := n) (p := p) (k := k) (zn := zn) (zf := zf) (zs := zs) (zt := zt) (h := h) (r := r) (g := g) (ev := ev) (ri := ri) (ml := ml) (so := so) (t := t) (kd := kd) (pl := pl) (f := f) (kw := kw) (v := v) (w := w) (i := i) (x := x) (q3 p1) p2 p3 p4 p5 p6 p7
  refine ⟨[], rfl, fOk_cons (p_put3 rfl (by decide) ?_) fOk_nil⟩ <;> simp only [List.map, xv, fev, fvl, gtI, Int.one_mul, Int.add_zero, Int.zero_add, List.append_nil]
  exact ⟨rfl, q⟩
def r_c18_bad1 : eRul := (22, [xP 65 [xv 0, xv 1, ([], 18), xv 2, xv 3, xv 4, xv 5, xv 6, xv 7, xv 8, xv 9, xv 10, xv 11, xv 12, xv 13, xv 14, xv 15, ([], 0)], xP 53 [xv 0, xv 1, ([], 900), xv 2, xv 16, xv 17, xv 18, xv 19, xv 20, xv 21], xP 55 [xv 16, xv 19, ([], 0)]], 0, [xP 64 [xv 0, xv 1, ([(17, -1)], -1), ([], 1)]])
theorem r_c18_bad1_ok : ruOk r_c18_bad1 := by
  intro ρ hl0 hp
  obtain ⟨z, t0, rfl, hl1⟩ := len_inv hl0
  obtain ⟨n, t1, rfl, hl2⟩ := len_inv hl1
  obtain ⟨p, t2, rfl, hl3⟩ := len_inv hl2
  obtain ⟨k, t3, rfl, hl4⟩ := len_inv hl3
  obtain ⟨zn, t4, rfl, hl5⟩ := len_inv hl4
  obtain ⟨zf, t5, rfl, hl6⟩ := len_inv hl5
  obtain ⟨zs, t6, rfl, hl7⟩ := len_inv hl6
  obtain ⟨zt, t7, rfl, hl8⟩ := len_inv hl7
  obtain ⟨h, t8, rfl, hl9⟩ := len_inv hl8
  obtain ⟨r, t9, rfl, hl10⟩ := len_inv hl9
  obtain ⟨g, t10, rfl, hl11⟩ := len_inv hl10
  obtain ⟨ev, t11, rfl, hl12⟩ := len_inv hl11
  obtain ⟨ri, t12, rfl, hl13⟩ := len_inv hl12
  obtain ⟨ml, t13, rfl, hl14⟩ := len_inv hl13
  obtain ⟨so, t14, rfl, hl15⟩ := len_inv hl14
  obtain ⟨t, t15, rfl, hl16⟩ := len_inv hl15
  obtain ⟨kd, t16, rfl, hl17⟩ := len_inv hl16
  obtain ⟨pl, t17, rfl, hl18⟩ := len_inv hl17
  obtain ⟨f, t18, rfl, hl19⟩ := len_inv hl18
  obtain ⟨kw, t19, rfl, hl20⟩ := len_inv hl19
  obtain ⟨v, t20, rfl, hl21⟩ := len_inv hl20
  obtain ⟨w, t21, rfl, hl22⟩ := len_inv hl21
  have hl := List.eq_nil_of_length_eq_zero hl22
  subst hl
  have p1 := p_get3 (by decide) (fOk_hd hp)
  have p2 := p_get3 (by decide) (fOk_hd (fOk_tl hp))
  have p3 := p_get3 (by decide) (fOk_hd (fOk_tl (fOk_tl hp)))
  simp only [List.map, xv, fev, fvl, gtI, Int.one_mul, Int.add_zero, Int.zero_add] at p1 p2 p3
  have q := k_c18_bad1 (z := z) (n := n) (p := p) (k := k) (zn := zn) (zf := zf) (zs := zs) (zt := zt) (h := h) (r := r) (g := g) (ev := ev) (ri := ri) (ml := ml) (so := so) (t := t) (kd := kd) (pl := pl) (f := f) (kw := kw) (v := v) (w := w) (q3 p1) p2 p3
  refine ⟨[], rfl, fOk_cons (p_put3 rfl (by decide) ?_) fOk_nil⟩ <;> simp only [List.map, xv, fev, fvl, gtI, Int.one_mul, Int.add_zero, Int.zero_add, List.append_nil]
  exact q
def r_c18_bad2 : eRul := (22, [xP 65 [xv 0, xv 1, ([], 18), xv 2, xv 3, xv 4, xv 5, xv 6, xv 7, xv 8, xv 9, xv 10, xv 11, xv 12, xv 13, xv 14, xv 15, ([], 0)], xP 53 [xv 0, xv 1, ([], 900), xv 2, xv 16, xv 17, xv 18, xv 19, xv 20, xv 21], xP 55 [xv 16, xv 19, ([], 1)], xP 61 [xv 4, ([], 13), xv 10, xv 21, ([], -1)]], 0, [xP 64 [xv 0, xv 1, ([(17, -1)], -1), ([], 3)]])
theorem r_c18_bad2_ok : ruOk r_c18_bad2 := by
  intro ρ hl0 hp
  obtain ⟨z, t0, rfl, hl1⟩ := len_inv hl0
  obtain ⟨n, t1, rfl, hl2⟩ := len_inv hl1
  obtain ⟨p, t2, rfl, hl3⟩ := len_inv hl2
  obtain ⟨k, t3, rfl, hl4⟩ := len_inv hl3
  obtain ⟨zn, t4, rfl, hl5⟩ := len_inv hl4
  obtain ⟨zf, t5, rfl, hl6⟩ := len_inv hl5
  obtain ⟨zs, t6, rfl, hl7⟩ := len_inv hl6
  obtain ⟨zt, t7, rfl, hl8⟩ := len_inv hl7
  obtain ⟨h, t8, rfl, hl9⟩ := len_inv hl8
  obtain ⟨r, t9, rfl, hl10⟩ := len_inv hl9
  obtain ⟨g, t10, rfl, hl11⟩ := len_inv hl10
  obtain ⟨ev, t11, rfl, hl12⟩ := len_inv hl11
  obtain ⟨ri, t12, rfl, hl13⟩ := len_inv hl12
  obtain ⟨ml, t13, rfl, hl14⟩ := len_inv hl13
  obtain ⟨so, t14, rfl, hl15⟩ := len_inv hl14
  obtain ⟨t, t15, rfl, hl16⟩ := len_inv hl15
  obtain ⟨kd, t16, rfl, hl17⟩ := len_inv hl16
  obtain ⟨pl, t17, rfl, hl18⟩ := len_inv hl17
  obtain ⟨f, t18, rfl, hl19⟩ := len_inv hl18
  obtain ⟨kw, t19, rfl, hl20⟩ := len_inv hl19
  obtain ⟨v, t20, rfl, hl21⟩ := len_inv hl20
  obtain ⟨w, t21, rfl, hl22⟩ := len_inv hl21
  have hl := List.eq_nil_of_length_eq_zero hl22
  subst hl
  have p1 := p_get3 (by decide) (fOk_hd hp)
  have p2 := p_get3 (by decide) (fOk_hd (fOk_tl hp))
  have p3 := p_get3 (by decide) (fOk_hd (fOk_tl (fOk_tl hp)))
  have p4 := p_get3 (by decide) (fOk_hd (fOk_tl (fOk_tl (fOk_tl hp))))
  simp only [List.map, xv, fev, fvl, gtI, Int.one_mul, Int.add_zero, Int.zero_add] at p1 p2 p3 p4
  have q := k_c18_bad2 (z := z) (n := n) (p := p) (k := k) (zn := zn) (zf := zf) (zs := zs) (zt := zt) (h := h) (r := r) (g := g) (ev := ev) (ri := ri) (ml := ml) (so := so) (t := t) (kd := kd) (pl := pl) (f := f) (kw := kw) (v := v) (w := w) (q3 p1) p2 p3 p4
  refine ⟨[], rfl, fOk_cons (p_put3 rfl (by decide) ?_) fOk_nil⟩ <;> simp only [List.map, xv, fev, fvl, gtI, Int.one_mul, Int.add_zero, Int.zero_add, List.append_nil]
  exact q
def r_c18_bad3 : eRul := (24, [xP 65 [xv 0, xv 1, ([], 18), xv 2, xv 3, xv 4, xv 5, xv 6, xv 7, xv 8, xv 9, xv 10, xv 11, xv 12, xv 13, xv 14, xv 15, ([], 0)], xP 53 [xv 0, xv 1, ([], 900), xv 2, xv 16, xv 17, xv 18, xv 19, xv 20, xv 21], xP 55 [xv 16, xv 19, ([], 1)], xP 61 [xv 4, ([], 13), xv 10, xv 21, xv 22], xG (([(22, -1)], 0)), xP 1 [xv 23, xv 6, xv 22], (.inl [[(0, 1000)]], [xv 23])], 0, [xP 64 [xv 0, xv 1, ([(17, -1)], -1), ([], 3)]])
theorem r_c18_bad3_ok : ruOk r_c18_bad3 := by
  intro ρ hl0 hp
  obtain ⟨z, t0, rfl, hl1⟩ := len_inv hl0
  obtain ⟨n, t1, rfl, hl2⟩ := len_inv hl1
  obtain ⟨p, t2, rfl, hl3⟩ := len_inv hl2
  obtain ⟨k, t3, rfl, hl4⟩ := len_inv hl3
  obtain ⟨zn, t4, rfl, hl5⟩ := len_inv hl4
  obtain ⟨zf, t5, rfl, hl6⟩ := len_inv hl5
  obtain ⟨zs, t6, rfl, hl7⟩ := len_inv hl6
  obtain ⟨zt, t7, rfl, hl8⟩ := len_inv hl7
  obtain ⟨h, t8, rfl, hl9⟩ := len_inv hl8
  obtain ⟨r, t9, rfl, hl10⟩ := len_inv hl9
  obtain ⟨g, t10, rfl, hl11⟩ := len_inv hl10
  obtain ⟨ev, t11, rfl, hl12⟩ := len_inv hl11
  obtain ⟨ri, t12, rfl, hl13⟩ := len_inv hl12
  obtain ⟨ml, t13, rfl, hl14⟩ := len_inv hl13
  obtain ⟨so, t14, rfl, hl15⟩ := len_inv hl14
  obtain ⟨t, t15, rfl, hl16⟩ := len_inv hl15
  obtain ⟨kd, t16, rfl, hl17⟩ := len_inv hl16
  obtain ⟨pl, t17, rfl, hl18⟩ := len_inv hl17
  obtain ⟨f, t18, rfl, hl19⟩ := len_inv hl18
  obtain ⟨kw, t19, rfl, hl20⟩ := len_inv hl19
  obtain ⟨v, t20, rfl, hl21⟩ := len_inv hl20
  obtain ⟨w, t21, rfl, hl22⟩ := len_inv hl21
  obtain ⟨i, t22, rfl, hl23⟩ := len_inv hl22
  obtain ⟨x, t23, rfl, hl24⟩ := len_inv hl23
  have hl := List.eq_nil_of_length_eq_zero hl24
  subst hl
  have p1 := p_get3 (by decide) (fOk_hd hp)
  have p2 := p_get3 (by decide) (fOk_hd (fOk_tl hp))
  have p3 := p_get3 (by decide) (fOk_hd (fOk_tl (fOk_tl hp)))
  have p4 := p_get3 (by decide) (fOk_hd (fOk_tl (fOk_tl (fOk_tl hp))))
  have p5 := gg_get (fOk_hd (fOk_tl (fOk_tl (fOk_tl (fOk_tl hp)))))
  have p6 := p_get (fOk_hd (fOk_tl (fOk_tl (fOk_tl (fOk_tl (fOk_tl hp))))))
  have p7 := i_get (fOk_hd (fOk_tl (fOk_tl (fOk_tl (fOk_tl (fOk_tl (fOk_tl hp)))))))
  simp only [List.map, xv, fev, fvl, gtI, Int.one_mul, Int.add_zero, Int.zero_add, PR] at p1 p2 p3 p4 p5 p6 p7
  have q := k_c18_bad3 (z := z) (n := n) (p := p) (k := k) (zn := zn) (zf := zf) (zs := zs) (zt := zt) (h := h) (r := r) (g := g) (ev := ev) (ri := ri) (ml := ml) (so := so) (t := t) (kd := kd) (pl := pl) (f := f) (kw := kw) (v := v) (w := w) (i := i) (x := x) (q3 p1) p2 p3 p4 p5 p6 p7
  refine ⟨[], rfl, fOk_cons (p_put3 rfl (by decide) ?_) fOk_nil⟩ <;> simp only [List.map, xv, fev, fvl, gtI, Int.one_mul, Int.add_zero, Int.zero_add, List.append_nil]
  exact q
def r_c19_ok : eRul := (24, [xP 65 [xv 0, xv 1, ([], 19), xv 2, xv 3, xv 4, xv 5, xv 6, xv 7, xv 8, xv 9, xv 10, xv 11, xv 12, xv 13, xv 14, xv 15, xv 16], xP 53 [xv 0, xv 1, ([], 900), xv 2, xv 17, xv 18, xv 19, xv 20, xv 21, xv 22], xP 55 [xv 17, xv 20, ([], 1)], xP 61 [xv 4, ([], 5), xv 9, xv 22, xv 23], xG (([(23, -1)], 0)), xP 80 [xv 6, ([], 0), xv 10, xv 23, ([], 0)]], 0, [xP 65 [xv 0, xv 1, ([], 20), xv 19, xv 3, xv 4, xv 5, xv 6, xv 7, xv 8, xv 9, xv 10, xv 11, xv 12, xv 13, xv 14, xv 15, ([(16, 1), (23, 8)], 0)]])
theorem r_c19_ok_ok : ruOk r_c19_ok := by
  intro ρ hl0 hp
  obtain ⟨z, t0, rfl, hl1⟩ := len_inv hl0
  obtain ⟨n, t1, rfl, hl2⟩ := len_inv hl1
  obtain ⟨p, t2, rfl, hl3⟩ := len_inv hl2
  obtain ⟨k, t3, rfl, hl4⟩ := len_inv hl3
  obtain ⟨zn, t4, rfl, hl5⟩ := len_inv hl4
  obtain ⟨zf, t5, rfl, hl6⟩ := len_inv hl5
  obtain ⟨zs, t6, rfl, hl7⟩ := len_inv hl6
  obtain ⟨zt, t7, rfl, hl8⟩ := len_inv hl7
  obtain ⟨h, t8, rfl, hl9⟩ := len_inv hl8
  obtain ⟨r, t9, rfl, hl10⟩ := len_inv hl9
  obtain ⟨g, t10, rfl, hl11⟩ := len_inv hl10
  obtain ⟨ev, t11, rfl, hl12⟩ := len_inv hl11
  obtain ⟨ri, t12, rfl, hl13⟩ := len_inv hl12
  obtain ⟨ml, t13, rfl, hl14⟩ := len_inv hl13
  obtain ⟨so, t14, rfl, hl15⟩ := len_inv hl14
  obtain ⟨t, t15, rfl, hl16⟩ := len_inv hl15
  obtain ⟨u, t16, rfl, hl17⟩ := len_inv hl16
  obtain ⟨kd, t17, rfl, hl18⟩ := len_inv hl17
  obtain ⟨pl, t18, rfl, hl19⟩ := len_inv hl18
  obtain ⟨f, t19, rfl, hl20⟩ := len_inv hl19
  obtain ⟨kw, t20, rfl, hl21⟩ := len_inv hl20
  obtain ⟨v, t21, rfl, hl22⟩ := len_inv hl21
  obtain ⟨w, t22, rfl, hl23⟩ := len_inv hl22
  obtain ⟨i, t23, rfl, hl24⟩ := len_inv hl23
  have hl := List.eq_nil_of_length_eq_zero hl24
  subst hl
  have p1 := p_get3 (by decide) (fOk_hd hp)
  have p2 := p_get3 (by decide) (fOk_hd (fOk_tl hp))
  have p3 := p_get3 (by decide) (fOk_hd (fOk_tl (fOk_tl hp)))
  have p4 := p_get3 (by decide) (fOk_hd (fOk_tl (fOk_tl (fOk_tl hp))))
  have p5 := gg_get (fOk_hd (fOk_tl (fOk_tl (fOk_tl (fOk_tl hp)))))
  have p6 := p_get3 (by decide) (fOk_hd (fOk_tl (fOk_tl (fOk_tl (fOk_tl (fOk_tl hp))))))
  simp only [List.map, xv, fev, fvl, gtI, Int.one_mul, Int.add_zero, Int.zero_add] at p1 p2 p3 p4 p5 p6
  have q := k_c19_ok (z := z) (n := n) (p := p) (k := k) (zn := zn) (zf := zf) (zs := zs) (zt := zt) (h := h) (r := r) (g := g) (ev := ev) (ri := ri) (ml := ml) (so := so) (t := t) (u := u) (kd := kd) (pl := pl) (f := f) (kw := kw) (v := v) (w := w) (i := i) (q3 p1) p2 p3 p4 p5 p6
  refine ⟨[], rfl, fOk_cons (p_put3 rfl (by decide) ?_) fOk_nil⟩ <;> simp only [List.map, xv, fev, fvl, gtI, Int.one_mul, Int.add_zero, Int.zero_add, List.append_nil]
  exact ⟨rfl, q⟩
def r_c19_bad1 : eRul := (23, [xP 65 [xv 0, xv 1, ([], 19), xv 2, xv 3, xv 4, xv 5, xv 6, xv 7, xv 8, xv 9, xv 10, xv 11, xv 12, xv 13, xv 14, xv 15, xv 16], xP 53 [xv 0, xv 1, ([], 900), xv 2, xv 17, xv 18, xv 19, xv 20, xv 21, xv 22], xP 55 [xv 17, xv 20, ([], 0)]], 0, [xP 64 [xv 0, xv 1, ([(18, -1)], -1), ([], 1)]])
theorem r_c19_bad1_ok : ruOk r_c19_bad1 := by
  intro ρ hl0 hp
  obtain ⟨z, t0, rfl, hl1⟩ := len_inv hl0
  obtain ⟨n, t1, rfl, hl2⟩ := len_inv hl1
  obtain ⟨p, t2, rfl, hl3⟩ := len_inv hl2
  obtain ⟨k, t3, rfl, hl4⟩ := len_inv hl3
  obtain ⟨zn, t4, rfl, hl5⟩ := len_inv hl4
  obtain ⟨zf, t5, rfl, hl6⟩ := len_inv hl5
  obtain ⟨zs, t6, rfl, hl7⟩ := len_inv hl6
  obtain ⟨zt, t7, rfl, hl8⟩ := len_inv hl7
  obtain ⟨h, t8, rfl, hl9⟩ := len_inv hl8
  obtain ⟨r, t9, rfl, hl10⟩ := len_inv hl9
  obtain ⟨g, t10, rfl, hl11⟩ := len_inv hl10
  obtain ⟨ev, t11, rfl, hl12⟩ := len_inv hl11
  obtain ⟨ri, t12, rfl, hl13⟩ := len_inv hl12
  obtain ⟨ml, t13, rfl, hl14⟩ := len_inv hl13
  obtain ⟨so, t14, rfl, hl15⟩ := len_inv hl14
  obtain ⟨t, t15, rfl, hl16⟩ := len_inv hl15
  obtain ⟨u, t16, rfl, hl17⟩ := len_inv hl16
  obtain ⟨kd, t17, rfl, hl18⟩ := len_inv hl17
  obtain ⟨pl, t18, rfl, hl19⟩ := len_inv hl18
  obtain ⟨f, t19, rfl, hl20⟩ := len_inv hl19
  obtain ⟨kw, t20, rfl, hl21⟩ := len_inv hl20
  obtain ⟨v, t21, rfl, hl22⟩ := len_inv hl21
  obtain ⟨w, t22, rfl, hl23⟩ := len_inv hl22
  have hl := List.eq_nil_of_length_eq_zero hl23
  subst hl
  have p1 := p_get3 (by decide) (fOk_hd hp)
  have p2 := p_get3 (by decide) (fOk_hd (fOk_tl hp))
  have p3 := p_get3 (by decide) (fOk_hd (fOk_tl (fOk_tl hp)))
  simp only [List.map, xv, fev, fvl, gtI, Int.one_mul, Int.add_zero, Int.zero_add] at p1 p2 p3
  have q := k_c19_bad1 (z := z) (n := n) (p := p) (k := k) (zn := zn) (zf := zf) (zs := zs) (zt := zt) (h := h) (r := r) (g := g) (ev := ev) (ri := ri) (ml := ml) (so := so) (t := t) (u := u) (kd := kd) (pl := pl) (f := f) (kw := kw) (v := v) (w := w) (q3 p1) p2 p3
  refine ⟨[], rfl, fOk_cons (p_put3 rfl (by decide) ?_) fOk_nil⟩ <;> simp only [List.map, xv, fev, fvl, gtI, Int.one_mul, Int.add_zero, Int.zero_add, List.append_nil]
  exact q
def r_c19_bad2 : eRul := (23, [xP 65 [xv 0, xv 1, ([], 19), xv 2, xv 3, xv 4, xv 5, xv 6, xv 7, xv 8, xv 9, xv 10, xv 11, xv 12, xv 13, xv 14, xv 15, xv 16], xP 53 [xv 0, xv 1, ([], 900), xv 2, xv 17, xv 18, xv 19, xv 20, xv 21, xv 22], xP 55 [xv 17, xv 20, ([], 1)], xP 61 [xv 4, ([], 5), xv 9, xv 22, ([], -1)]], 0, [xP 64 [xv 0, xv 1, ([(18, -1)], -1), ([], 3)]])
theorem r_c19_bad2_ok : ruOk r_c19_bad2 := by
  intro ρ hl0 hp
  obtain ⟨z, t0, rfl, hl1⟩ := len_inv hl0
  obtain ⟨n, t1, rfl, hl2⟩ := len_inv hl1
  obtain ⟨p, t2, rfl, hl3⟩ := len_inv hl2
  obtain ⟨k, t3, rfl, hl4⟩ := len_inv hl3
  obtain ⟨zn, t4, rfl, hl5⟩ := len_inv hl4
  obtain ⟨zf, t5, rfl, hl6⟩ := len_inv hl5
  obtain ⟨zs, t6, rfl, hl7⟩ := len_inv hl6
  obtain ⟨zt, t7, rfl, hl8⟩ := len_inv hl7
  obtain ⟨h, t8, rfl, hl9⟩ := len_inv hl8
  obtain ⟨r, t9, rfl, hl10⟩ := len_inv hl9
  obtain ⟨g, t10, rfl, hl11⟩ := len_inv hl10
  obtain ⟨ev, t11, rfl, hl12⟩ := len_inv hl11
  obtain ⟨ri, t12, rfl, hl13⟩ := len_inv hl12
  obtain ⟨ml, t13, rfl, hl14⟩ := len_inv hl13
  obtain ⟨so, t14, rfl, hl15⟩ := len_inv hl14
  obtain ⟨t, t15, rfl, hl16⟩ := len_inv hl15
  obtain ⟨u, t16, rfl, hl17⟩ := len_inv hl16
  obtain ⟨kd, t17, rfl, hl18⟩ := len_inv hl17
  obtain ⟨pl, t18, rfl, hl19⟩ := len_inv hl18
  obtain ⟨f, t19, rfl, hl20⟩ := len_inv hl19
  obtain ⟨kw, t20, rfl, hl21⟩ := len_inv hl20
  obtain ⟨v, t21, rfl, hl22⟩ := len_inv hl21
  obtain ⟨w, t22, rfl, hl23⟩ := len_inv hl22
  have hl := List.eq_nil_of_length_eq_zero hl23
  subst hl
  have p1 := p_get3 (by decide) (fOk_hd hp)
  have p2 := p_get3 (by decide) (fOk_hd (fOk_tl hp))
  have p3 := p_get3 (by decide) (fOk_hd (fOk_tl (fOk_tl hp)))
  have p4 := p_get3 (by decide) (fOk_hd (fOk_tl (fOk_tl (fOk_tl hp))))
  simp only [List.map, xv, fev, fvl, gtI, Int.one_mul, Int.add_zero, Int.zero_add] at p1 p2 p3 p4
  have q := k_c19_bad2 (z := z) (n := n) (p := p) (k := k) (zn := zn) (zf := zf) (zs := zs) (zt := zt) (h := h) (r := r) (g := g) (ev := ev) (ri := ri) (ml := ml) (so := so) (t := t) (u := u) (kd := kd) (pl := pl) (f := f) (kw := kw) (v := v) (w := w) (q3 p1) p2 p3 p4
  refine ⟨[], rfl, fOk_cons (p_put3 rfl (by decide) ?_) fOk_nil⟩ <;> simp only [List.map, xv, fev, fvl, gtI, Int.one_mul, Int.add_zero, Int.zero_add, List.append_nil]
  exact q
def r_c19_bad3 : eRul := (24, [xP 65 [xv 0, xv 1, ([], 19), xv 2, xv 3, xv 4, xv 5, xv 6, xv 7, xv 8, xv 9, xv 10, xv 11, xv 12, xv 13, xv 14, xv 15, xv 16], xP 53 [xv 0, xv 1, ([], 900), xv 2, xv 17, xv 18, xv 19, xv 20, xv 21, xv 22], xP 55 [xv 17, xv 20, ([], 1)], xP 61 [xv 4, ([], 5), xv 9, xv 22, xv 23], xG (([(23, -1)], 0)), xP 80 [xv 6, ([], 0), xv 10, xv 23, ([], 1)]], 0, [xP 64 [xv 0, xv 1, ([(18, -1)], -1), ([], 3)]])
theorem r_c19_bad3_ok : ruOk r_c19_bad3 := by
  intro ρ hl0 hp
  obtain ⟨z, t0, rfl, hl1⟩ := len_inv hl0
  obtain ⟨n, t1, rfl, hl2⟩ := len_inv hl1
  obtain ⟨p, t2, rfl, hl3⟩ := len_inv hl2
  obtain ⟨k, t3, rfl, hl4⟩ := len_inv hl3
  obtain ⟨zn, t4, rfl, hl5⟩ := len_inv hl4
  obtain ⟨zf, t5, rfl, hl6⟩ := len_inv hl5
  obtain ⟨zs, t6, rfl, hl7⟩ := len_inv hl6
  obtain ⟨zt, t7, rfl, hl8⟩ := len_inv hl7
  obtain ⟨h, t8, rfl, hl9⟩ := len_inv hl8
  obtain ⟨r, t9, rfl, hl10⟩ := len_inv hl9
  obtain ⟨g, t10, rfl, hl11⟩ := len_inv hl10
  obtain ⟨ev, t11, rfl, hl12⟩ := len_inv hl11
  obtain ⟨ri, t12, rfl, hl13⟩ := len_inv hl12
  obtain ⟨ml, t13, rfl, hl14⟩ := len_inv hl13
  obtain ⟨so, t14, rfl, hl15⟩ := len_inv hl14
  obtain ⟨t, t15, rfl, hl16⟩ := len_inv hl15
  obtain ⟨u, t16, rfl, hl17⟩ := len_inv hl16
  obtain ⟨kd, t17, rfl, hl18⟩ := len_inv hl17
  obtain ⟨pl, t18, rfl, hl19⟩ := len_inv hl18
  obtain ⟨f, t19, rfl, hl20⟩ := len_inv hl19
  obtain ⟨kw, t20, rfl, hl21⟩ := len_inv hl20
  obtain ⟨v, t21, rfl, hl22⟩ := len_inv hl21
  obtain ⟨w, t22, rfl, hl23⟩ := len_inv hl22
  obtain ⟨i, t23, rfl, hl24⟩ := len_inv hl23
  have hl := List.eq_nil_of_length_eq_zero hl24
  subst hl
  have p1 := p_get3 (by decide) (fOk_hd hp)
  have p2 := p_get3 (by decide) (fOk_hd (fOk_tl hp))
  have p3 := p_get3 (by decide) (fOk_hd (fOk_tl (fOk_tl hp)))
  have p4 := p_get3 (by decide) (fOk_hd (fOk_tl (fOk_tl (fOk_tl hp))))
  have p5 := gg_get (fOk_hd (fOk_tl (fOk_tl (fOk_tl (fOk_tl hp)))))
  have p6 := p_get3 (by decide) (fOk_hd (fOk_tl (fOk_tl (fOk_tl (fOk_tl (fOk_tl hp))))))
  simp only [List.map, xv, fev, fvl, gtI, Int.one_mul, Int.add_zero, Int.zero_add] at p1 p2 p3 p4 p5 p6
  have q := k_c19_bad3 (z := z) (n := n) (p := p) (k := k) (zn := zn) (zf := zf) (zs := zs) (zt := zt) (h := h) (r := r) (g := g) (ev := ev) (ri := ri) (ml := ml) (so := so) (t := t) (u := u) (kd := kd) (pl := pl) (f := f) (kw := kw) (v := v) (w := w) (i := i) (q3 p1) p2 p3 p4 p5 p6
  refine ⟨[], rfl, fOk_cons (p_put3 rfl (by decide) ?_) fOk_nil⟩ <;> simp only [List.map, xv, fev, fvl, gtI, Int.one_mul, Int.add_zero, Int.zero_add, List.append_nil]
  exact q
def r_c20_ok : eRul := (25, [xP 65 [xv 0, xv 1, ([], 20), xv 2, xv 3, xv 4, xv 5, xv 6, xv 7, xv 8, xv 9, xv 10, xv 11, xv 12, xv 13, xv 14, xv 15, ([(16, 1), (17, 8)], 0)], xP 53 [xv 0, xv 1, ([], 900), xv 2, xv 18, xv 19, xv 20, xv 21, xv 22, xv 23], (.inl [[(3, 3)]], [xv 18]), (.inl [[(1, 30)]], [xv 22]), (.inl [[(0, 5)]], [xv 16]), xG (([(17, -1)], 0)), xP 2 [xv 24, xv 6, xv 16, xv 17]], 0, [xP 65 [xv 0, xv 1, ([], 30), xv 20, xv 3, xv 4, xv 5, xv 24, xv 7, xv 8, xv 9, xv 10, xv 11, xv 12, xv 13, xv 14, xv 15, ([], 0)]])
theorem r_c20_ok_ok : ruOk r_c20_ok := by
  intro ρ hl0 hp
  obtain ⟨z, t0, rfl, hl1⟩ := len_inv hl0
  obtain ⟨n, t1, rfl, hl2⟩ := len_inv hl1
  obtain ⟨p, t2, rfl, hl3⟩ := len_inv hl2
  obtain ⟨k, t3, rfl, hl4⟩ := len_inv hl3
  obtain ⟨zn, t4, rfl, hl5⟩ := len_inv hl4
  obtain ⟨zf, t5, rfl, hl6⟩ := len_inv hl5
  obtain ⟨zs, t6, rfl, hl7⟩ := len_inv hl6
  obtain ⟨zt, t7, rfl, hl8⟩ := len_inv hl7
  obtain ⟨h, t8, rfl, hl9⟩ := len_inv hl8
  obtain ⟨r, t9, rfl, hl10⟩ := len_inv hl9
  obtain ⟨g, t10, rfl, hl11⟩ := len_inv hl10
  obtain ⟨ev, t11, rfl, hl12⟩ := len_inv hl11
  obtain ⟨ri, t12, rfl, hl13⟩ := len_inv hl12
  obtain ⟨ml, t13, rfl, hl14⟩ := len_inv hl13
  obtain ⟨so, t14, rfl, hl15⟩ := len_inv hl14
  obtain ⟨t, t15, rfl, hl16⟩ := len_inv hl15
  obtain ⟨a, t16, rfl, hl17⟩ := len_inv hl16
  obtain ⟨i, t17, rfl, hl18⟩ := len_inv hl17
  obtain ⟨kd, t18, rfl, hl19⟩ := len_inv hl18
  obtain ⟨pl, t19, rfl, hl20⟩ := len_inv hl19
  obtain ⟨f, t20, rfl, hl21⟩ := len_inv hl20
  obtain ⟨kw, t21, rfl, hl22⟩ := len_inv hl21
  obtain ⟨v, t22, rfl, hl23⟩ := len_inv hl22
  obtain ⟨w, t23, rfl, hl24⟩ := len_inv hl23
  obtain ⟨zs2, t24, rfl, hl25⟩ := len_inv hl24
  have hl := List.eq_nil_of_length_eq_zero hl25
  subst hl
  have p1 := p_get3 (by decide) (fOk_hd hp)
  have p2 := p_get3 (by decide) (fOk_hd (fOk_tl hp))
  have p3 := i_get (fOk_hd (fOk_tl (fOk_tl hp)))
  have p4 := i_get (fOk_hd (fOk_tl (fOk_tl (fOk_tl hp))))
  have p5 := i_get (fOk_hd (fOk_tl (fOk_tl (fOk_tl (fOk_tl hp)))))
  have p6 := gg_get (fOk_hd (fOk_tl (fOk_tl (fOk_tl (fOk_tl (fOk_tl hp))))))
  have p7 := p_get (fOk_hd (fOk_tl (fOk_tl (fOk_tl (fOk_tl (fOk_tl (fOk_tl hp)))))))
  simp only [List.map, xv, fev, fvl, gtI, Int.one_mul, Int.add_zero, Int.zero_add, PR] at p1 p2 p3 p4 p5 p6 p7
  have q := k_c20_ok (z := z) (n := n) (p := p) (k := k) (zn := zn) (zf := zf) (zs := zs) (zt := zt) (h := h) (r := r) (g := g) (ev := ev) (ri := ri) (ml := ml) (so := so) (t := t) (a := a) (i := i) (kd := kd) (pl := pl) (f := f) (kw := kw) (v := v) (w := w) (zs2 := zs2) (q3 p1) p2 p3 p4 p5 p6 p7
  refine ⟨[], rfl, fOk_cons (p_put3 rfl (by decide) ?_) fOk_nil⟩ <;> simp only [List.map, xv, fev, fvl, gtI, Int.one_mul, Int.add_zero, Int.zero_add, List.append_nil]
  exact ⟨rfl, q⟩
def r_c20_bad1 : eRul := (23, [xP 65 [xv 0, xv 1, ([], 20), xv 2, xv 3, xv 4, xv 5, xv 6, xv 7, xv 8, xv 9, xv 10, xv 11, xv 12, xv 13, xv 14, xv 15, xv 16], xP 53 [xv 0, xv 1, ([], 900), xv 2, xv 17, xv 18, xv 19, xv 20, xv 21, xv 22], xP 57 [xv 17]], 0, [xP 64 [xv 0, xv 1, ([(18, -1)], -1), ([], 1)]])
theorem r_c20_bad1_ok : ruOk r_c20_bad1 := by
  intro ρ hl0 hp
  obtain ⟨z, t0, rfl, hl1⟩ := len_inv hl0
  obtain ⟨n, t1, rfl, hl2⟩ := len_inv hl1
  obtain ⟨p, t2, rfl, hl3⟩ := len_inv hl2
  obtain ⟨k, t3, rfl, hl4⟩ := len_inv hl3
  obtain ⟨zn, t4, rfl, hl5⟩ := len_inv hl4
  obtain ⟨zf, t5, rfl, hl6⟩ := len_inv hl5
  obtain ⟨zs, t6, rfl, hl7⟩ := len_inv hl6
  obtain ⟨zt, t7, rfl, hl8⟩ := len_inv hl7
  obtain ⟨h, t8, rfl, hl9⟩ := len_inv hl8
  obtain ⟨r, t9, rfl, hl10⟩ := len_inv hl9
  obtain ⟨g, t10, rfl, hl11⟩ := len_inv hl10
  obtain ⟨ev, t11, rfl, hl12⟩ := len_inv hl11
  obtain ⟨ri, t12, rfl, hl13⟩ := len_inv hl12
  obtain ⟨ml, t13, rfl, hl14⟩ := len_inv hl13
  obtain ⟨so, t14, rfl, hl15⟩ := len_inv hl14
  obtain ⟨t, t15, rfl, hl16⟩ := len_inv hl15
  obtain ⟨u, t16, rfl, hl17⟩ := len_inv hl16
  obtain ⟨kd, t17, rfl, hl18⟩ := len_inv hl17
  obtain ⟨pl, t18, rfl, hl19⟩ := len_inv hl18
  obtain ⟨f, t19, rfl, hl20⟩ := len_inv hl19
  obtain ⟨kw, t20, rfl, hl21⟩ := len_inv hl20
  obtain ⟨v, t21, rfl, hl22⟩ := len_inv hl21
  obtain ⟨w, t22, rfl, hl23⟩ := len_inv hl22
  have hl := List.eq_nil_of_length_eq_zero hl23
  subst hl
  have p1 := p_get3 (by decide) (fOk_hd hp)
  have p2 := p_get3 (by decide) (fOk_hd (fOk_tl hp))
  have p3 := p_get3 (by decide) (fOk_hd (fOk_tl (fOk_tl hp)))
  simp only [List.map, xv, fev, fvl, gtI, Int.one_mul, Int.add_zero, Int.zero_add] at p1 p2 p3
  have q := k_c20_bad1 (z := z) (n := n) (p := p) (k := k) (zn := zn) (zf := zf) (zs := zs) (zt := zt) (h := h) (r := r) (g := g) (ev := ev) (ri := ri) (ml := ml) (so := so) (t := t) (u := u) (kd := kd) (pl := pl) (f := f) (kw := kw) (v := v) (w := w) (q3 p1) p2 p3
  refine ⟨[], rfl, fOk_cons (p_put3 rfl (by decide) ?_) fOk_nil⟩ <;> simp only [List.map, xv, fev, fvl, gtI, Int.one_mul, Int.add_zero, Int.zero_add, List.append_nil]
  exact q
def r_c20_bad3 : eRul := (23, [xP 65 [xv 0, xv 1, ([], 20), xv 2, xv 3, xv 4, xv 5, xv 6, xv 7, xv 8, xv 9, xv 10, xv 11, xv 12, xv 13, xv 14, xv 15, xv 16], xP 53 [xv 0, xv 1, ([], 900), xv 2, xv 17, xv 18, xv 19, xv 20, xv 21, xv 22], (.inl [[(3, 3)]], [xv 17]), xP 58 [xv 21, ([], 1), ([], 30), ([], 0)]], 0, [xP 64 [xv 0, xv 1, ([(18, -1)], -1), ([], 2)]])
theorem r_c20_bad3_ok : ruOk r_c20_bad3 := by
  intro ρ hl0 hp
  obtain ⟨z, t0, rfl, hl1⟩ := len_inv hl0
  obtain ⟨n, t1, rfl, hl2⟩ := len_inv hl1
  obtain ⟨p, t2, rfl, hl3⟩ := len_inv hl2
  obtain ⟨k, t3, rfl, hl4⟩ := len_inv hl3
  obtain ⟨zn, t4, rfl, hl5⟩ := len_inv hl4
  obtain ⟨zf, t5, rfl, hl6⟩ := len_inv hl5
  obtain ⟨zs, t6, rfl, hl7⟩ := len_inv hl6
  obtain ⟨zt, t7, rfl, hl8⟩ := len_inv hl7
  obtain ⟨h, t8, rfl, hl9⟩ := len_inv hl8
  obtain ⟨r, t9, rfl, hl10⟩ := len_inv hl9
  obtain ⟨g, t10, rfl, hl11⟩ := len_inv hl10
  obtain ⟨ev, t11, rfl, hl12⟩ := len_inv hl11
  obtain ⟨ri, t12, rfl, hl13⟩ := len_inv hl12
  obtain ⟨ml, t13, rfl, hl14⟩ := len_inv hl13
  obtain ⟨so, t14, rfl, hl15⟩ := len_inv hl14
  obtain ⟨t, t15, rfl, hl16⟩ := len_inv hl15
  obtain ⟨u, t16, rfl, hl17⟩ := len_inv hl16
  obtain ⟨kd, t17, rfl, hl18⟩ := len_inv hl17
  obtain ⟨pl, t18, rfl, hl19⟩ := len_inv hl18
  obtain ⟨f, t19, rfl, hl20⟩ := len_inv hl19
  obtain ⟨kw, t20, rfl, hl21⟩ := len_inv hl20
  obtain ⟨v, t21, rfl, hl22⟩ := len_inv hl21
  obtain ⟨w, t22, rfl, hl23⟩ := len_inv hl22
  have hl := List.eq_nil_of_length_eq_zero hl23
  subst hl
  have p1 := p_get3 (by decide) (fOk_hd hp)
  have p2 := p_get3 (by decide) (fOk_hd (fOk_tl hp))
  have p3 := i_get (fOk_hd (fOk_tl (fOk_tl hp)))
  have p4 := p_get3 (by decide) (fOk_hd (fOk_tl (fOk_tl (fOk_tl hp))))
  simp only [List.map, xv, fev, fvl, gtI, Int.one_mul, Int.add_zero, Int.zero_add] at p1 p2 p3 p4
  have q := k_c20_bad3 (z := z) (n := n) (p := p) (k := k) (zn := zn) (zf := zf) (zs := zs) (zt := zt) (h := h) (r := r) (g := g) (ev := ev) (ri := ri) (ml := ml) (so := so) (t := t) (u := u) (kd := kd) (pl := pl) (f := f) (kw := kw) (v := v) (w := w) (q3 p1) p2 p3 p4
  refine ⟨[], rfl, fOk_cons (p_put3 rfl (by decide) ?_) fOk_nil⟩ <;> simp only [List.map, xv, fev, fvl, gtI, Int.one_mul, Int.add_zero, Int.zero_add, List.append_nil]
  exact q
def r_c30_ok : eRul := (22, [xP 65 [xv 0, xv 1, ([], 30), xv 2, xv 3, xv 4, xv 5, xv 6, xv 7, xv 8, xv 9, xv 10, xv 11, xv 12, xv 13, xv 14, xv 15, ([], 0)], xP 53 [xv 0, xv 1, ([], 900), xv 2, xv 16, xv 17, xv 18, xv 19, xv 20, xv 21], xP 56 [xv 16, xv 20, ([], 59), ([], 1)]], 0, [xP 65 [xv 0, xv 1, ([], 0), xv 18, ([(3, 1)], 1), xv 4, xv 5, xv 6, xv 7, xv 8, xv 9, xv 10, xv 11, xv 12, xv 13, xv 14, xv 15, ([], 0)]])
theorem r_c30_ok_ok : ruOk r_c30_ok := by
  intro ρ hl0 hp
  obtain ⟨z, t0, rfl, hl1⟩ := len_inv hl0
  obtain ⟨n, t1, rfl, hl2⟩ := len_inv hl1
  obtain ⟨p, t2, rfl, hl3⟩ := len_inv hl2
  obtain ⟨k, t3, rfl, hl4⟩ := len_inv hl3
  obtain ⟨zn, t4, rfl, hl5⟩ := len_inv hl4
  obtain ⟨zf, t5, rfl, hl6⟩ := len_inv hl5
  obtain ⟨zs, t6, rfl, hl7⟩ := len_inv hl6
  obtain ⟨zt, t7, rfl, hl8⟩ := len_inv hl7
  obtain ⟨h, t8, rfl, hl9⟩ := len_inv hl8
  obtain ⟨r, t9, rfl, hl10⟩ := len_inv hl9
  obtain ⟨g, t10, rfl, hl11⟩ := len_inv hl10
  obtain ⟨ev, t11, rfl, hl12⟩ := len_inv hl11
  obtain ⟨ri, t12, rfl, hl13⟩ := len_inv hl12
  obtain ⟨ml, t13, rfl, hl14⟩ := len_inv hl13
  obtain ⟨so, t14, rfl, hl15⟩ := len_inv hl14
  obtain ⟨t, t15, rfl, hl16⟩ := len_inv hl15
  obtain ⟨kd, t16, rfl, hl17⟩ := len_inv hl16
  obtain ⟨pl, t17, rfl, hl18⟩ := len_inv hl17
  obtain ⟨f, t18, rfl, hl19⟩ := len_inv hl18
  obtain ⟨kw, t19, rfl, hl20⟩ := len_inv hl19
  obtain ⟨v, t20, rfl, hl21⟩ := len_inv hl20
  obtain ⟨w, t21, rfl, hl22⟩ := len_inv hl21
  have hl := List.eq_nil_of_length_eq_zero hl22
  subst hl
  have p1 := p_get3 (by decide) (fOk_hd hp)
  have p2 := p_get3 (by decide) (fOk_hd (fOk_tl hp))
  have p3 := p_get3 (by decide) (fOk_hd (fOk_tl (fOk_tl hp)))
  simp only [List.map, xv, fev, fvl, gtI, Int.one_mul, Int.add_zero, Int.zero_add] at p1 p2 p3
  have q := k_c30_ok (z := z) (n := n) (p := p) (k := k) (zn := zn) (zf := zf) (zs := zs) (zt := zt) (h := h) (r := r) (g := g) (ev := ev) (ri := ri) (ml := ml) (so := so) (t := t) (kd := kd) (pl := pl) (f := f) (kw := kw) (v := v) (w := w) (q3 p1) p2 p3
  refine ⟨[], rfl, fOk_cons (p_put3 rfl (by decide) ?_) fOk_nil⟩ <;> simp only [List.map, xv, fev, fvl, gtI, Int.one_mul, Int.add_zero, Int.zero_add, List.append_nil]
  exact ⟨rfl, q⟩
def r_c30_bad : eRul := (22, [xP 65 [xv 0, xv 1, ([], 30), xv 2, xv 3, xv 4, xv 5, xv 6, xv 7, xv 8, xv 9, xv 10, xv 11, xv 12, xv 13, xv 14, xv 15, ([], 0)], xP 53 [xv 0, xv 1, ([], 900), xv 2, xv 16, xv 17, xv 18, xv 19, xv 20, xv 21], xP 56 [xv 16, xv 20, ([], 59), ([], 0)]], 0, [xP 64 [xv 0, xv 1, ([(17, -1)], -1), ([], 1)]])
theorem r_c30_bad_ok : ruOk r_c30_bad := by
  intro ρ hl0 hp
  obtain ⟨z, t0, rfl, hl1⟩ := len_inv hl0
  obtain ⟨n, t1, rfl, hl2⟩ := len_inv hl1
  obtain ⟨p, t2, rfl, hl3⟩ := len_inv hl2
  obtain ⟨k, t3, rfl, hl4⟩ := len_inv hl3
  obtain ⟨zn, t4, rfl, hl5⟩ := len_inv hl4
  obtain ⟨zf, t5, rfl, hl6⟩ := len_inv hl5
  obtain ⟨zs, t6, rfl, hl7⟩ := len_inv hl6
  obtain ⟨zt, t7, rfl, hl8⟩ := len_inv hl7
  obtain ⟨h, t8, rfl, hl9⟩ := len_inv hl8
  obtain ⟨r, t9, rfl, hl10⟩ := len_inv hl9
  obtain ⟨g, t10, rfl, hl11⟩ := len_inv hl10
  obtain ⟨ev, t11, rfl, hl12⟩ := len_inv hl11
  obtain ⟨ri, t12, rfl, hl13⟩ := len_inv hl12
  obtain ⟨ml, t13, rfl, hl14⟩ := len_inv hl13
  obtain ⟨so, t14, rfl, hl15⟩ := len_inv hl14
  obtain ⟨t, t15, rfl, hl16⟩ := len_inv hl15
  obtain ⟨kd, t16, rfl, hl17⟩ := len_inv hl16
  obtain ⟨pl, t17, rfl, hl18⟩ := len_inv hl17
  obtain ⟨f, t18, rfl, hl19⟩ := len_inv hl18
  obtain ⟨kw, t19, rfl, hl20⟩ := len_inv hl19
  obtain ⟨v, t20, rfl, hl21⟩ := len_inv hl20
  obtain ⟨w, t21, rfl, hl22⟩ := len_inv hl21
  have hl := List.eq_nil_of_length_eq_zero hl22
  subst hl
  have p1 := p_get3 (by decide) (fOk_hd hp)
  have p2 := p_get3 (by decide) (fOk_hd (fOk_tl hp))
  have p3 := p_get3 (by decide) (fOk_hd (fOk_tl (fOk_tl hp)))
  simp only [List.map, xv, fev, fvl, gtI, Int.one_mul, Int.add_zero, Int.zero_add] at p1 p2 p3
  have q := k_c30_bad (z := z) (n := n) (p := p) (k := k) (zn := zn) (zf := zf) (zs := zs) (zt := zt) (h := h) (r := r) (g := g) (ev := ev) (ri := ri) (ml := ml) (so := so) (t := t) (kd := kd) (pl := pl) (f := f) (kw := kw) (v := v) (w := w) (q3 p1) p2 p3
  refine ⟨[], rfl, fOk_cons (p_put3 rfl (by decide) ?_) fOk_nil⟩ <;> simp only [List.map, xv, fev, fvl, gtI, Int.one_mul, Int.add_zero, Int.zero_add, List.append_nil]
  exact q
end
