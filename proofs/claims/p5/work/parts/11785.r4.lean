noncomputable section
/-! T3: rules (printed by wip/v5/gen/rules4.py) -/
def r_ec_end : eRul := (22, [xP 65 [xv 0, xv 1, ([], 0), xv 2, xv 3, xv 4, xv 5, xv 6, xv 7, xv 8, xv 9, xv 10, xv 11, xv 12, xv 13, xv 14, xv 15, ([], 0)], xP 53 [xv 0, xv 1, ([], 900), xv 2, xv 16, xv 17, xv 18, xv 19, xv 20, xv 21], (.inl [[(1, 1)]], [xv 16])], 0, [xP 100 [xv 0, xv 1, xv 4, xv 7, xv 8, xv 9, xv 10, xv 11, xv 12, xv 13, xv 14]])
theorem r_ec_end_ok : ruOk r_ec_end := by
  intro ρ hl0 hp
  obtain ⟨z, t0, rfl, hl1⟩ := len_inv hl0
  obtain ⟨n, t1, rfl, hl2⟩ := len_inv hl1
  obtain ⟨p, t2, rfl, hl3⟩ := len_inv hl2
  obtain ⟨k, t3, rfl, hl4⟩ := len_inv hl3
  obtain ⟨zn, t4, rfl, hl5⟩ := len_inv hl4
  obtain ⟨zf, t5, rfl, hl6⟩ := len_inv hl5
  obtain ⟨zs, t6, rfl, hl7⟩ := len_inv hl6
  obtain ⟨zt, t7, rfl, hl8⟩ := len_inv hl7
  obtain ⟨h, t8, rfl, hl9⟩ := len_inv hl8
  obtain ⟨r, t9, rfl, hl10⟩ := len_inv hl9
  obtain ⟨g, t10, rfl, hl11⟩ := len_inv hl10
  obtain ⟨ev, t11, rfl, hl12⟩ := len_inv hl11
  obtain ⟨ri, t12, rfl, hl13⟩ := len_inv hl12
  obtain ⟨ml, t13, rfl, hl14⟩ := len_inv hl13
  obtain ⟨so, t14, rfl, hl15⟩ := len_inv hl14
  obtain ⟨t, t15, rfl, hl16⟩ := len_inv hl15
  obtain ⟨kd, t16, rfl, hl17⟩ := len_inv hl16
  obtain ⟨pl, t17, rfl, hl18⟩ := len_inv hl17
  obtain ⟨f, t18, rfl, hl19⟩ := len_inv hl18
  obtain ⟨kw, t19, rfl, hl20⟩ := len_inv hl19
  obtain ⟨v, t20, rfl, hl21⟩ := len_inv hl20
  obtain ⟨w, t21, rfl, hl22⟩ := len_inv hl21
  have hl := List.eq_nil_of_length_eq_zero hl22
  subst hl
  have p1 := p_get3 (by decide) (fOk_hd hp)
  have p2 := p_get3 (by decide) (fOk_hd (fOk_tl hp))
  have p3 := i_get (fOk_hd (fOk_tl (fOk_tl hp)))
  simp only [List.map, xv, fev, fvl, gtI, Int.one_mul, Int.add_zero, Int.zero_add] at p1 p2 p3
  have q := k_ec_end (z := z) (n := n) (p := p) (k := k) (zn := zn) (zf := zf) (zs := zs) (zt := zt) (h := h) (r := r) (g := g) (ev := ev) (ri := ri) (ml := ml) (so := so) (t := t) (kd := kd) (pl := pl) (f := f) (kw := kw) (v := v) (w := w) (q3 p1) p2 p3
  refine ⟨[], rfl, fOk_cons (p_put3 rfl (by decide) ?_) fOk_nil⟩ <;> simp only [List.map, xv, fev, fvl, gtI, Int.one_mul, Int.add_zero, Int.zero_add, List.append_nil]
  exact q
def r_er_end : eRul := (15, [xP 69 [xv 0, xv 1, ([], 0), xv 2, xv 3, xv 4, xv 5, xv 6, xv 7, xv 8, ([], 0), xv 9, xv 10, xv 11, xv 12, xv 13, xv 14], (.inl [[(0, 0)]], [xv 9])], 0, [xP 101 [xv 0, xv 1, xv 3, xv 4]])
theorem r_er_end_ok : ruOk r_er_end := by
  intro ρ hl0 hp
  obtain ⟨z, t0, rfl, hl1⟩ := len_inv hl0
  obtain ⟨n, t1, rfl, hl2⟩ := len_inv hl1
  obtain ⟨k, t2, rfl, hl3⟩ := len_inv hl2
  obtain ⟨zr, t3, rfl, hl4⟩ := len_inv hl3
  obtain ⟨zm, t4, rfl, hl5⟩ := len_inv hl4
  obtain ⟨o0, t5, rfl, hl6⟩ := len_inv hl5
  obtain ⟨o1, t6, rfl, hl7⟩ := len_inv hl6
  obtain ⟨o2, t7, rfl, hl8⟩ := len_inv hl7
  obtain ⟨o3, t8, rfl, hl9⟩ := len_inv hl8
  obtain ⟨kd, t9, rfl, hl10⟩ := len_inv hl9
  obtain ⟨fr, t10, rfl, hl11⟩ := len_inv hl10
  obtain ⟨to, t11, rfl, hl12⟩ := len_inv hl11
  obtain ⟨nu, t12, rfl, hl13⟩ := len_inv hl12
  obtain ⟨sg, t13, rfl, hl14⟩ := len_inv hl13
  obtain ⟨w, t14, rfl, hl15⟩ := len_inv hl14
  have hl := List.eq_nil_of_length_eq_zero hl15
  subst hl
  have p1 := p_get3 (by decide) (fOk_hd hp)
  have p2 := i_get (fOk_hd (fOk_tl hp))
  simp only [List.map, xv, fev, fvl, gtI, Int.one_mul, Int.add_zero, Int.zero_add] at p1 p2
  have q := k_er_end (z := z) (n := n) (k := k) (zr := zr) (zm := zm) (o0 := o0) (o1 := o1) (o2 := o2) (o3 := o3) (kd := kd) (fr := fr) (to := to) (nu := nu) (sg := sg) (w := w) (q3 p1) p2
  refine ⟨[], rfl, fOk_cons (p_put3 rfl (by decide) ?_) fOk_nil⟩ <;> simp only [List.map, xv, fev, fvl, gtI, Int.one_mul, Int.add_zero, Int.zero_add, List.append_nil]
  exact q
def r_er_cpy : eRul := (6, [xP 101 [xv 0, xv 1, xv 2, xv 3], xP 11 [xv 4, xv 2, ([], 0), ([], 0), xv 5], xG (([(5, -1)], 72))], 0, [xP 101 [xv 0, xv 1, xv 4, xv 3]])
theorem r_er_cpy_ok : ruOk r_er_cpy := by
  intro ρ hl0 hp
  obtain ⟨z, t0, rfl, hl1⟩ := len_inv hl0
  obtain ⟨n, t1, rfl, hl2⟩ := len_inv hl1
  obtain ⟨zr, t2, rfl, hl3⟩ := len_inv hl2
  obtain ⟨zm, t3, rfl, hl4⟩ := len_inv hl3
  obtain ⟨y, t4, rfl, hl5⟩ := len_inv hl4
  obtain ⟨m, t5, rfl, hl6⟩ := len_inv hl5
  have hl := List.eq_nil_of_length_eq_zero hl6
  subst hl
  have p1 := p_get3 (by decide) (fOk_hd hp)
  have p2 := p_get (fOk_hd (fOk_tl hp))
  have p3 := gg_get (fOk_hd (fOk_tl (fOk_tl hp)))
  simp only [List.map, xv, fev, fvl, gtI, Int.one_mul, Int.add_zero, Int.zero_add, PR] at p1 p2 p3
  have q := k_er_cpy (z := z) (n := n) (zr := zr) (zm := zm) (y := y) (m := m) p1 p2 p3
  refine ⟨[], rfl, fOk_cons (p_put3 rfl (by decide) ?_) fOk_nil⟩ <;> simp only [List.map, xv, fev, fvl, gtI, Int.one_mul, Int.add_zero, Int.zero_add, List.append_nil]
  exact q
def r_er_cpn : eRul := (6, [xP 101 [xv 0, xv 1, xv 2, xv 3], xP 11 [xv 4, xv 3, ([], 0), ([], 0), xv 5], xG (([(5, -1)], 19))], 0, [xP 101 [xv 0, xv 1, xv 2, xv 4]])
theorem r_er_cpn_ok : ruOk r_er_cpn := by
  intro ρ hl0 hp
  obtain ⟨z, t0, rfl, hl1⟩ := len_inv hl0
  obtain ⟨n, t1, rfl, hl2⟩ := len_inv hl1
  obtain ⟨zr, t2, rfl, hl3⟩ := len_inv hl2
  obtain ⟨zm, t3, rfl, hl4⟩ := len_inv hl3
  obtain ⟨y, t4, rfl, hl5⟩ := len_inv hl4
  obtain ⟨m, t5, rfl, hl6⟩ := len_inv hl5
  have hl := List.eq_nil_of_length_eq_zero hl6
  subst hl
  have p1 := p_get3 (by decide) (fOk_hd hp)
  have p2 := p_get (fOk_hd (fOk_tl hp))
  have p3 := gg_get (fOk_hd (fOk_tl (fOk_tl hp)))
  simp only [List.map, xv, fev, fvl, gtI, Int.one_mul, Int.add_zero, Int.zero_add, PR] at p1 p2 p3
  have q := k_er_cpn (z := z) (n := n) (zr := zr) (zm := zm) (y := y) (m := m) p1 p2 p3
  refine ⟨[], rfl, fOk_cons (p_put3 rfl (by decide) ?_) fOk_nil⟩ <;> simp only [List.map, xv, fev, fvl, gtI, Int.one_mul, Int.add_zero, Int.zero_add, List.append_nil]
  exact q
def r_er_out : eRul := (7, [xP 101 [xv 0, xv 1, xv 2, xv 3], xP 12 [xv 4, xv 2, xv 5, xv 6], xG (([(5, -1)], 72))], 0, [xP 101 [xv 0, xv 1, xv 4, xv 3]])
theorem r_er_out_ok : ruOk r_er_out := by
  intro ρ hl0 hp
  obtain ⟨z, t0, rfl, hl1⟩ := len_inv hl0
  obtain ⟨n, t1, rfl, hl2⟩ := len_inv hl1
  obtain ⟨zr, t2, rfl, hl3⟩ := len_inv hl2
  obtain ⟨zm, t3, rfl, hl4⟩ := len_inv hl3
  obtain ⟨y, t4, rfl, hl5⟩ := len_inv hl4
  obtain ⟨a, t5, rfl, hl6⟩ := len_inv hl5
  obtain ⟨b, t6, rfl, hl7⟩ := len_inv hl6
  have hl := List.eq_nil_of_length_eq_zero hl7
  subst hl
  have p1 := p_get3 (by decide) (fOk_hd hp)
  have p2 := p_get (fOk_hd (fOk_tl hp))
  have p3 := gg_get (fOk_hd (fOk_tl (fOk_tl hp)))
  simp only [List.map, xv, fev, fvl, gtI, Int.one_mul, Int.add_zero, Int.zero_add, PR] at p1 p2 p3
  have q := k_er_out (z := z) (n := n) (zr := zr) (zm := zm) (y := y) (a := a) (b := b) p1 p2 p3
  refine ⟨[], rfl, fOk_cons (p_put3 rfl (by decide) ?_) fOk_nil⟩ <;> simp only [List.map, xv, fev, fvl, gtI, Int.one_mul, Int.add_zero, Int.zero_add, List.append_nil]
  exact q
def r_vv_mk : eRul := (14, [xP 100 [xv 0, xv 1, xv 2, xv 3, xv 4, xv 5, xv 6, xv 7, xv 8, xv 9, xv 10], xP 101 [xv 11, xv 1, xv 12, xv 13], xP 71 [xv 0, xv 11, xv 1], xG (([(1, 1)], -940))], 0, [xP 102 [xv 12, xv 13, xv 2, xv 3, xv 4, xv 5, xv 6, xv 7, xv 8, xv 9, xv 10]])
theorem r_vv_mk_ok : ruOk r_vv_mk := by
  intro ρ hl0 hp
  obtain ⟨c, t0, rfl, hl1⟩ := len_inv hl0
  obtain ⟨n, t1, rfl, hl2⟩ := len_inv hl1
  obtain ⟨zn, t2, rfl, hl3⟩ := len_inv hl2
  obtain ⟨zt, t3, rfl, hl4⟩ := len_inv hl3
  obtain ⟨h, t4, rfl, hl5⟩ := len_inv hl4
  obtain ⟨r, t5, rfl, hl6⟩ := len_inv hl5
  obtain ⟨g, t6, rfl, hl7⟩ := len_inv hl6
  obtain ⟨ev, t7, rfl, hl8⟩ := len_inv hl7
  obtain ⟨ri, t8, rfl, hl9⟩ := len_inv hl8
  obtain ⟨ml, t9, rfl, hl10⟩ := len_inv hl9
  obtain ⟨so, t10, rfl, hl11⟩ := len_inv hl10
  obtain ⟨r0, t11, rfl, hl12⟩ := len_inv hl11
  obtain ⟨zr, t12, rfl, hl13⟩ := len_inv hl12
  obtain ⟨zm, t13, rfl, hl14⟩ := len_inv hl13
  have hl := List.eq_nil_of_length_eq_zero hl14
  subst hl
  have p1 := p_get3 (by decide) (fOk_hd hp)
  have p2 := p_get3 (by decide) (fOk_hd (fOk_tl hp))
  have p3 := p_get3 (by decide) (fOk_hd (fOk_tl (fOk_tl hp)))
  have p4 := gg_get (fOk_hd (fOk_tl (fOk_tl (fOk_tl hp))))
  simp only [List.map, xv, fev, fvl, gtI, Int.one_mul, Int.add_zero, Int.zero_add] at p1 p2 p3 p4
  have q := k_vv_mk (c := c) (n := n) (zn := zn) (zt := zt) (h := h) (r := r) (g := g) (ev := ev) (ri := ri) (ml := ml) (so := so) (r0 := r0) (zr := zr) (zm := zm) p1 p2 p3 p4
  refine ⟨[], rfl, fOk_cons (p_put3 rfl (by decide) ?_) fOk_nil⟩ <;> simp only [List.map, xv, fev, fvl, gtI, Int.one_mul, Int.add_zero, Int.zero_add, List.append_nil]
  exact q
def r_vv_out : eRul := (14, [xP 102 [xv 0, xv 1, xv 2, xv 3, xv 4, xv 5, xv 6, xv 7, xv 8, xv 9, xv 10], xP 12 [xv 11, xv 0, xv 12, xv 13], xG (([(12, -1)], 72))], 0, [xP 102 [xv 11, xv 1, xv 2, xv 3, xv 4, xv 5, xv 6, xv 7, xv 8, xv 9, xv 10]])
theorem r_vv_out_ok : ruOk r_vv_out := by
  intro ρ hl0 hp
  obtain ⟨zr, t0, rfl, hl1⟩ := len_inv hl0
  obtain ⟨zm, t1, rfl, hl2⟩ := len_inv hl1
  obtain ⟨zn, t2, rfl, hl3⟩ := len_inv hl2
  obtain ⟨zt, t3, rfl, hl4⟩ := len_inv hl3
  obtain ⟨h, t4, rfl, hl5⟩ := len_inv hl4
  obtain ⟨r, t5, rfl, hl6⟩ := len_inv hl5
  obtain ⟨g, t6, rfl, hl7⟩ := len_inv hl6
  obtain ⟨ev, t7, rfl, hl8⟩ := len_inv hl7
  obtain ⟨ri, t8, rfl, hl9⟩ := len_inv hl8
  obtain ⟨ml, t9, rfl, hl10⟩ := len_inv hl9
  obtain ⟨so, t10, rfl, hl11⟩ := len_inv hl10
  obtain ⟨y, t11, rfl, hl12⟩ := len_inv hl11
  obtain ⟨a, t12, rfl, hl13⟩ := len_inv hl12
  obtain ⟨b, t13, rfl, hl14⟩ := len_inv hl13
  have hl := List.eq_nil_of_length_eq_zero hl14
  subst hl
  have p1 := p_get3 (by decide) (fOk_hd hp)
  have p2 := p_get (fOk_hd (fOk_tl hp))
  have p3 := gg_get (fOk_hd (fOk_tl (fOk_tl hp)))
  simp only [List.map, xv, fev, fvl, gtI, Int.one_mul, Int.add_zero, Int.zero_add, PR] at p1 p2 p3
  have q := k_vv_out (zr := zr) (zm := zm) (zn := zn) (zt := zt) (h := h) (r := r) (g := g) (ev := ev) (ri := ri) (ml := ml) (so := so) (y := y) (a := a) (b := b) p1 p2 p3
  refine ⟨[], rfl, fOk_cons (p_put3 rfl (by decide) ?_) fOk_nil⟩ <;> simp only [List.map, xv, fev, fvl, gtI, Int.one_mul, Int.add_zero, Int.zero_add, List.append_nil]
  exact q
def r_vv_init : eRul := (4, [xP 3 [xv 0, ([], 0), ([], 3), ([], 0), ([], 0)], xP 3 [xv 0, ([], 3), ([], 4), ([], 7), ([], 7)], xP 3 [xv 0, ([], 4), ([], 5), ([], 3), ([], 3)], xP 3 [xv 0, ([], 5), ([], 6), ([], 15), ([], 15)], xP 3 [xv 0, ([], 6), ([], 7), ([], 0), ([], 0)]], 0, [xP 102 [xv 0, xv 1, xv 2, xv 3, ([], 0), ([], 0), ([], 0), ([], 7), ([], 3), ([], 15), ([], 0)]])
theorem r_vv_init_ok : ruOk r_vv_init := by
  intro ρ hl0 hp
  obtain ⟨zr, t0, rfl, hl1⟩ := len_inv hl0
  obtain ⟨zm, t1, rfl, hl2⟩ := len_inv hl1
  obtain ⟨zn, t2, rfl, hl3⟩ := len_inv hl2
  obtain ⟨zt, t3, rfl, hl4⟩ := len_inv hl3
  have hl := List.eq_nil_of_length_eq_zero hl4
  subst hl
  have p1 := p_get (fOk_hd hp)
  have p2 := p_get (fOk_hd (fOk_tl hp))
  have p3 := p_get (fOk_hd (fOk_tl (fOk_tl hp)))
  have p4 := p_get (fOk_hd (fOk_tl (fOk_tl (fOk_tl hp))))
  have p5 := p_get (fOk_hd (fOk_tl (fOk_tl (fOk_tl (fOk_tl hp)))))
  simp only [List.map, xv, fev, fvl, gtI, Int.one_mul, Int.add_zero, Int.zero_add, PR] at p1 p2 p3 p4 p5
  have q := k_vv_init (zr := zr) (zm := zm) (zn := zn) (zt := zt) p1 p2 p3 p4 p5
  refine ⟨[], rfl, fOk_cons (p_put3 rfl (by decide) ?_) fOk_nil⟩ <;> simp only [List.map, xv, fev, fvl, gtI, Int.one_mul, Int.add_zero, Int.zero_add, List.append_nil]
  exact q
def r_vi_0 : eRul := (13, [(.inl [[(0, 0)]], [xv 0])], 0, [xP 103 [xv 0, xv 1, xv 2, xv 3, xv 4, xv 5, xv 6, xv 7, xv 8, xv 9, xv 10, xv 11, xv 12]])
theorem r_vi_0_ok : ruOk r_vi_0 := by
  intro ρ hl0 hp
  obtain ⟨b, t0, rfl, hl1⟩ := len_inv hl0
  obtain ⟨zk, t1, rfl, hl2⟩ := len_inv hl1
  obtain ⟨zy, t2, rfl, hl3⟩ := len_inv hl2
  obtain ⟨k, t3, rfl, hl4⟩ := len_inv hl3
  obtain ⟨zn, t4, rfl, hl5⟩ := len_inv hl4
  obtain ⟨zt, t5, rfl, hl6⟩ := len_inv hl5
  obtain ⟨h, t6, rfl, hl7⟩ := len_inv hl6
  obtain ⟨r, t7, rfl, hl8⟩ := len_inv hl7
  obtain ⟨g, t8, rfl, hl9⟩ := len_inv hl8
  obtain ⟨ev, t9, rfl, hl10⟩ := len_inv hl9
  obtain ⟨ri, t10, rfl, hl11⟩ := len_inv hl10
  obtain ⟨ml, t11, rfl, hl12⟩ := len_inv hl11
  obtain ⟨so, t12, rfl, hl13⟩ := len_inv hl12
  have hl := List.eq_nil_of_length_eq_zero hl13
  subst hl
  have p1 := i_get (fOk_hd hp)
  simp only [List.map, xv, fev, fvl, gtI, Int.one_mul, Int.add_zero, Int.zero_add] at p1
  have q := k_vi_0 (b := b) (zk := zk) (zy := zy) (k := k) (zn := zn) (zt := zt) (h := h) (r := r) (g := g) (ev := ev) (ri := ri) (ml := ml) (so := so) p1
  refine ⟨[], rfl, fOk_cons (p_put3 rfl (by decide) ?_) fOk_nil⟩ <;> simp only [List.map, xv, fev, fvl, gtI, Int.one_mul, Int.add_zero, Int.zero_add, List.append_nil]
  exact ⟨rfl, q⟩
def r_vi_mk : eRul := (17, [xP 102 [xv 0, xv 1, xv 2, xv 3, xv 4, xv 5, xv 6, xv 7, xv 8, xv 9, xv 10], xP 11 [xv 11, xv 0, ([(12, 350)], 0), ([], 0), xv 13], xG (([(13, -1)], 72)), xP 11 [xv 14, xv 1, ([(12, 19)], 0), ([], 0), xv 15], xG (([(15, -1)], 19)), (.inl [[(0, 1)]], [xv 12])], 0, [xP 103 [xv 16, xv 11, xv 14, xv 12, xv 2, xv 3, xv 4, xv 5, xv 6, xv 7, xv 8, xv 9, xv 10]])
theorem r_vi_mk_ok : ruOk r_vi_mk := by
  intro ρ hl0 hp
  obtain ⟨zr, t0, rfl, hl1⟩ := len_inv hl0
  obtain ⟨zm, t1, rfl, hl2⟩ := len_inv hl1
  obtain ⟨zn, t2, rfl, hl3⟩ := len_inv hl2
  obtain ⟨zt, t3, rfl, hl4⟩ := len_inv hl3
  obtain ⟨h, t4, rfl, hl5⟩ := len_inv hl4
  obtain ⟨r, t5, rfl, hl6⟩ := len_inv hl5
  obtain ⟨g, t6, rfl, hl7⟩ := len_inv hl6
  obtain ⟨ev, t7, rfl, hl8⟩ := len_inv hl7
  obtain ⟨ri, t8, rfl, hl9⟩ := len_inv hl8
  obtain ⟨ml, t9, rfl, hl10⟩ := len_inv hl9
  obtain ⟨so, t10, rfl, hl11⟩ := len_inv hl10
  obtain ⟨zk, t11, rfl, hl12⟩ := len_inv hl11
  obtain ⟨k, t12, rfl, hl13⟩ := len_inv hl12
  obtain ⟨m, t13, rfl, hl14⟩ := len_inv hl13
  obtain ⟨zy, t14, rfl, hl15⟩ := len_inv hl14
  obtain ⟨j, t15, rfl, hl16⟩ := len_inv hl15
  obtain ⟨b, t16, rfl, hl17⟩ := len_inv hl16
  have hl := List.eq_nil_of_length_eq_zero hl17
  subst hl
  have p1 := p_get3 (by decide) (fOk_hd hp)
  have p2 := p_get (fOk_hd (fOk_tl hp))
  have p3 := gg_get (fOk_hd (fOk_tl (fOk_tl hp)))
  have p4 := p_get (fOk_hd (fOk_tl (fOk_tl (fOk_tl hp))))
  have p5 := gg_get (fOk_hd (fOk_tl (fOk_tl (fOk_tl (fOk_tl hp)))))
  have p6 := i_get (fOk_hd (fOk_tl (fOk_tl (fOk_tl (fOk_tl (fOk_tl hp))))))
  simp only [List.map, xv, fev, fvl, gtI, Int.one_mul, Int.add_zero, Int.zero_add, PR] at p1 p2 p3 p4 p5 p6
  have q := k_vi_mk (zr := zr) (zm := zm) (zn := zn) (zt := zt) (h := h) (r := r) (g := g) (ev := ev) (ri := ri) (ml := ml) (so := so) (zk := zk) (k := k) (m := m) (zy := zy) (j := j) (b := b) p1 p2 p3 p4 p5 p6
  refine ⟨[], rfl, fOk_cons (p_put3 rfl (by decide) ?_) fOk_nil⟩ <;> simp only [List.map, xv, fev, fvl, gtI, Int.one_mul, Int.add_zero, Int.zero_add, List.append_nil]
  exact ⟨rfl, q⟩
def r_vi_outa : eRul := (19, [xP 103 [xv 0, xv 1, xv 2, xv 3, xv 4, xv 5, xv 6, xv 7, xv 8, xv 9, xv 10, xv 11, xv 12], xP 12 [xv 13, xv 1, xv 14, xv 15], xP 12 [xv 16, xv 2, xv 17, xv 18], xG (([(3, 350), (14, -1)], 72)), xG (([(3, 19), (17, -1)], 19)), (.inl [[(0, 1)]], [xv 3])], 0, [xP 103 [xv 0, xv 13, xv 16, xv 3, xv 4, xv 5, xv 6, xv 7, xv 8, xv 9, xv 10, xv 11, xv 12]])
theorem r_vi_outa_ok : ruOk r_vi_outa := by
  intro ρ hl0 hp
  obtain ⟨b, t0, rfl, hl1⟩ := len_inv hl0
  obtain ⟨zk, t1, rfl, hl2⟩ := len_inv hl1
  obtain ⟨zy, t2, rfl, hl3⟩ := len_inv hl2
  obtain ⟨k, t3, rfl, hl4⟩ := len_inv hl3
  obtain ⟨zn, t4, rfl, hl5⟩ := len_inv hl4
  obtain ⟨zt, t5, rfl, hl6⟩ := len_inv hl5
  obtain ⟨h, t6, rfl, hl7⟩ := len_inv hl6
  obtain ⟨r, t7, rfl, hl8⟩ := len_inv hl7
  obtain ⟨g, t8, rfl, hl9⟩ := len_inv hl8
  obtain ⟨ev, t9, rfl, hl10⟩ := len_inv hl9
  obtain ⟨ri, t10, rfl, hl11⟩ := len_inv hl10
  obtain ⟨ml, t11, rfl, hl12⟩ := len_inv hl11
  obtain ⟨so, t12, rfl, hl13⟩ := len_inv hl12
  obtain ⟨yk, t13, rfl, hl14⟩ := len_inv hl13
  obtain ⟨a, t14, rfl, hl15⟩ := len_inv hl14
  obtain ⟨e, t15, rfl, hl16⟩ := len_inv hl15
  obtain ⟨yy, t16, rfl, hl17⟩ := len_inv hl16
  obtain ⟨c, t17, rfl, hl18⟩ := len_inv hl17
  obtain ⟨d, t18, rfl, hl19⟩ := len_inv hl18
  have hl := List.eq_nil_of_length_eq_zero hl19
  subst hl
  have p1 := p_get3 (by decide) (fOk_hd hp)
  have p2 := p_get (fOk_hd (fOk_tl hp))
  have p3 := p_get (fOk_hd (fOk_tl (fOk_tl hp)))
  have p4 := gg_get (fOk_hd (fOk_tl (fOk_tl (fOk_tl hp))))
  have p5 := gg_get (fOk_hd (fOk_tl (fOk_tl (fOk_tl (fOk_tl hp)))))
  have p6 := i_get (fOk_hd (fOk_tl (fOk_tl (fOk_tl (fOk_tl (fOk_tl hp))))))
  simp only [List.map, xv, fev, fvl, gtI, Int.one_mul, Int.add_zero, Int.zero_add, PR] at p1 p2 p3 p4 p5 p6
  have q := k_vi_outa (b := b) (zk := zk) (zy := zy) (k := k) (zn := zn) (zt := zt) (h := h) (r := r) (g := g) (ev := ev) (ri := ri) (ml := ml) (so := so) (yk := yk) (a := a) (e := e) (yy := yy) (c := c) (d := d) (q3 p1) p2 p3 p4 p5 p6
  refine ⟨[], rfl, fOk_cons (p_put3 rfl (by decide) ?_) fOk_nil⟩ <;> simp only [List.map, xv, fev, fvl, gtI, Int.one_mul, Int.add_zero, Int.zero_add, List.append_nil]
  exact ⟨rfl, q⟩
def r_vi_outb : eRul := (19, [xP 103 [xv 0, xv 1, xv 2, xv 3, xv 4, xv 5, xv 6, xv 7, xv 8, xv 9, xv 10, xv 11, xv 12], xP 12 [xv 13, xv 1, xv 14, xv 15], xP 12 [xv 16, xv 2, xv 17, xv 18], xG (([(3, -350), (15, 1)], 0)), xG (([(3, -19), (18, 1)], 0)), (.inl [[(0, 1)]], [xv 3])], 0, [xP 103 [xv 0, xv 13, xv 16, xv 3, xv 4, xv 5, xv 6, xv 7, xv 8, xv 9, xv 10, xv 11, xv 12]])
theorem r_vi_outb_ok : ruOk r_vi_outb := by
  intro ρ hl0 hp
  obtain ⟨b, t0, rfl, hl1⟩ := len_inv hl0
  obtain ⟨zk, t1, rfl, hl2⟩ := len_inv hl1
  obtain ⟨zy, t2, rfl, hl3⟩ := len_inv hl2
  obtain ⟨k, t3, rfl, hl4⟩ := len_inv hl3
  obtain ⟨zn, t4, rfl, hl5⟩ := len_inv hl4
  obtain ⟨zt, t5, rfl, hl6⟩ := len_inv hl5
  obtain ⟨h, t6, rfl, hl7⟩ := len_inv hl6
  obtain ⟨r, t7, rfl, hl8⟩ := len_inv hl7
  obtain ⟨g, t8, rfl, hl9⟩ := len_inv hl8
  obtain ⟨ev, t9, rfl, hl10⟩ := len_inv hl9
  obtain ⟨ri, t10, rfl, hl11⟩ := len_inv hl10
  obtain ⟨ml, t11, rfl, hl12⟩ := len_inv hl11
  obtain ⟨so, t12, rfl, hl13⟩ := len_inv hl12
  obtain ⟨yk, t13, rfl, hl14⟩ := len_inv hl13
  obtain ⟨a, t14, rfl, hl15⟩ := len_inv hl14
  obtain ⟨e, t15, rfl, hl16⟩ := len_inv hl15
  obtain ⟨yy, t16, rfl, hl17⟩ := len_inv hl16
  obtain ⟨c, t17, rfl, hl18⟩ := len_inv hl17
  obtain ⟨d, t18, rfl, hl19⟩ := len_inv hl18
  have hl := List.eq_nil_of_length_eq_zero hl19
  subst hl
  have p1 := p_get3 (by decide) (fOk_hd hp)
  have p2 := p_get (fOk_hd (fOk_tl hp))
  have p3 := p_get (fOk_hd (fOk_tl (fOk_tl hp)))
  have p4 := gg_get (fOk_hd (fOk_tl (fOk_tl (fOk_tl hp))))
  have p5 := gg_get (fOk_hd (fOk_tl (fOk_tl (fOk_tl (fOk_tl hp)))))
  have p6 := i_get (fOk_hd (fOk_tl (fOk_tl (fOk_tl (fOk_tl (fOk_tl hp))))))
  simp only [List.map, xv, fev, fvl, gtI, Int.one_mul, Int.add_zero, Int.zero_add, PR] at p1 p2 p3 p4 p5 p6
  have q := k_vi_outb (b := b) (zk := zk) (zy := zy) (k := k) (zn := zn) (zt := zt) (h := h) (r := r) (g := g) (ev := ev) (ri := ri) (ml := ml) (so := so) (yk := yk) (a := a) (e := e) (yy := yy) (c := c) (d := d) (q3 p1) p2 p3 p4 p5 p6
  refine ⟨[], rfl, fOk_cons (p_put3 rfl (by decide) ?_) fOk_nil⟩ <;> simp only [List.map, xv, fev, fvl, gtI, Int.one_mul, Int.add_zero, Int.zero_add, List.append_nil]
  exact ⟨rfl, q⟩
def r_vv_res : eRul := (17, [xP 103 [xv 0, xv 1, xv 2, xv 3, xv 4, xv 5, xv 6, xv 7, xv 8, xv 9, xv 10, xv 11, xv 12], (.inl [[(1, 1)]], [xv 0]), xP 11 [xv 13, xv 1, ([], 0), ([(3, 350)], 0), xv 14], xG (([(14, -1)], 72)), xP 11 [xv 15, xv 2, ([], 0), ([(3, 19)], 0), xv 16], xG (([(16, -1)], 19)), (.inl [[(0, 1)]], [xv 3])], 0, [xP 102 [xv 13, xv 15, xv 4, xv 5, xv 6, xv 7, xv 8, xv 9, xv 10, xv 11, xv 12]])
theorem r_vv_res_ok : ruOk r_vv_res := by
  intro ρ hl0 hp
  obtain ⟨b, t0, rfl, hl1⟩ := len_inv hl0
  obtain ⟨zk, t1, rfl, hl2⟩ := len_inv hl1
  obtain ⟨zy, t2, rfl, hl3⟩ := len_inv hl2
  obtain ⟨k, t3, rfl, hl4⟩ := len_inv hl3
  obtain ⟨zn, t4, rfl, hl5⟩ := len_inv hl4
  obtain ⟨zt, t5, rfl, hl6⟩ := len_inv hl5
  obtain ⟨h, t6, rfl, hl7⟩ := len_inv hl6
  obtain ⟨r, t7, rfl, hl8⟩ := len_inv hl7
  obtain ⟨g, t8, rfl, hl9⟩ := len_inv hl8
  obtain ⟨ev, t9, rfl, hl10⟩ := len_inv hl9
  obtain ⟨ri, t10, rfl, hl11⟩ := len_inv hl10
  obtain ⟨ml, t11, rfl, hl12⟩ := len_inv hl11
  obtain ⟨so, t12, rfl, hl13⟩ := len_inv hl12
  obtain ⟨zr, t13, rfl, hl14⟩ := len_inv hl13
  obtain ⟨m, t14, rfl, hl15⟩ := len_inv hl14
  obtain ⟨zm, t15, rfl, hl16⟩ := len_inv hl15
  obtain ⟨j, t16, rfl, hl17⟩ := len_inv hl16
  have hl := List.eq_nil_of_length_eq_zero hl17
  subst hl
  have p1 := p_get3 (by decide) (fOk_hd hp)
  have p2 := i_get (fOk_hd (fOk_tl hp))
  have p3 := p_get (fOk_hd (fOk_tl (fOk_tl hp)))
  have p4 := gg_get (fOk_hd (fOk_tl (fOk_tl (fOk_tl hp))))
  have p5 := p_get (fOk_hd (fOk_tl (fOk_tl (fOk_tl (fOk_tl hp)))))
  have p6 := gg_get (fOk_hd (fOk_tl (fOk_tl (fOk_tl (fOk_tl (fOk_tl hp))))))
  have p7 := i_get (fOk_hd (fOk_tl (fOk_tl (fOk_tl (fOk_tl (fOk_tl (fOk_tl hp)))))))
  simp only [List.map, xv, fev, fvl, gtI, Int.one_mul, Int.add_zero, Int.zero_add, PR] at p1 p2 p3 p4 p5 p6 p7
  have q := k_vv_res (b := b) (zk := zk) (zy := zy) (k := k) (zn := zn) (zt := zt) (h := h) (r := r) (g := g) (ev := ev) (ri := ri) (ml := ml) (so := so) (zr := zr) (m := m) (zm := zm) (j := j) (q3 p1) p2 p3 p4 p5 p6 p7
  refine ⟨[], rfl, fOk_cons (p_put3 rfl (by decide) ?_) fOk_nil⟩ <;> simp only [List.map, xv, fev, fvl, gtI, Int.one_mul, Int.add_zero, Int.zero_add, List.append_nil]
  exact q
def r_vv_e0 : eRul := (12, [xP 102 [xv 0, xv 1, xv 2, xv 3, xv 4, xv 5, xv 6, xv 7, xv 8, xv 9, xv 10], xP 1 [xv 11, xv 0, ([], 0)]], 0, [(.inl [[(0, 0)]], [([(4, -1), (11, 1)], 0)]), (.inl [[(0, 0)]], [([(4, 1), (11, -1)], 0)])])
theorem r_vv_e0_ok : ruOk r_vv_e0 := by
  intro ρ hl0 hp
  obtain ⟨zr, t0, rfl, hl1⟩ := len_inv hl0
  obtain ⟨zm, t1, rfl, hl2⟩ := len_inv hl1
  obtain ⟨zn, t2, rfl, hl3⟩ := len_inv hl2
  obtain ⟨zt, t3, rfl, hl4⟩ := len_inv hl3
  obtain ⟨h, t4, rfl, hl5⟩ := len_inv hl4
  obtain ⟨r, t5, rfl, hl6⟩ := len_inv hl5
  obtain ⟨g, t6, rfl, hl7⟩ := len_inv hl6
  obtain ⟨ev, t7, rfl, hl8⟩ := len_inv hl7
  obtain ⟨ri, t8, rfl, hl9⟩ := len_inv hl8
  obtain ⟨ml, t9, rfl, hl10⟩ := len_inv hl9
  obtain ⟨so, t10, rfl, hl11⟩ := len_inv hl10
  obtain ⟨x, t11, rfl, hl12⟩ := len_inv hl11
  have hl := List.eq_nil_of_length_eq_zero hl12
  subst hl
  have p1 := p_get3 (by decide) (fOk_hd hp)
  have p2 := p_get (fOk_hd (fOk_tl hp))
  simp only [List.map, xv, fev, fvl, gtI, Int.one_mul, Int.add_zero, Int.zero_add, PR] at p1 p2
  have q := k_vv_e0 (zr := zr) (zm := zm) (zn := zn) (zt := zt) (h := h) (r := r) (g := g) (ev := ev) (ri := ri) (ml := ml) (so := so) (x := x) p1 p2
  refine ⟨[], rfl, fOk_cons (i_put rfl ?_ ?_) (fOk_cons (i_put rfl ?_ ?_) fOk_nil)⟩ <;> simp only [List.map, xv, fev, fvl, gtI, Int.one_mul, Int.add_zero, Int.zero_add, List.append_nil]
  · exact q.1
  · exact q.2.1
  · exact q.2.2.1
  · exact q.2.2.2
def r_vv_e1 : eRul := (12, [xP 102 [xv 0, xv 1, xv 2, xv 3, xv 4, xv 5, xv 6, xv 7, xv 8, xv 9, xv 10], xP 1 [xv 11, xv 0, ([], 1)]], 0, [(.inl [[(0, 0)]], [([(5, -1), (11, 1)], 0)]), (.inl [[(0, 0)]], [([(5, 1), (11, -1)], 0)])])
theorem r_vv_e1_ok : ruOk r_vv_e1 := by
  intro ρ hl0 hp
  obtain ⟨zr, t0, rfl, hl1⟩ := len_inv hl0
  obtain ⟨zm, t1, rfl, hl2⟩ := len_inv hl1
  obtain ⟨zn, t2, rfl, hl3⟩ := len_inv hl2
  obtain ⟨zt, t3, rfl, hl4⟩ := len_inv hl3
  obtain ⟨h, t4, rfl, hl5⟩ := len_inv hl4
  obtain ⟨r, t5, rfl, hl6⟩ := len_inv hl5
  obtain ⟨g, t6, rfl, hl7⟩ := len_inv hl6
  obtain ⟨ev, t7, rfl, hl8⟩ := len_inv hl7
  obtain ⟨ri, t8, rfl, hl9⟩ := len_inv hl8
  obtain ⟨ml, t9, rfl, hl10⟩ := len_inv hl9
  obtain ⟨so, t10, rfl, hl11⟩ := len_inv hl10
  obtain ⟨x, t11, rfl, hl12⟩ := len_inv hl11
  have hl := List.eq_nil_of_length_eq_zero hl12
  subst hl
  have p1 := p_get3 (by decide) (fOk_hd hp)
  have p2 := p_get (fOk_hd (fOk_tl hp))
  simp only [List.map, xv, fev, fvl, gtI, Int.one_mul, Int.add_zero, Int.zero_add, PR] at p1 p2
  have q := k_vv_e1 (zr := zr) (zm := zm) (zn := zn) (zt := zt) (h := h) (r := r) (g := g) (ev := ev) (ri := ri) (ml := ml) (so := so) (x := x) p1 p2
  refine ⟨[], rfl, fOk_cons (i_put rfl ?_ ?_) (fOk_cons (i_put rfl ?_ ?_) fOk_nil)⟩ <;> simp only [List.map, xv, fev, fvl, gtI, Int.one_mul, Int.add_zero, Int.zero_add, List.append_nil]
  · exact q.1
  · exact q.2.1
  · exact q.2.2.1
  · exact q.2.2.2
def r_vv_e2 : eRul := (12, [xP 102 [xv 0, xv 1, xv 2, xv 3, xv 4, xv 5, xv 6, xv 7, xv 8, xv 9, xv 10], xP 1 [xv 11, xv 0, ([], 2)]], 0, [(.inl [[(0, 0)]], [([(6, -1), (11, 1)], 0)]), (.inl [[(0, 0)]], [([(6, 1), (11, -1)], 0)])])
theorem r_vv_e2_ok : ruOk r_vv_e2 := by
  intro ρ hl0 hp
  obtain ⟨zr, t0, rfl, hl1⟩ := len_inv hl0
  obtain ⟨zm, t1, rfl, hl2⟩ := len_inv hl1
  obtain ⟨zn, t2, rfl, hl3⟩ := len_inv hl2
  obtain ⟨zt, t3, rfl, hl4⟩ := len_inv hl3
  obtain ⟨h, t4, rfl, hl5⟩ := len_inv hl4
  obtain ⟨r, t5, rfl, hl6⟩ := len_inv hl5
  obtain ⟨g, t6, rfl, hl7⟩ := len_inv hl6
  obtain ⟨ev, t7, rfl, hl8⟩ := len_inv hl7
  obtain ⟨ri, t8, rfl, hl9⟩ := len_inv hl8
  obtain ⟨ml, t9, rfl, hl10⟩ := len_inv hl9
  obtain ⟨so, t10, rfl, hl11⟩ := len_inv hl10
  obtain ⟨x, t11, rfl, hl12⟩ := len_inv hl11
  have hl := List.eq_nil_of_length_eq_zero hl12
  subst hl
  have p1 := p_get3 (by decide) (fOk_hd hp)
  have p2 := p_get (fOk_hd (fOk_tl hp))
  simp only [List.map, xv, fev, fvl, gtI, Int.one_mul, Int.add_zero, Int.zero_add, PR] at p1 p2
  have q := k_vv_e2 (zr := zr) (zm := zm) (zn := zn) (zt := zt) (h := h) (r := r) (g := g) (ev := ev) (ri := ri) (ml := ml) (so := so) (x := x) p1 p2
  refine ⟨[], rfl, fOk_cons (i_put rfl ?_ ?_) (fOk_cons (i_put rfl ?_ ?_) fOk_nil)⟩ <;> simp only [List.map, xv, fev, fvl, gtI, Int.one_mul, Int.add_zero, Int.zero_add, List.append_nil]
  · exact q.1
  · exact q.2.1
  · exact q.2.2.1
  · exact q.2.2.2
def r_vv_e3 : eRul := (12, [xP 102 [xv 0, xv 1, xv 2, xv 3, xv 4, xv 5, xv 6, xv 7, xv 8, xv 9, xv 10], xP 1 [xv 11, xv 0, ([], 3)]], 0, [(.inl [[(0, 0)]], [([(7, -1), (11, 1)], 0)]), (.inl [[(0, 0)]], [([(7, 1), (11, -1)], 0)])])
theorem r_vv_e3_ok : ruOk r_vv_e3 := by
  intro ρ hl0 hp
  obtain ⟨zr, t0, rfl, hl1⟩ := len_inv hl0
  obtain ⟨zm, t1, rfl, hl2⟩ := len_inv hl1
  obtain ⟨zn, t2, rfl, hl3⟩ := len_inv hl2
  obtain ⟨zt, t3, rfl, hl4⟩ := len_inv hl3
  obtain ⟨h, t4, rfl, hl5⟩ := len_inv hl4
  obtain ⟨r, t5, rfl, hl6⟩ := len_inv hl5
  obtain ⟨g, t6, rfl, hl7⟩ := len_inv hl6
  obtain ⟨ev, t7, rfl, hl8⟩ := len_inv hl7
  obtain ⟨ri, t8, rfl, hl9⟩ := len_inv hl8
  obtain ⟨ml, t9, rfl, hl10⟩ := len_inv hl9
  obtain ⟨so, t10, rfl, hl11⟩ := len_inv hl10
  obtain ⟨x, t11, rfl, hl12⟩ := len_inv hl11
  have hl := List.eq_nil_of_length_eq_zero hl12
  subst hl
  have p1 := p_get3 (by decide) (fOk_hd hp)
  have p2 := p_get (fOk_hd (fOk_tl hp))
  simp only [List.map, xv, fev, fvl, gtI, Int.one_mul, Int.add_zero, Int.zero_add, PR] at p1 p2
  have q := k_vv_e3 (zr := zr) (zm := zm) (zn := zn) (zt := zt) (h := h) (r := r) (g := g) (ev := ev) (ri := ri) (ml := ml) (so := so) (x := x) p1 p2
  refine ⟨[], rfl, fOk_cons (i_put rfl ?_ ?_) (fOk_cons (i_put rfl ?_ ?_) fOk_nil)⟩ <;> simp only [List.map, xv, fev, fvl, gtI, Int.one_mul, Int.add_zero, Int.zero_add, List.append_nil]
  · exact q.1
  · exact q.2.1
  · exact q.2.2.1
  · exact q.2.2.2
def r_vv_e4 : eRul := (12, [xP 102 [xv 0, xv 1, xv 2, xv 3, xv 4, xv 5, xv 6, xv 7, xv 8, xv 9, xv 10], xP 1 [xv 11, xv 0, ([], 4)]], 0, [(.inl [[(0, 0)]], [([(8, -1), (11, 1)], 0)]), (.inl [[(0, 0)]], [([(8, 1), (11, -1)], 0)])])
theorem r_vv_e4_ok : ruOk r_vv_e4 := by
  intro ρ hl0 hp
  obtain ⟨zr, t0, rfl, hl1⟩ := len_inv hl0
  obtain ⟨zm, t1, rfl, hl2⟩ := len_inv hl1
  obtain ⟨zn, t2, rfl, hl3⟩ := len_inv hl2
  obtain ⟨zt, t3, rfl, hl4⟩ := len_inv hl3
  obtain ⟨h, t4, rfl, hl5⟩ := len_inv hl4
  obtain ⟨r, t5, rfl, hl6⟩ := len_inv hl5
  obtain ⟨g, t6, rfl, hl7⟩ := len_inv hl6
  obtain ⟨ev, t7, rfl, hl8⟩ := len_inv hl7
  obtain ⟨ri, t8, rfl, hl9⟩ := len_inv hl8
  obtain ⟨ml, t9, rfl, hl10⟩ := len_inv hl9
  obtain ⟨so, t10, rfl, hl11⟩ := len_inv hl10
  obtain ⟨x, t11, rfl, hl12⟩ := len_inv hl11
  have hl := List.eq_nil_of_length_eq_zero hl12
  subst hl
  have p1 := p_get3 (by decide) (fOk_hd hp)
  have p2 := p_get (fOk_hd (fOk_tl hp))
  simp only [List.map, xv, fev, fvl, gtI, Int.one_mul, Int.add_zero, Int.zero_add, PR] at p1 p2
  have q := k_vv_e4 (zr := zr) (zm := zm) (zn := zn) (zt := zt) (h := h) (r := r) (g := g) (ev := ev) (ri := ri) (ml := ml) (so := so) (x := x) p1 p2
  refine ⟨[], rfl, fOk_cons (i_put rfl ?_ ?_) (fOk_cons (i_put rfl ?_ ?_) fOk_nil)⟩ <;> simp only [List.map, xv, fev, fvl, gtI, Int.one_mul, Int.add_zero, Int.zero_add, List.append_nil]
  · exact q.1
  · exact q.2.1
  · exact q.2.2.1
  · exact q.2.2.2
def r_vv_e5 : eRul := (12, [xP 102 [xv 0, xv 1, xv 2, xv 3, xv 4, xv 5, xv 6, xv 7, xv 8, xv 9, xv 10], xP 1 [xv 11, xv 0, ([], 5)]], 0, [(.inl [[(0, 0)]], [([(9, -1), (11, 1)], 0)]), (.inl [[(0, 0)]], [([(9, 1), (11, -1)], 0)])])
theorem r_vv_e5_ok : ruOk r_vv_e5 := by
  intro ρ hl0 hp
  obtain ⟨zr, t0, rfl, hl1⟩ := len_inv hl0
  obtain ⟨zm, t1, rfl, hl2⟩ := len_inv hl1
  obtain ⟨zn, t2, rfl, hl3⟩ := len_inv hl2
  obtain ⟨zt, t3, rfl, hl4⟩ := len_inv hl3
  obtain ⟨h, t4, rfl, hl5⟩ := len_inv hl4
  obtain ⟨r, t5, rfl, hl6⟩ := len_inv hl5
  obtain ⟨g, t6, rfl, hl7⟩ := len_inv hl6
  obtain ⟨ev, t7, rfl, hl8⟩ := len_inv hl7
  obtain ⟨ri, t8, rfl, hl9⟩ := len_inv hl8
  obtain ⟨ml, t9, rfl, hl10⟩ := len_inv hl9
  obtain ⟨so, t10, rfl, hl11⟩ := len_inv hl10
  obtain ⟨x, t11, rfl, hl12⟩ := len_inv hl11
  have hl := List.eq_nil_of_length_eq_zero hl12
  subst hl
  have p1 := p_get3 (by decide) (fOk_hd hp)
  have p2 := p_get (fOk_hd (fOk_tl hp))
  simp only [List.map, xv, fev, fvl, gtI, Int.one_mul, Int.add_zero, Int.zero_add, PR] at p1 p2
  have q := k_vv_e5 (zr := zr) (zm := zm) (zn := zn) (zt := zt) (h := h) (r := r) (g := g) (ev := ev) (ri := ri) (ml := ml) (so := so) (x := x) p1 p2
  refine ⟨[], rfl, fOk_cons (i_put rfl ?_ ?_) (fOk_cons (i_put rfl ?_ ?_) fOk_nil)⟩ <;> simp only [List.map, xv, fev, fvl, gtI, Int.one_mul, Int.add_zero, Int.zero_add, List.append_nil]
  · exact q.1
  · exact q.2.1
  · exact q.2.2.1
  · exact q.2.2.2
def r_vv_e6 : eRul := (12, [xP 102 [xv 0, xv 1, xv 2, xv 3, xv 4, xv 5, xv 6, xv 7, xv 8, xv 9, xv 10], xP 1 [xv 11, xv 0, ([], 6)]], 0, [(.inl [[(0, 0)]], [([(10, -1), (11, 1)], 0)]), (.inl [[(0, 0)]], [([(10, 1), (11, -1)], 0)])])
theorem r_vv_e6_ok : ruOk r_vv_e6 := by
  intro ρ hl0 hp
  obtain ⟨zr, t0, rfl, hl1⟩ := len_inv hl0
  obtain ⟨zm, t1, rfl, hl2⟩ := len_inv hl1
  obtain ⟨zn, t2, rfl, hl3⟩ := len_inv hl2
  obtain ⟨zt, t3, rfl, hl4⟩ := len_inv hl3
  obtain ⟨h, t4, rfl, hl5⟩ := len_inv hl4
  obtain ⟨r, t5, rfl, hl6⟩ := len_inv hl5
  obtain ⟨g, t6, rfl, hl7⟩ := len_inv hl6
  obtain ⟨ev, t7, rfl, hl8⟩ := len_inv hl7
  obtain ⟨ri, t8, rfl, hl9⟩ := len_inv hl8
  obtain ⟨ml, t9, rfl, hl10⟩ := len_inv hl9
  obtain ⟨so, t10, rfl, hl11⟩ := len_inv hl10
  obtain ⟨x, t11, rfl, hl12⟩ := len_inv hl11
  have hl := List.eq_nil_of_length_eq_zero hl12
  subst hl
  have p1 := p_get3 (by decide) (fOk_hd hp)
  have p2 := p_get (fOk_hd (fOk_tl hp))
  simp only [List.map, xv, fev, fvl, gtI, Int.one_mul, Int.add_zero, Int.zero_add, PR] at p1 p2
  have q := k_vv_e6 (zr := zr) (zm := zm) (zn := zn) (zt := zt) (h := h) (r := r) (g := g) (ev := ev) (ri := ri) (ml := ml) (so := so) (x := x) p1 p2
  refine ⟨[], rfl, fOk_cons (i_put rfl ?_ ?_) (fOk_cons (i_put rfl ?_ ?_) fOk_nil)⟩ <;> simp only [List.map, xv, fev, fvl, gtI, Int.one_mul, Int.add_zero, Int.zero_add, List.append_nil]
  · exact q.1
  · exact q.2.1
  · exact q.2.2.1
  · exact q.2.2.2
def r_ans_n1 : eRul := (7, [xP 64 [xv 0, xv 1, xv 2, xv 3], xP 64 [xv 4, xv 1, xv 5, xv 6], xP 71 [xv 0, xv 4, xv 1], xG (([(1, 1)], -940)), (.inl [[(0, 0)]], [xv 3]), xG (([(6, -1)], 1))], 0, [xG (([], 1))])
theorem r_ans_n1_ok : ruOk r_ans_n1 := by
  intro ρ hl0 hp
  obtain ⟨c, t0, rfl, hl1⟩ := len_inv hl0
  obtain ⟨n, t1, rfl, hl2⟩ := len_inv hl1
  obtain ⟨a, t2, rfl, hl3⟩ := len_inv hl2
  obtain ⟨f, t3, rfl, hl4⟩ := len_inv hl3
  obtain ⟨r, t4, rfl, hl5⟩ := len_inv hl4
  obtain ⟨b, t5, rfl, hl6⟩ := len_inv hl5
  obtain ⟨g, t6, rfl, hl7⟩ := len_inv hl6
  have hl := List.eq_nil_of_length_eq_zero hl7
  subst hl
  have p1 := p_get3 (by decide) (fOk_hd hp)
  have p2 := p_get3 (by decide) (fOk_hd (fOk_tl hp))
  have p3 := p_get3 (by decide) (fOk_hd (fOk_tl (fOk_tl hp)))
  have p4 := gg_get (fOk_hd (fOk_tl (fOk_tl (fOk_tl hp))))
  have p5 := i_get (fOk_hd (fOk_tl (fOk_tl (fOk_tl (fOk_tl hp)))))
  have p6 := gg_get (fOk_hd (fOk_tl (fOk_tl (fOk_tl (fOk_tl (fOk_tl hp))))))
  simp only [List.map, xv, fev, fvl, gtI, Int.one_mul, Int.add_zero, Int.zero_add] at p1 p2 p3 p4 p5 p6
  exact (k_ans_n1 p1 p2 p3 p4 p5 p6).elim
def r_ans_n2 : eRul := (7, [xP 64 [xv 0, xv 1, xv 2, xv 3], xP 64 [xv 4, xv 1, xv 5, xv 6], xP 71 [xv 0, xv 4, xv 1], xG (([(1, 1)], -940)), xG (([(3, -1)], 1)), (.inl [[(0, 0)]], [xv 6])], 0, [xG (([], 1))])
theorem r_ans_n2_ok : ruOk r_ans_n2 := by
  intro ρ hl0 hp
  obtain ⟨c, t0, rfl, hl1⟩ := len_inv hl0
  obtain ⟨n, t1, rfl, hl2⟩ := len_inv hl1
  obtain ⟨a, t2, rfl, hl3⟩ := len_inv hl2
  obtain ⟨f, t3, rfl, hl4⟩ := len_inv hl3
  obtain ⟨r, t4, rfl, hl5⟩ := len_inv hl4
  obtain ⟨b, t5, rfl, hl6⟩ := len_inv hl5
  obtain ⟨g, t6, rfl, hl7⟩ := len_inv hl6
  have hl := List.eq_nil_of_length_eq_zero hl7
  subst hl
  have p1 := p_get3 (by decide) (fOk_hd hp)
  have p2 := p_get3 (by decide) (fOk_hd (fOk_tl hp))
  have p3 := p_get3 (by decide) (fOk_hd (fOk_tl (fOk_tl hp)))
  have p4 := gg_get (fOk_hd (fOk_tl (fOk_tl (fOk_tl hp))))
  have p5 := gg_get (fOk_hd (fOk_tl (fOk_tl (fOk_tl (fOk_tl hp)))))
  have p6 := i_get (fOk_hd (fOk_tl (fOk_tl (fOk_tl (fOk_tl (fOk_tl hp))))))
  simp only [List.map, xv, fev, fvl, gtI, Int.one_mul, Int.add_zero, Int.zero_add] at p1 p2 p3 p4 p5 p6
  exact (k_ans_n2 p1 p2 p3 p4 p5 p6).elim
def r_out_tr : eRul := (5, [xP 12 [xv 0, xv 1, xv 2, xv 3], xP 12 [xv 1, xv 4, xv 2, xv 3]], 0, [xP 12 [xv 0, xv 4, xv 2, xv 3]])
theorem r_out_tr_ok : ruOk r_out_tr := by
  intro ρ hl0 hp
  obtain ⟨z, t0, rfl, hl1⟩ := len_inv hl0
  obtain ⟨y, t1, rfl, hl2⟩ := len_inv hl1
  obtain ⟨a, t2, rfl, hl3⟩ := len_inv hl2
  obtain ⟨b, t3, rfl, hl4⟩ := len_inv hl3
  obtain ⟨x, t4, rfl, hl5⟩ := len_inv hl4
  have hl := List.eq_nil_of_length_eq_zero hl5
  subst hl
  have p1 := p_get (fOk_hd hp)
  have p2 := p_get (fOk_hd (fOk_tl hp))
  simp only [List.map, xv, fev, fvl, gtI, Int.one_mul, Int.add_zero, Int.zero_add, PR] at p1 p2
  have q := k_out_tr (z := z) (y := y) (a := a) (b := b) (x := x) p1 p2
  refine ⟨[], rfl, fOk_cons (p_put rfl ?_) fOk_nil⟩ <;> simp only [List.map, xv, fev, fvl, gtI, Int.one_mul, Int.add_zero, Int.zero_add, List.append_nil, PR]
  exact q
def r_cpy_le : eRul := (8, [xP 11 [xv 0, xv 1, xv 2, xv 3, xv 4], xG (([(4, -1), (5, 1)], 0)), xG (([(2, 1), (6, -1)], 0)), xG (([(2, -1), (6, 1)], 0)), xG (([(3, 1), (7, -1)], 0)), xG (([(3, -1), (7, 1)], 0))], 0, [xP 11 [xv 0, xv 1, xv 6, xv 7, xv 5]])
theorem r_cpy_le_ok : ruOk r_cpy_le := by
  intro ρ hl0 hp
  obtain ⟨z, t0, rfl, hl1⟩ := len_inv hl0
  obtain ⟨n, t1, rfl, hl2⟩ := len_inv hl1
  obtain ⟨b, t2, rfl, hl3⟩ := len_inv hl2
  obtain ⟨a, t3, rfl, hl4⟩ := len_inv hl3
  obtain ⟨m, t4, rfl, hl5⟩ := len_inv hl4
  obtain ⟨k, t5, rfl, hl6⟩ := len_inv hl5
  obtain ⟨c, t6, rfl, hl7⟩ := len_inv hl6
  obtain ⟨d, t7, rfl, hl8⟩ := len_inv hl7
  have hl := List.eq_nil_of_length_eq_zero hl8
  subst hl
  have p1 := p_get (fOk_hd hp)
  have p2 := gg_get (fOk_hd (fOk_tl hp))
  have p3 := gg_get (fOk_hd (fOk_tl (fOk_tl hp)))
  have p4 := gg_get (fOk_hd (fOk_tl (fOk_tl (fOk_tl hp))))
  have p5 := gg_get (fOk_hd (fOk_tl (fOk_tl (fOk_tl (fOk_tl hp)))))
  have p6 := gg_get (fOk_hd (fOk_tl (fOk_tl (fOk_tl (fOk_tl (fOk_tl hp))))))
  simp only [List.map, xv, fev, fvl, gtI, Int.one_mul, Int.add_zero, Int.zero_add, PR] at p1 p2 p3 p4 p5 p6
  have q := k_cpy_le (z := z) (n := n) (b := b) (a := a) (m := m) (k := k) (c := c) (d := d) p1 p2 p3 p4 p5 p6
  refine ⟨[], rfl, fOk_cons (p_put rfl ?_) fOk_nil⟩ <;> simp only [List.map, xv, fev, fvl, gtI, Int.one_mul, Int.add_zero, Int.zero_add, List.append_nil, PR]
  exact q
def r_out_le : eRul := (6, [xP 12 [xv 0, xv 1, xv 2, xv 3], xG (([(2, -1), (4, 1)], 0)), xG (([(3, 1), (5, -1)], 0))], 0, [xP 12 [xv 0, xv 1, xv 4, xv 5]])
theorem r_out_le_ok : ruOk r_out_le := by
  intro ρ hl0 hp
  obtain ⟨z, t0, rfl, hl1⟩ := len_inv hl0
  obtain ⟨n, t1, rfl, hl2⟩ := len_inv hl1
  obtain ⟨a, t2, rfl, hl3⟩ := len_inv hl2
  obtain ⟨b, t3, rfl, hl4⟩ := len_inv hl3
  obtain ⟨c, t4, rfl, hl5⟩ := len_inv hl4
  obtain ⟨d, t5, rfl, hl6⟩ := len_inv hl5
  have hl := List.eq_nil_of_length_eq_zero hl6
  subst hl
  have p1 := p_get (fOk_hd hp)
  have p2 := gg_get (fOk_hd (fOk_tl hp))
  have p3 := gg_get (fOk_hd (fOk_tl (fOk_tl hp)))
  simp only [List.map, xv, fev, fvl, gtI, Int.one_mul, Int.add_zero, Int.zero_add, PR] at p1 p2 p3
  have q := k_out_le (z := z) (n := n) (a := a) (b := b) (c := c) (d := d) p1 p2 p3
  refine ⟨[], rfl, fOk_cons (p_put rfl ?_) fOk_nil⟩ <;> simp only [List.map, xv, fev, fvl, gtI, Int.one_mul, Int.add_zero, Int.zero_add, List.append_nil, PR]
  exact q
end
