noncomputable section
/-! T3: rules (printed by wip/v5/gen/rules4.py) -/
def r_r_init : eRul := (8, [xP 3 [xv 0, ([], 0), ([], 3), ([], 0), ([], 0)], xP 3 [xv 0, ([], 3), ([], 4), ([], 7), ([], 7)], xP 3 [xv 0, ([], 4), ([], 5), ([], 3), ([], 3)], xP 3 [xv 0, ([], 5), ([], 6), ([], 15), ([], 15)], xP 3 [xv 0, ([], 6), ([], 7), ([], 0), ([], 0)], xP 3 [xv 0, ([], 7), ([], 8), ([], 20), ([], 20)], xP 3 [xv 0, ([], 8), ([], 60), ([], 0), ([], 0)], xP 3 [xv 0, ([], 60), ([], 66), ([], -1), ([], -1)], xP 3 [xv 0, ([], 66), ([], 72), ([], 0), ([], 0)], (.inl [[(0, 0)]], [xv 1]), (.inl [[(0, 0)]], [xv 2]), (.inl [[(0, 0)]], [xv 3]), (.inl [[(0, 0)]], [xv 4]), (.inl [[(0, 940)]], [xv 5])], 0, [xP 67 [xv 6, xv 5, ([], 0), ([], 0), ([], 0), xv 0, xv 7, xv 1, xv 2, xv 3, xv 4, ([], 0)]])
theorem r_r_init_ok : ruOk r_r_init := by
  intro ρ hl0 hp
  obtain ⟨zr, t0, rfl, hl1⟩ := len_inv hl0
  obtain ⟨o0, t1, rfl, hl2⟩ := len_inv hl1
  obtain ⟨o1, t2, rfl, hl3⟩ := len_inv hl2
  obtain ⟨o2, t3, rfl, hl4⟩ := len_inv hl3
  obtain ⟨o3, t4, rfl, hl5⟩ := len_inv hl4
  obtain ⟨n, t5, rfl, hl6⟩ := len_inv hl5
  obtain ⟨z, t6, rfl, hl7⟩ := len_inv hl6
  obtain ⟨zm, t7, rfl, hl8⟩ := len_inv hl7
  have hl := List.eq_nil_of_length_eq_zero hl8
  subst hl
  have p1 := p_get (fOk_hd hp)
  have p2 := p_get (fOk_hd (fOk_tl hp))
  have p3 := p_get (fOk_hd (fOk_tl (fOk_tl hp)))
  have p4 := p_get (fOk_hd (fOk_tl (fOk_tl (fOk_tl hp))))
  have p5 := p_get (fOk_hd (fOk_tl (fOk_tl (fOk_tl (fOk_tl hp)))))
  have p6 := p_get (fOk_hd (fOk_tl (fOk_tl (fOk_tl (fOk_tl (fOk_tl hp))))))
  have p7 := p_get (fOk_hd (fOk_tl (fOk_tl (fOk_tl (fOk_tl (fOk_tl (fOk_tl hp)))))))
  have p8 := p_get (fOk_hd (fOk_tl (fOk_tl (fOk_tl (fOk_tl (fOk_tl (fOk_tl (fOk_tl hp))))))))
  have p9 := p_get (fOk_hd (fOk_tl (fOk_tl (fOk_tl (fOk_tl (fOk_tl (fOk_tl (fOk_tl (fOk_tl hp)))))))))
  have p10 := i_get (fOk_hd (fOk_tl (fOk_tl (fOk_tl (fOk_tl (fOk_tl (fOk_tl (fOk_tl (fOk_tl (fOk_tl hp))))))))))
  have p11 := i_get (fOk_hd (fOk_tl (fOk_tl (fOk_tl (fOk_tl (fOk_tl (fOk_tl (fOk_tl (fOk_tl (fOk_tl (fOk_tl hp)))))))))))
  have p12 := i_get (fOk_hd (fOk_tl (fOk_tl (fOk_tl (fOk_tl (fOk_tl (fOk_tl (fOk_tl (fOk_tl (fOk_tl (fOk_tl (fOk_tl hp))))))))))))
  have p13 := i_get (fOk_hd (fOk_tl (fOk_tl (fOk_tl (fOk_tl (fOk_tl (fOk_tl (fOk_tl (fOk_tl (fOk_tl (fOk_tl (fOk_tl (fOk_tl hp)))))))))))))
  have p14 := i_get (fOk_hd (fOk_tl (fOk_tl (fOk_tl (fOk_tl (fOk_tl (fOk_tl (fOk_tl (fOk_tl (fOk_tl (fOk_tl (fOk_tl (fOk_tl (fOk_tl hp))))))))))))))
  simp only [List.map, xv, fev, fvl, gtI, Int.one_mul, Int.add_zero, Int.zero_add, PR] at p1 p2 p3 p4 p5 p6 p7 p8 p9 p10 p11 p12 p13 p14
  have q := k_r_init (zr := zr) (o0 := o0) (o1 := o1) (o2 := o2) (o3 := o3) (n := n) (z := z) (zm := zm) p1 p2 p3 p4 p5 p6 p7 p8 p9 p10 p11 p12 p13 p14
  refine ⟨[], rfl, fOk_cons (p_put3 rfl (by decide) ?_) fOk_nil⟩ <;> simp only [List.map, xv, fev, fvl, gtI, Int.one_mul, Int.add_zero, Int.zero_add, List.append_nil]
  exact q
def r_r0_end : eRul := (15, [xP 69 [xv 0, xv 1, ([], 0), xv 2, xv 3, xv 4, xv 5, xv 6, xv 7, xv 8, ([], 0), xv 9, xv 10, xv 11, xv 12, xv 13, xv 14], (.inl [[(0, 0)]], [xv 9])], 0, [xP 64 [xv 0, xv 1, xv 2, ([], 0)]])
theorem r_r0_end_ok : ruOk r_r0_end := by
  intro ρ hl0 hp
  obtain ⟨z, t0, rfl, hl1⟩ := len_inv hl0
  obtain ⟨n, t1, rfl, hl2⟩ := len_inv hl1
  obtain ⟨k, t2, rfl, hl3⟩ := len_inv hl2
  obtain ⟨zr, t3, rfl, hl4⟩ := len_inv hl3
  obtain ⟨zm, t4, rfl, hl5⟩ := len_inv hl4
  obtain ⟨o0, t5, rfl, hl6⟩ := len_inv hl5
  obtain ⟨o1, t6, rfl, hl7⟩ := len_inv hl6
  obtain ⟨o2, t7, rfl, hl8⟩ := len_inv hl7
  obtain ⟨o3, t8, rfl, hl9⟩ := len_inv hl8
  obtain ⟨kd, t9, rfl, hl10⟩ := len_inv hl9
  obtain ⟨fr, t10, rfl, hl11⟩ := len_inv hl10
  obtain ⟨to, t11, rfl, hl12⟩ := len_inv hl11
  obtain ⟨nu, t12, rfl, hl13⟩ := len_inv hl12
  obtain ⟨sg, t13, rfl, hl14⟩ := len_inv hl13
  obtain ⟨w, t14, rfl, hl15⟩ := len_inv hl14
  have hl := List.eq_nil_of_length_eq_zero hl15
  subst hl
  have p1 := p_get3 (by decide) (fOk_hd hp)
  have p2 := i_get (fOk_hd (fOk_tl hp))
  simp only [List.map, xv, fev, fvl, gtI, Int.one_mul, Int.add_zero, Int.zero_add] at p1 p2
  have q := k_r0_end (z := z) (n := n) (k := k) (zr := zr) (zm := zm) (o0 := o0) (o1 := o1) (o2 := o2) (o3 := o3) (kd := kd) (fr := fr) (to := to) (nu := nu) (sg := sg) (w := w) (q3 p1) p2
  refine ⟨[], rfl, fOk_cons (p_put3 rfl (by decide) ?_) fOk_nil⟩ <;> simp only [List.map, xv, fev, fvl, gtI, Int.one_mul, Int.add_zero, Int.zero_add, List.append_nil]
  exact q
def r_r0_bad : eRul := (15, [xP 69 [xv 0, xv 1, ([], 0), xv 2, xv 3, xv 4, xv 5, xv 6, xv 7, xv 8, ([], 0), xv 9, xv 10, xv 11, xv 12, xv 13, xv 14], xP 97 [xv 9], xP 76 [xv 9, xv 14, ([], 0), ([], 0)], xP 76 [xv 9, xv 14, ([], 1), ([], 0)], xP 76 [xv 9, xv 14, ([], 2), ([], 0)], xP 76 [xv 9, xv 14, ([], 3), ([], 0)], xP 76 [xv 9, xv 14, ([], 4), ([], 0)], xP 76 [xv 9, xv 14, ([], 5), ([], 0)], xP 76 [xv 9, xv 14, ([], 6), ([], 0)], xP 76 [xv 9, xv 14, ([], 7), ([], 0)], xP 76 [xv 9, xv 14, ([], 8), ([], 0)]], 0, [xP 64 [xv 0, xv 1, ([(10, -1)], -1), ([], 1)]])
theorem r_r0_bad_ok : ruOk r_r0_bad := by
  intro ρ hl0 hp
  obtain ⟨z, t0, rfl, hl1⟩ := len_inv hl0
  obtain ⟨n, t1, rfl, hl2⟩ := len_inv hl1
  obtain ⟨k, t2, rfl, hl3⟩ := len_inv hl2
  obtain ⟨zr, t3, rfl, hl4⟩ := len_inv hl3
  obtain ⟨zm, t4, rfl, hl5⟩ := len_inv hl4
  obtain ⟨o0, t5, rfl, hl6⟩ := len_inv hl5
  obtain ⟨o1, t6, rfl, hl7⟩ := len_inv hl6
  obtain ⟨o2, t7, rfl, hl8⟩ := len_inv hl7
  obtain ⟨o3, t8, rfl, hl9⟩ := len_inv hl8
  obtain ⟨kd, t9, rfl, hl10⟩ := len_inv hl9
  obtain ⟨fr, t10, rfl, hl11⟩ := len_inv hl10
  obtain ⟨to, t11, rfl, hl12⟩ := len_inv hl11
  obtain ⟨nu, t12, rfl, hl13⟩ := len_inv hl12
  obtain ⟨sg, t13, rfl, hl14⟩ := len_inv hl13
  obtain ⟨w, t14, rfl, hl15⟩ := len_inv hl14
  have hl := List.eq_nil_of_length_eq_zero hl15
  subst hl
  have p1 := p_get3 (by decide) (fOk_hd hp)
  have p2 := p_get3 (by decide) (fOk_hd (fOk_tl hp))
  have p3 := p_get3 (by decide) (fOk_hd (fOk_tl (fOk_tl hp)))
  have p4 := p_get3 (by decide) (fOk_hd (fOk_tl (fOk_tl (fOk_tl hp))))
  have p5 := p_get3 (by decide) (fOk_hd (fOk_tl (fOk_tl (fOk_tl (fOk_tl hp)))))
  have p6 := p_get3 (by decide) (fOk_hd (fOk_tl (fOk_tl (fOk_tl (fOk_tl (fOk_tl hp))))))
  have p7 := p_get3 (by decide) (fOk_hd (fOk_tl (fOk_tl (fOk_tl (fOk_tl (fOk_tl (fOk_tl hp)))))))
  have p8 := p_get3 (by decide) (fOk_hd (fOk_tl (fOk_tl (fOk_tl (fOk_tl (fOk_tl (fOk_tl (fOk_tl hp))))))))
  have p9 := p_get3 (by decide) (fOk_hd (fOk_tl (fOk_tl (fOk_tl (fOk_tl (fOk_tl (fOk_tl (fOk_tl (fOk_tl hp)))))))))
  have p10 := p_get3 (by decide) (fOk_hd (fOk_tl (fOk_tl (fOk_tl (fOk_tl (fOk_tl (fOk_tl (fOk_tl (fOk_tl (fOk_tl hp))))))))))
  have p11 := p_get3 (by decide) (fOk_hd (fOk_tl (fOk_tl (fOk_tl (fOk_tl (fOk_tl (fOk_tl (fOk_tl (fOk_tl (fOk_tl (fOk_tl hp)))))))))))
  simp only [List.map, xv, fev, fvl, gtI, Int.one_mul, Int.add_zero, Int.zero_add] at p1 p2 p3 p4 p5 p6 p7 p8 p9 p10 p11
  have q := k_r0_bad (z := z) (n := n) (k := k) (zr := zr) (zm := zm) (o0 := o0) (o1 := o1) (o2 := o2) (o3 := o3) (kd := kd) (fr := fr) (to := to) (nu := nu) (sg := sg) (w := w) (q3 p1) p2 p3 p4 p5 p6 p7 p8 p9 p10 p11
  refine ⟨[], rfl, fOk_cons (p_put3 rfl (by decide) ?_) fOk_nil⟩ <;> simp only [List.map, xv, fev, fvl, gtI, Int.one_mul, Int.add_zero, Int.zero_add, List.append_nil]
  exact q
def r_r0_first0 : eRul := (16, [xP 69 [xv 0, xv 1, ([], 0), xv 2, xv 3, xv 4, xv 5, xv 6, xv 7, xv 8, ([], 0), xv 9, xv 10, xv 11, xv 12, xv 13, xv 14], xP 76 [xv 9, xv 14, ([], 0), ([], 1)], (.inl [[(0, 0)]], [xv 5]), (.inl [[(1, 1)]], [xv 15])], 0, [xP 67 [xv 0, xv 1, ([], 1), xv 11, xv 2, xv 3, xv 4, xv 15, xv 6, xv 7, xv 8, ([], 0)]])
theorem r_r0_first0_ok : ruOk r_r0_first0 := by
  intro ρ hl0 hp
  obtain ⟨z, t0, rfl, hl1⟩ := len_inv hl0
  obtain ⟨n, t1, rfl, hl2⟩ := len_inv hl1
  obtain ⟨k, t2, rfl, hl3⟩ := len_inv hl2
  obtain ⟨zr, t3, rfl, hl4⟩ := len_inv hl3
  obtain ⟨zm, t4, rfl, hl5⟩ := len_inv hl4
  obtain ⟨o0, t5, rfl, hl6⟩ := len_inv hl5
  obtain ⟨o1, t6, rfl, hl7⟩ := len_inv hl6
  obtain ⟨o2, t7, rfl, hl8⟩ := len_inv hl7
  obtain ⟨o3, t8, rfl, hl9⟩ := len_inv hl8
  obtain ⟨kd, t9, rfl, hl10⟩ := len_inv hl9
  obtain ⟨fr, t10, rfl, hl11⟩ := len_inv hl10
  obtain ⟨to, t11, rfl, hl12⟩ := len_inv hl11
  obtain ⟨nu, t12, rfl, hl13⟩ := len_inv hl12
  obtain ⟨sg, t13, rfl, hl14⟩ := len_inv hl13
  obtain ⟨w, t14, rfl, hl15⟩ := len_inv hl14
  obtain ⟨y, t15, rfl, hl16⟩ := len_inv hl15
  have hl := List.eq_nil_of_length_eq_zero hl16
  subst hl
  have p1 := p_get3 (by decide) (fOk_hd hp)
  have p2 := p_get3 (by decide) (fOk_hd (fOk_tl hp))
  have p3 := i_get (fOk_hd (fOk_tl (fOk_tl hp)))
  have p4 := i_get (fOk_hd (fOk_tl (fOk_tl (fOk_tl hp))))
  simp only [List.map, xv, fev, fvl, gtI, Int.one_mul, Int.add_zero, Int.zero_add] at p1 p2 p3 p4
  have q := k_r0_first0 (z := z) (n := n) (k := k) (zr := zr) (zm := zm) (o0 := o0) (o1 := o1) (o2 := o2) (o3 := o3) (kd := kd) (fr := fr) (to := to) (nu := nu) (sg := sg) (w := w) (y := y) (q3 p1) p2 p3 p4
  refine ⟨[], rfl, fOk_cons (p_put3 rfl (by decide) ?_) fOk_nil⟩ <;> simp only [List.map, xv, fev, fvl, gtI, Int.one_mul, Int.add_zero, Int.zero_add, List.append_nil]
  exact q
def r_r0_again0 : eRul := (15, [xP 69 [xv 0, xv 1, ([], 0), xv 2, xv 3, xv 4, xv 5, xv 6, xv 7, xv 8, ([], 0), xv 9, xv 10, xv 11, xv 12, xv 13, xv 14], xP 76 [xv 9, xv 14, ([], 0), ([], 1)], (.inl [[(1, 1)]], [xv 5])], 0, [xP 64 [xv 0, xv 1, ([(10, -1)], -1), ([], 3)]])
theorem r_r0_again0_ok : ruOk r_r0_again0 := by
  intro ρ hl0 hp
  obtain ⟨z, t0, rfl, hl1⟩ := len_inv hl0
  obtain ⟨n, t1, rfl, hl2⟩ := len_inv hl1
  obtain ⟨k, t2, rfl, hl3⟩ := len_inv hl2
  obtain ⟨zr, t3, rfl, hl4⟩ := len_inv hl3
  obtain ⟨zm, t4, rfl, hl5⟩ := len_inv hl4
  obtain ⟨o0, t5, rfl, hl6⟩ := len_inv hl5
  obtain ⟨o1, t6, rfl, hl7⟩ := len_inv hl6
  obtain ⟨o2, t7, rfl, hl8⟩ := len_inv hl7
  obtain ⟨o3, t8, rfl, hl9⟩ := len_inv hl8
  obtain ⟨kd, t9, rfl, hl10⟩ := len_inv hl9
  obtain ⟨fr, t10, rfl, hl11⟩ := len_inv hl10
  obtain ⟨to, t11, rfl, hl12⟩ := len_inv hl11
  obtain ⟨nu, t12, rfl, hl13⟩ := len_inv hl12
  obtain ⟨sg, t13, rfl, hl14⟩ := len_inv hl13
  obtain ⟨w, t14, rfl, hl15⟩ := len_inv hl14
  have hl := List.eq_nil_of_length_eq_zero hl15
  subst hl
  have p1 := p_get3 (by decide) (fOk_hd hp)
  have p2 := p_get3 (by decide) (fOk_hd (fOk_tl hp))
  have p3 := i_get (fOk_hd (fOk_tl (fOk_tl hp)))
  simp only [List.map, xv, fev, fvl, gtI, Int.one_mul, Int.add_zero, Int.zero_add] at p1 p2 p3
  have q := k_r0_again0 (z := z) (n := n) (k := k) (zr := zr) (zm := zm) (o0 := o0) (o1 := o1) (o2 := o2) (o3 := o3) (kd := kd) (fr := fr) (to := to) (nu := nu) (sg := sg) (w := w) (q3 p1) p2 p3
  refine ⟨[], rfl, fOk_cons (p_put3 rfl (by decide) ?_) fOk_nil⟩ <;> simp only [List.map, xv, fev, fvl, gtI, Int.one_mul, Int.add_zero, Int.zero_add, List.append_nil]
  exact q
def r_r0_first1 : eRul := (16, [xP 69 [xv 0, xv 1, ([], 0), xv 2, xv 3, xv 4, xv 5, xv 6, xv 7, xv 8, ([], 0), xv 9, xv 10, xv 11, xv 12, xv 13, xv 14], xP 76 [xv 9, xv 14, ([], 1), ([], 1)], (.inl [[(0, 0)]], [xv 6]), (.inl [[(1, 1)]], [xv 15])], 0, [xP 67 [xv 0, xv 1, ([], 2), xv 11, xv 2, xv 3, xv 4, xv 5, xv 15, xv 7, xv 8, ([], 0)]])
theorem r_r0_first1_ok : ruOk r_r0_first1 := by
  intro ρ hl0 hp
  obtain ⟨z, t0, rfl, hl1⟩ := len_inv hl0
  obtain ⟨n, t1, rfl, hl2⟩ := len_inv hl1
  obtain ⟨k, t2, rfl, hl3⟩ := len_inv hl2
  obtain ⟨zr, t3, rfl, hl4⟩ := len_inv hl3
  obtain ⟨zm, t4, rfl, hl5⟩ := len_inv hl4
  obtain ⟨o0, t5, rfl, hl6⟩ := len_inv hl5
  obtain ⟨o1, t6, rfl, hl7⟩ := len_inv hl6
  obtain ⟨o2, t7, rfl, hl8⟩ := len_inv hl7
  obtain ⟨o3, t8, rfl, hl9⟩ := len_inv hl8
  obtain ⟨kd, t9, rfl, hl10⟩ := len_inv hl9
  obtain ⟨fr, t10, rfl, hl11⟩ := len_inv hl10
  obtain ⟨to, t11, rfl, hl12⟩ := len_inv hl11
  obtain ⟨nu, t12, rfl, hl13⟩ := len_inv hl12
  obtain ⟨sg, t13, rfl, hl14⟩ := len_inv hl13
  obtain ⟨w, t14, rfl, hl15⟩ := len_inv hl14
  obtain ⟨y, t15, rfl, hl16⟩ := len_inv hl15
  have hl := List.eq_nil_of_length_eq_zero hl16
  subst hl
  have p1 := p_get3 (by decide) (fOk_hd hp)
  have p2 := p_get3 (by decide) (fOk_hd (fOk_tl hp))
  have p3 := i_get (fOk_hd (fOk_tl (fOk_tl hp)))
  have p4 := i_get (fOk_hd (fOk_tl (fOk_tl (fOk_tl hp))))
  simp only [List.map, xv, fev, fvl, gtI, Int.one_mul, Int.add_zero, Int.zero_add] at p1 p2 p3 p4
  have q := k_r0_first1 (z := z) (n := n) (k := k) (zr := zr) (zm := zm) (o0 := o0) (o1 := o1) (o2 := o2) (o3 := o3) (kd := kd) (fr := fr) (to := to) (nu := nu) (sg := sg) (w := w) (y := y) (q3 p1) p2 p3 p4
  refine ⟨[], rfl, fOk_cons (p_put3 rfl (by decide) ?_) fOk_nil⟩ <;> simp only [List.map, xv, fev, fvl, gtI, Int.one_mul, Int.add_zero, Int.zero_add, List.append_nil]
  exact q
def r_r0_again1 : eRul := (15, [xP 69 [xv 0, xv 1, ([], 0), xv 2, xv 3, xv 4, xv 5, xv 6, xv 7, xv 8, ([], 0), xv 9, xv 10, xv 11, xv 12, xv 13, xv 14], xP 76 [xv 9, xv 14, ([], 1), ([], 1)], (.inl [[(1, 1)]], [xv 6])], 0, [xP 64 [xv 0, xv 1, ([(10, -1)], -1), ([], 3)]])
theorem r_r0_again1_ok : ruOk r_r0_again1 := by
  intro ρ hl0 hp
  obtain ⟨z, t0, rfl, hl1⟩ := len_inv hl0
  obtain ⟨n, t1, rfl, hl2⟩ := len_inv hl1
  obtain ⟨k, t2, rfl, hl3⟩ := len_inv hl2
  obtain ⟨zr, t3, rfl, hl4⟩ := len_inv hl3
  obtain ⟨zm, t4, rfl, hl5⟩ := len_inv hl4
  obtain ⟨o0, t5, rfl, hl6⟩ := len_inv hl5
  obtain ⟨o1, t6, rfl, hl7⟩ := len_inv hl6
  obtain ⟨o2, t7, rfl, hl8⟩ := len_inv hl7
  obtain ⟨o3, t8, rfl, hl9⟩ := len_inv hl8
  obtain ⟨kd, t9, rfl, hl10⟩ := len_inv hl9
  obtain ⟨fr, t10, rfl, hl11⟩ := len_inv hl10
  obtain ⟨to, t11, rfl, hl12⟩ := len_inv hl11
  obtain ⟨nu, t12, rfl, hl13⟩ := len_inv hl12
  obtain ⟨sg, t13, rfl, hl14⟩ := len_inv hl13
  obtain ⟨w, t14, rfl, hl15⟩ := len_inv hl14
  have hl := List.eq_nil_of_length_eq_zero hl15
  subst hl
  have p1 := p_get3 (by decide) (fOk_hd hp)
  have p2 := p_get3 (by decide) (fOk_hd (fOk_tl hp))
  have p3 := i_get (fOk_hd (fOk_tl (fOk_tl hp)))
  simp only [List.map, xv, fev, fvl, gtI, Int.one_mul, Int.add_zero, Int.zero_add] at p1 p2 p3
  have q := k_r0_again1 (z := z) (n := n) (k := k) (zr := zr) (zm := zm) (o0 := o0) (o1 := o1) (o2 := o2) (o3 := o3) (kd := kd) (fr := fr) (to := to) (nu := nu) (sg := sg) (w := w) (q3 p1) p2 p3
  refine ⟨[], rfl, fOk_cons (p_put3 rfl (by decide) ?_) fOk_nil⟩ <;> simp only [List.map, xv, fev, fvl, gtI, Int.one_mul, Int.add_zero, Int.zero_add, List.append_nil]
  exact q
def r_r0_first2 : eRul := (16, [xP 69 [xv 0, xv 1, ([], 0), xv 2, xv 3, xv 4, xv 5, xv 6, xv 7, xv 8, ([], 0), xv 9, xv 10, xv 11, xv 12, xv 13, xv 14], xP 76 [xv 9, xv 14, ([], 2), ([], 1)], (.inl [[(0, 0)]], [xv 7]), (.inl [[(1, 1)]], [xv 15])], 0, [xP 67 [xv 0, xv 1, ([], 4), xv 11, xv 2, xv 3, xv 4, xv 5, xv 6, xv 15, xv 8, ([], 0)]])
theorem r_r0_first2_ok : ruOk r_r0_first2 := by
  intro ρ hl0 hp
  obtain ⟨z, t0, rfl, hl1⟩ := len_inv hl0
  obtain ⟨n, t1, rfl, hl2⟩ := len_inv hl1
  obtain ⟨k, t2, rfl, hl3⟩ := len_inv hl2
  obtain ⟨zr, t3, rfl, hl4⟩ := len_inv hl3
  obtain ⟨zm, t4, rfl, hl5⟩ := len_inv hl4
  obtain ⟨o0, t5, rfl, hl6⟩ := len_inv hl5
  obtain ⟨o1, t6, rfl, hl7⟩ := len_inv hl6
  obtain ⟨o2, t7, rfl, hl8⟩ := len_inv hl7
  obtain ⟨o3, t8, rfl, hl9⟩ := len_inv hl8
  obtain ⟨kd, t9, rfl, hl10⟩ := len_inv hl9
  obtain ⟨fr, t10, rfl, hl11⟩ := len_inv hl10
  obtain ⟨to, t11, rfl, hl12⟩ := len_inv hl11
  obtain ⟨nu, t12, rfl, hl13⟩ := len_inv hl12
  obtain ⟨sg, t13, rfl, hl14⟩ := len_inv hl13
  obtain ⟨w, t14, rfl, hl15⟩ := len_inv hl14
  obtain ⟨y, t15, rfl, hl16⟩ := len_inv hl15
  have hl := List.eq_nil_of_length_eq_zero hl16
  subst hl
  have p1 := p_get3 (by decide) (fOk_hd hp)
  have p2 := p_get3 (by decide) (fOk_hd (fOk_tl hp))
  have p3 := i_get (fOk_hd (fOk_tl (fOk_tl hp)))
  have p4 := i_get (fOk_hd (fOk_tl (fOk_tl (fOk_tl hp))))
  simp only [List.map, xv, fev, fvl, gtI, Int.one_mul, Int.add_zero, Int.zero_add] at p1 p2 p3 p4
  have q := k_r0_first2 (z := z) (n := n) (k := k) (zr := zr) (zm := zm) (o0 := o0) (o1 := o1) (o2 := o2) (o3 := o3) (kd := kd) (fr := fr) (to := to) (nu := nu) (sg := sg) (w := w) (y := y) (q3 p1) p2 p3 p4
  refine ⟨[], rfl, fOk_cons (p_put3 rfl (by decide) ?_) fOk_nil⟩ <;> simp only [List.map, xv, fev, fvl, gtI, Int.one_mul, Int.add_zero, Int.zero_add, List.append_nil]
  exact q
def r_r0_again2 : eRul := (15, [xP 69 [xv 0, xv 1, ([], 0), xv 2, xv 3, xv 4, xv 5, xv 6, xv 7, xv 8, ([], 0), xv 9, xv 10, xv 11, xv 12, xv 13, xv 14], xP 76 [xv 9, xv 14, ([], 2), ([], 1)], (.inl [[(1, 1)]], [xv 7])], 0, [xP 64 [xv 0, xv 1, ([(10, -1)], -1), ([], 3)]])
theorem r_r0_again2_ok : ruOk r_r0_again2 := by
  intro ρ hl0 hp
  obtain ⟨z, t0, rfl, hl1⟩ := len_inv hl0
  obtain ⟨n, t1, rfl, hl2⟩ := len_inv hl1
  obtain ⟨k, t2, rfl, hl3⟩ := len_inv hl2
  obtain ⟨zr, t3, rfl, hl4⟩ := len_inv hl3
  obtain ⟨zm, t4, rfl, hl5⟩ := len_inv hl4
  obtain ⟨o0, t5, rfl, hl6⟩ := len_inv hl5
  obtain ⟨o1, t6, rfl, hl7⟩ := len_inv hl6
  obtain ⟨o2, t7, rfl, hl8⟩ := len_inv hl7
  obtain ⟨o3, t8, rfl, hl9⟩ := len_inv hl8
  obtain ⟨kd, t9, rfl, hl10⟩ := len_inv hl9
  obtain ⟨fr, t10, rfl, hl11⟩ := len_inv hl10
  obtain ⟨to, t11, rfl, hl12⟩ := len_inv hl11
  obtain ⟨nu, t12, rfl, hl13⟩ := len_inv hl12
  obtain ⟨sg, t13, rfl, hl14⟩ := len_inv hl13
  obtain ⟨w, t14, rfl, hl15⟩ := len_inv hl14
  have hl := List.eq_nil_of_length_eq_zero hl15
  subst hl
  have p1 := p_get3 (by decide) (fOk_hd hp)
  have p2 := p_get3 (by decide) (fOk_hd (fOk_tl hp))
  have p3 := i_get (fOk_hd (fOk_tl (fOk_tl hp)))
  simp only [List.map, xv, fev, fvl, gtI, Int.one_mul, Int.add_zero, Int.zero_add] at p1 p2 p3
  have q := k_r0_again2 (z := z) (n := n) (k := k) (zr := zr) (zm := zm) (o0 := o0) (o1 := o1) (o2 := o2) (o3 := o3) (kd := kd) (fr := fr) (to := to) (nu := nu) (sg := sg) (w := w) (q3 p1) p2 p3
  refine ⟨[], rfl, fOk_cons (p_put3 rfl (by decide) ?_) fOk_nil⟩ <;> simp only [List.map, xv, fev, fvl, gtI, Int.one_mul, Int.add_zero, Int.zero_add, List.append_nil]
  exact q
def r_r0_first3 : eRul := (16, [xP 69 [xv 0, xv 1, ([], 0), xv 2, xv 3, xv 4, xv 5, xv 6, xv 7, xv 8, ([], 0), xv 9, xv 10, xv 11, xv 12, xv 13, xv 14], xP 76 [xv 9, xv 14, ([], 3), ([], 1)], (.inl [[(0, 0)]], [xv 8]), (.inl [[(1, 1)]], [xv 15])], 0, [xP 67 [xv 0, xv 1, ([], 5), xv 11, xv 2, xv 3, xv 4, xv 5, xv 6, xv 7, xv 15, ([], 0)]])
theorem r_r0_first3_ok : ruOk r_r0_first3 := by
  intro ρ hl0 hp
  obtain ⟨z, t0, rfl, hl1⟩ := len_inv hl0
  obtain ⟨n, t1, rfl, hl2⟩ := len_inv hl1
  obtain ⟨k, t2, rfl, hl3⟩ := len_inv hl2
  obtain ⟨zr, t3, rfl, hl4⟩ := len_inv hl3
  obtain ⟨zm, t4, rfl, hl5⟩ := len_inv hl4
  obtain ⟨o0, t5, rfl, hl6⟩ := len_inv hl5
  obtain ⟨o1, t6, rfl, hl7⟩ := len_inv hl6
  obtain ⟨o2, t7, rfl, hl8⟩ := len_inv hl7
  obtain ⟨o3, t8, rfl, hl9⟩ := len_inv hl8
  obtain ⟨kd, t9, rfl, hl10⟩ := len_inv hl9
  obtain ⟨fr, t10, rfl, hl11⟩ := len_inv hl10
  obtain ⟨to, t11, rfl, hl12⟩ := len_inv hl11
  obtain ⟨nu, t12, rfl, hl13⟩ := len_inv hl12
  obtain ⟨sg, t13, rfl, hl14⟩ := len_inv hl13
  obtain ⟨w, t14, rfl, hl15⟩ := len_inv hl14
  obtain ⟨y, t15, rfl, hl16⟩ := len_inv hl15
  have hl := List.eq_nil_of_length_eq_zero hl16
  subst hl
  have p1 := p_get3 (by decide) (fOk_hd hp)
  have p2 := p_get3 (by decide) (fOk_hd (fOk_tl hp))
  have p3 := i_get (fOk_hd (fOk_tl (fOk_tl hp)))
  have p4 := i_get (fOk_hd (fOk_tl (fOk_tl (fOk_tl hp))))
  simp only [List.map, xv, fev, fvl, gtI, Int.one_mul, Int.add_zero, Int.zero_add] at p1 p2 p3 p4
  have q := k_r0_first3 (z := z) (n := n) (k := k) (zr := zr) (zm := zm) (o0 := o0) (o1 := o1) (o2 := o2) (o3 := o3) (kd := kd) (fr := fr) (to := to) (nu := nu) (sg := sg) (w := w) (y := y) (q3 p1) p2 p3 p4
  refine ⟨[], rfl, fOk_cons (p_put3 rfl (by decide) ?_) fOk_nil⟩ <;> simp only [List.map, xv, fev, fvl, gtI, Int.one_mul, Int.add_zero, Int.zero_add, List.append_nil]
  exact q
def r_r0_again3 : eRul := (15, [xP 69 [xv 0, xv 1, ([], 0), xv 2, xv 3, xv 4, xv 5, xv 6, xv 7, xv 8, ([], 0), xv 9, xv 10, xv 11, xv 12, xv 13, xv 14], xP 76 [xv 9, xv 14, ([], 3), ([], 1)], (.inl [[(1, 1)]], [xv 8])], 0, [xP 64 [xv 0, xv 1, ([(10, -1)], -1), ([], 3)]])
theorem r_r0_again3_ok : ruOk r_r0_again3 := by
  intro ρ hl0 hp
  obtain ⟨z, t0, rfl, hl1⟩ := len_inv hl0
  obtain ⟨n, t1, rfl, hl2⟩ := len_inv hl1
  obtain ⟨k, t2, rfl, hl3⟩ := len_inv hl2
  obtain ⟨zr, t3, rfl, hl4⟩ := len_inv hl3
  obtain ⟨zm, t4, rfl, hl5⟩ := len_inv hl4
  obtain ⟨o0, t5, rfl, hl6⟩ := len_inv hl5
  obtain ⟨o1, t6, rfl, hl7⟩ := len_inv hl6
  obtain ⟨o2, t7, rfl, hl8⟩ := len_inv hl7
  obtain ⟨o3, t8, rfl, hl9⟩ := len_inv hl8
  obtain ⟨kd, t9, rfl, hl10⟩ := len_inv hl9
  obtain ⟨fr, t10, rfl, hl11⟩ := len_inv hl10
  obtain ⟨to, t11, rfl, hl12⟩ := len_inv hl11
  obtain ⟨nu, t12, rfl, hl13⟩ := len_inv hl12
  obtain ⟨sg, t13, rfl, hl14⟩ := len_inv hl13
  obtain ⟨w, t14, rfl, hl15⟩ := len_inv hl14
  have hl := List.eq_nil_of_length_eq_zero hl15
  subst hl
  have p1 := p_get3 (by decide) (fOk_hd hp)
  have p2 := p_get3 (by decide) (fOk_hd (fOk_tl hp))
  have p3 := i_get (fOk_hd (fOk_tl (fOk_tl hp)))
  simp only [List.map, xv, fev, fvl, gtI, Int.one_mul, Int.add_zero, Int.zero_add] at p1 p2 p3
  have q := k_r0_again3 (z := z) (n := n) (k := k) (zr := zr) (zm := zm) (o0 := o0) (o1 := o1) (o2 := o2) (o3 := o3) (kd := kd) (fr := fr) (to := to) (nu := nu) (sg := sg) (w := w) (q3 p1) p2 p3
  refine ⟨[], rfl, fOk_cons (p_put3 rfl (by decide) ?_) fOk_nil⟩ <;> simp only [List.map, xv, fev, fvl, gtI, Int.one_mul, Int.add_zero, Int.zero_add, List.append_nil]
  exact q
def r_r0_n4 : eRul := (15, [xP 69 [xv 0, xv 1, ([], 0), xv 2, xv 3, xv 4, xv 5, xv 6, xv 7, xv 8, ([], 0), xv 9, xv 10, xv 11, xv 12, xv 13, xv 14], xP 76 [xv 9, xv 14, ([], 4), ([], 1)], xP 93 [xv 3, ([], 0), ([], 5), ([], 0)]], 0, [xP 67 [xv 0, xv 1, ([], 6), xv 11, xv 2, xv 3, xv 4, xv 5, xv 6, xv 7, xv 8, ([], 0)]])
theorem r_r0_n4_ok : ruOk r_r0_n4 := by
  intro ρ hl0 hp
  obtain ⟨z, t0, rfl, hl1⟩ := len_inv hl0
  obtain ⟨n, t1, rfl, hl2⟩ := len_inv hl1
  obtain ⟨k, t2, rfl, hl3⟩ := len_inv hl2
  obtain ⟨zr, t3, rfl, hl4⟩ := len_inv hl3
  obtain ⟨zm, t4, rfl, hl5⟩ := len_inv hl4
  obtain ⟨o0, t5, rfl, hl6⟩ := len_inv hl5
  obtain ⟨o1, t6, rfl, hl7⟩ := len_inv hl6
  obtain ⟨o2, t7, rfl, hl8⟩ := len_inv hl7
  obtain ⟨o3, t8, rfl, hl9⟩ := len_inv hl8
  obtain ⟨kd, t9, rfl, hl10⟩ := len_inv hl9
  obtain ⟨fr, t10, rfl, hl11⟩ := len_inv hl10
  obtain ⟨to, t11, rfl, hl12⟩ := len_inv hl11
  obtain ⟨nu, t12, rfl, hl13⟩ := len_inv hl12
  obtain ⟨sg, t13, rfl, hl14⟩ := len_inv hl13
  obtain ⟨w, t14, rfl, hl15⟩ := len_inv hl14
  have hl := List.eq_nil_of_length_eq_zero hl15
  subst hl
  have p1 := p_get3 (by decide) (fOk_hd hp)
  have p2 := p_get3 (by decide) (fOk_hd (fOk_tl hp))
  have p3 := p_get3 (by decide) (fOk_hd (fOk_tl (fOk_tl hp)))
  simp only [List.map, xv, fev, fvl, gtI, Int.one_mul, Int.add_zero, Int.zero_add] at p1 p2 p3
  have q := k_r0_n4 (z := z) (n := n) (k := k) (zr := zr) (zm := zm) (o0 := o0) (o1 := o1) (o2 := o2) (o3 := o3) (kd := kd) (fr := fr) (to := to) (nu := nu) (sg := sg) (w := w) (q3 p1) p2 p3
  refine ⟨[], rfl, fOk_cons (p_put3 rfl (by decide) ?_) fOk_nil⟩ <;> simp only [List.map, xv, fev, fvl, gtI, Int.one_mul, Int.add_zero, Int.zero_add, List.append_nil]
  exact q
def r_r0_many4 : eRul := (15, [xP 69 [xv 0, xv 1, ([], 0), xv 2, xv 3, xv 4, xv 5, xv 6, xv 7, xv 8, ([], 0), xv 9, xv 10, xv 11, xv 12, xv 13, xv 14], xP 76 [xv 9, xv 14, ([], 4), ([], 1)], xP 93 [xv 3, ([], 0), ([], 5), ([], 1)]], 0, [xP 64 [xv 0, xv 1, ([(10, -1)], -1), ([], 4)]])
theorem r_r0_many4_ok : ruOk r_r0_many4 := by
  intro ρ hl0 hp
  obtain ⟨z, t0, rfl, hl1⟩ := len_inv hl0
  obtain ⟨n, t1, rfl, hl2⟩ := len_inv hl1
  obtain ⟨k, t2, rfl, hl3⟩ := len_inv hl2
  obtain ⟨zr, t3, rfl, hl4⟩ := len_inv hl3
  obtain ⟨zm, t4, rfl, hl5⟩ := len_inv hl4
  obtain ⟨o0, t5, rfl, hl6⟩ := len_inv hl5
  obtain ⟨o1, t6, rfl, hl7⟩ := len_inv hl6
  obtain ⟨o2, t7, rfl, hl8⟩ := len_inv hl7
  obtain ⟨o3, t8, rfl, hl9⟩ := len_inv hl8
  obtain ⟨kd, t9, rfl, hl10⟩ := len_inv hl9
  obtain ⟨fr, t10, rfl, hl11⟩ := len_inv hl10
  obtain ⟨to, t11, rfl, hl12⟩ := len_inv hl11
  obtain ⟨nu, t12, rfl, hl13⟩ := len_inv hl12
  obtain ⟨sg, t13, rfl, hl14⟩ := len_inv hl13
  obtain ⟨w, t14, rfl, hl15⟩ := len_inv hl14
  have hl := List.eq_nil_of_length_eq_zero hl15
  subst hl
  have p1 := p_get3 (by decide) (fOk_hd hp)
  have p2 := p_get3 (by decide) (fOk_hd (fOk_tl hp))
  have p3 := p_get3 (by decide) (fOk_hd (fOk_tl (fOk_tl hp)))
  simp only [List.map, xv, fev, fvl, gtI, Int.one_mul, Int.add_zero, Int.zero_add] at p1 p2 p3
  have q := k_r0_many4 (z := z) (n := n) (k := k) (zr := zr) (zm := zm) (o0 := o0) (o1 := o1) (o2 := o2) (o3 := o3) (kd := kd) (fr := fr) (to := to) (nu := nu) (sg := sg) (w := w) (q3 p1) p2 p3
  refine ⟨[], rfl, fOk_cons (p_put3 rfl (by decide) ?_) fOk_nil⟩ <;> simp only [List.map, xv, fev, fvl, gtI, Int.one_mul, Int.add_zero, Int.zero_add, List.append_nil]
  exact q
def r_r0_n5 : eRul := (15, [xP 69 [xv 0, xv 1, ([], 0), xv 2, xv 3, xv 4, xv 5, xv 6, xv 7, xv 8, ([], 0), xv 9, xv 10, xv 11, xv 12, xv 13, xv 14], xP 76 [xv 9, xv 14, ([], 5), ([], 1)], xP 93 [xv 3, ([], 1), ([], 8), ([], 0)]], 0, [xP 67 [xv 0, xv 1, ([], 9), xv 11, xv 2, xv 3, xv 4, xv 5, xv 6, xv 7, xv 8, ([], 0)]])
theorem r_r0_n5_ok : ruOk r_r0_n5 := by
  intro ρ hl0 hp
  obtain ⟨z, t0, rfl, hl1⟩ := len_inv hl0
  obtain ⟨n, t1, rfl, hl2⟩ := len_inv hl1
  obtain ⟨k, t2, rfl, hl3⟩ := len_inv hl2
  obtain ⟨zr, t3, rfl, hl4⟩ := len_inv hl3
  obtain ⟨zm, t4, rfl, hl5⟩ := len_inv hl4
  obtain ⟨o0, t5, rfl, hl6⟩ := len_inv hl5
  obtain ⟨o1, t6, rfl, hl7⟩ := len_inv hl6
  obtain ⟨o2, t7, rfl, hl8⟩ := len_inv hl7
  obtain ⟨o3, t8, rfl, hl9⟩ := len_inv hl8
  obtain ⟨kd, t9, rfl, hl10⟩ := len_inv hl9
  obtain ⟨fr, t10, rfl, hl11⟩ := len_inv hl10
  obtain ⟨to, t11, rfl, hl12⟩ := len_inv hl11
  obtain ⟨nu, t12, rfl, hl13⟩ := len_inv hl12
  obtain ⟨sg, t13, rfl, hl14⟩ := len_inv hl13
  obtain ⟨w, t14, rfl, hl15⟩ := len_inv hl14
  have hl := List.eq_nil_of_length_eq_zero hl15
  subst hl
  have p1 := p_get3 (by decide) (fOk_hd hp)
  have p2 := p_get3 (by decide) (fOk_hd (fOk_tl hp))
  have p3 := p_get3 (by decide) (fOk_hd (fOk_tl (fOk_tl hp)))
  simp only [List.map, xv, fev, fvl, gtI, Int.one_mul, Int.add_zero, Int.zero_add] at p1 p2 p3
  have q := k_r0_n5 (z := z) (n := n) (k := k) (zr := zr) (zm := zm) (o0 := o0) (o1 := o1) (o2 := o2) (o3 := o3) (kd := kd) (fr := fr) (to := to) (nu := nu) (sg := sg) (w := w) (q3 p1) p2 p3
  refine ⟨[], rfl, fOk_cons (p_put3 rfl (by decide) ?_) fOk_nil⟩ <;> simp only [List.map, xv, fev, fvl, gtI, Int.one_mul, Int.add_zero, Int.zero_add, List.append_nil]
  exact q
def r_r0_many5 : eRul := (15, [xP 69 [xv 0, xv 1, ([], 0), xv 2, xv 3, xv 4, xv 5, xv 6, xv 7, xv 8, ([], 0), xv 9, xv 10, xv 11, xv 12, xv 13, xv 14], xP 76 [xv 9, xv 14, ([], 5), ([], 1)], xP 93 [xv 3, ([], 1), ([], 8), ([], 1)]], 0, [xP 64 [xv 0, xv 1, ([(10, -1)], -1), ([], 4)]])
theorem r_r0_many5_ok : ruOk r_r0_many5 := by
  intro ρ hl0 hp
  obtain ⟨z, t0, rfl, hl1⟩ := len_inv hl0
  obtain ⟨n, t1, rfl, hl2⟩ := len_inv hl1
  obtain ⟨k, t2, rfl, hl3⟩ := len_inv hl2
  obtain ⟨zr, t3, rfl, hl4⟩ := len_inv hl3
  obtain ⟨zm, t4, rfl, hl5⟩ := len_inv hl4
  obtain ⟨o0, t5, rfl, hl6⟩ := len_inv hl5
  obtain ⟨o1, t6, rfl, hl7⟩ := len_inv hl6
  obtain ⟨o2, t7, rfl, hl8⟩ := len_inv hl7
  obtain ⟨o3, t8, rfl, hl9⟩ := len_inv hl8
  obtain ⟨kd, t9, rfl, hl10⟩ := len_inv hl9
  obtain ⟨fr, t10, rfl, hl11⟩ := len_inv hl10
  obtain ⟨to, t11, rfl, hl12⟩ := len_inv hl11
  obtain ⟨nu, t12, rfl, hl13⟩ := len_inv hl12
  obtain ⟨sg, t13, rfl, hl14⟩ := len_inv hl13
  obtain ⟨w, t14, rfl, hl15⟩ := len_inv hl14
  have hl := List.eq_nil_of_length_eq_zero hl15
  subst hl
  have p1 := p_get3 (by decide) (fOk_hd hp)
  have p2 := p_get3 (by decide) (fOk_hd (fOk_tl hp))
  have p3 := p_get3 (by decide) (fOk_hd (fOk_tl (fOk_tl hp)))
  simp only [List.map, xv, fev, fvl, gtI, Int.one_mul, Int.add_zero, Int.zero_add] at p1 p2 p3
  have q := k_r0_many5 (z := z) (n := n) (k := k) (zr := zr) (zm := zm) (o0 := o0) (o1 := o1) (o2 := o2) (o3 := o3) (kd := kd) (fr := fr) (to := to) (nu := nu) (sg := sg) (w := w) (q3 p1) p2 p3
  refine ⟨[], rfl, fOk_cons (p_put3 rfl (by decide) ?_) fOk_nil⟩ <;> simp only [List.map, xv, fev, fvl, gtI, Int.one_mul, Int.add_zero, Int.zero_add, List.append_nil]
  exact q
def r_r0_n6 : eRul := (15, [xP 69 [xv 0, xv 1, ([], 0), xv 2, xv 3, xv 4, xv 5, xv 6, xv 7, xv 8, ([], 0), xv 9, xv 10, xv 11, xv 12, xv 13, xv 14], xP 76 [xv 9, xv 14, ([], 6), ([], 1)], xP 93 [xv 3, ([], 2), ([], 6), ([], 0)]], 0, [xP 67 [xv 0, xv 1, ([], 13), xv 11, xv 2, xv 3, xv 4, xv 5, xv 6, xv 7, xv 8, ([], 0)]])
theorem r_r0_n6_ok : ruOk r_r0_n6 := by
  intro ρ hl0 hp
  obtain ⟨z, t0, rfl, hl1⟩ := len_inv hl0
  obtain ⟨n, t1, rfl, hl2⟩ := len_inv hl1
  obtain ⟨k, t2, rfl, hl3⟩ := len_inv hl2
  obtain ⟨zr, t3, rfl, hl4⟩ := len_inv hl3
  obtain ⟨zm, t4, rfl, hl5⟩ := len_inv hl4
  obtain ⟨o0, t5, rfl, hl6⟩ := len_inv hl5
  obtain ⟨o1, t6, rfl, hl7⟩ := len_inv hl6
  obtain ⟨o2, t7, rfl, hl8⟩ := len_inv hl7
  obtain ⟨o3, t8, rfl, hl9⟩ := len_inv hl8
  obtain ⟨kd, t9, rfl, hl10⟩ := len_inv hl9
  obtain ⟨fr, t10, rfl, hl11⟩ := len_inv hl10
  obtain ⟨to, t11, rfl, hl12⟩ := len_inv hl11
  obtain ⟨nu, t12, rfl, hl13⟩ := len_inv hl12
  obtain ⟨sg, t13, rfl, hl14⟩ := len_inv hl13
  obtain ⟨w, t14, rfl, hl15⟩ := len_inv hl14
  have hl := List.eq_nil_of_length_eq_zero hl15
  subst hl
  have p1 := p_get3 (by decide) (fOk_hd hp)
  have p2 := p_get3 (by decide) (fOk_hd (fOk_tl hp))
  have p3 := p_get3 (by decide) (fOk_hd (fOk_tl (fOk_tl hp)))
  simp only [List.map, xv, fev, fvl, gtI, Int.one_mul, Int.add_zero, Int.zero_add] at p1 p2 p3
  have q := k_r0_n6 (z := z) (n := n) (k := k) (zr := zr) (zm := zm) (o0 := o0) (o1 := o1) (o2 := o2) (o3 := o3) (kd := kd) (fr := fr) (to := to) (nu := nu) (sg := sg) (w := w) (q3 p1) p2 p3
  refine ⟨[], rfl, fOk_cons (p_put3 rfl (by decide) ?_) fOk_nil⟩ <;> simp only [List.map, xv, fev, fvl, gtI, Int.one_mul, Int.add_zero, Int.zero_add, List.append_nil]
  exact q
def r_r0_many6 : eRul := (15, [xP 69 [xv 0, xv 1, ([], 0), xv 2, xv 3, xv 4, xv 5, xv 6, xv 7, xv 8, ([], 0), xv 9, xv 10, xv 11, xv 12, xv 13, xv 14], xP 76 [xv 9, xv 14, ([], 6), ([], 1)], xP 93 [xv 3, ([], 2), ([], 6), ([], 1)]], 0, [xP 64 [xv 0, xv 1, ([(10, -1)], -1), ([], 4)]])
theorem r_r0_many6_ok : ruOk r_r0_many6 := by
  intro ρ hl0 hp
  obtain ⟨z, t0, rfl, hl1⟩ := len_inv hl0
  obtain ⟨n, t1, rfl, hl2⟩ := len_inv hl1
  obtain ⟨k, t2, rfl, hl3⟩ := len_inv hl2
  obtain ⟨zr, t3, rfl, hl4⟩ := len_inv hl3
  obtain ⟨zm, t4, rfl, hl5⟩ := len_inv hl4
  obtain ⟨o0, t5, rfl, hl6⟩ := len_inv hl5
  obtain ⟨o1, t6, rfl, hl7⟩ := len_inv hl6
  obtain ⟨o2, t7, rfl, hl8⟩ := len_inv hl7
  obtain ⟨o3, t8, rfl, hl9⟩ := len_inv hl8
  obtain ⟨kd, t9, rfl, hl10⟩ := len_inv hl9
  obtain ⟨fr, t10, rfl, hl11⟩ := len_inv hl10
  obtain ⟨to, t11, rfl, hl12⟩ := len_inv hl11
  obtain ⟨nu, t12, rfl, hl13⟩ := len_inv hl12
  obtain ⟨sg, t13, rfl, hl14⟩ := len_inv hl13
  obtain ⟨w, t14, rfl, hl15⟩ := len_inv hl14
  have hl := List.eq_nil_of_length_eq_zero hl15
  subst hl
  have p1 := p_get3 (by decide) (fOk_hd hp)
  have p2 := p_get3 (by decide) (fOk_hd (fOk_tl hp))
  have p3 := p_get3 (by decide) (fOk_hd (fOk_tl (fOk_tl hp)))
  simp only [List.map, xv, fev, fvl, gtI, Int.one_mul, Int.add_zero, Int.zero_add] at p1 p2 p3
  have q := k_r0_many6 (z := z) (n := n) (k := k) (zr := zr) (zm := zm) (o0 := o0) (o1 := o1) (o2 := o2) (o3 := o3) (kd := kd) (fr := fr) (to := to) (nu := nu) (sg := sg) (w := w) (q3 p1) p2 p3
  refine ⟨[], rfl, fOk_cons (p_put3 rfl (by decide) ?_) fOk_nil⟩ <;> simp only [List.map, xv, fev, fvl, gtI, Int.one_mul, Int.add_zero, Int.zero_add, List.append_nil]
  exact q
def r_r0_k7 : eRul := (15, [xP 69 [xv 0, xv 1, ([], 0), xv 2, xv 3, xv 4, xv 5, xv 6, xv 7, xv 8, ([], 0), xv 9, xv 10, xv 11, xv 12, xv 13, xv 14], xP 76 [xv 9, xv 14, ([], 7), ([], 1)]], 0, [xP 67 [xv 0, xv 1, ([], 16), xv 11, xv 2, xv 3, xv 4, xv 5, xv 6, xv 7, xv 8, ([], 0)]])
theorem r_r0_k7_ok : ruOk r_r0_k7 := by
  intro ρ hl0 hp
  obtain ⟨z, t0, rfl, hl1⟩ := len_inv hl0
  obtain ⟨n, t1, rfl, hl2⟩ := len_inv hl1
  obtain ⟨k, t2, rfl, hl3⟩ := len_inv hl2
  obtain ⟨zr, t3, rfl, hl4⟩ := len_inv hl3
  obtain ⟨zm, t4, rfl, hl5⟩ := len_inv hl4
  obtain ⟨o0, t5, rfl, hl6⟩ := len_inv hl5
  obtain ⟨o1, t6, rfl, hl7⟩ := len_inv hl6
  obtain ⟨o2, t7, rfl, hl8⟩ := len_inv hl7
  obtain ⟨o3, t8, rfl, hl9⟩ := len_inv hl8
  obtain ⟨kd, t9, rfl, hl10⟩ := len_inv hl9
  obtain ⟨fr, t10, rfl, hl11⟩ := len_inv hl10
  obtain ⟨to, t11, rfl, hl12⟩ := len_inv hl11
  obtain ⟨nu, t12, rfl, hl13⟩ := len_inv hl12
  obtain ⟨sg, t13, rfl, hl14⟩ := len_inv hl13
  obtain ⟨w, t14, rfl, hl15⟩ := len_inv hl14
  have hl := List.eq_nil_of_length_eq_zero hl15
  subst hl
  have p1 := p_get3 (by decide) (fOk_hd hp)
  have p2 := p_get3 (by decide) (fOk_hd (fOk_tl hp))
  simp only [List.map, xv, fev, fvl, gtI, Int.one_mul, Int.add_zero, Int.zero_add] at p1 p2
  have q := k_r0_k7 (z := z) (n := n) (k := k) (zr := zr) (zm := zm) (o0 := o0) (o1 := o1) (o2 := o2) (o3 := o3) (kd := kd) (fr := fr) (to := to) (nu := nu) (sg := sg) (w := w) (q3 p1) p2
  refine ⟨[], rfl, fOk_cons (p_put3 rfl (by decide) ?_) fOk_nil⟩ <;> simp only [List.map, xv, fev, fvl, gtI, Int.one_mul, Int.add_zero, Int.zero_add, List.append_nil]
  exact q
def r_r0_k8 : eRul := (15, [xP 69 [xv 0, xv 1, ([], 0), xv 2, xv 3, xv 4, xv 5, xv 6, xv 7, xv 8, ([], 0), xv 9, xv 10, xv 11, xv 12, xv 13, xv 14], xP 76 [xv 9, xv 14, ([], 8), ([], 1)]], 0, [xP 67 [xv 0, xv 1, ([], 18), xv 11, xv 2, xv 3, xv 4, xv 5, xv 6, xv 7, xv 8, ([], 0)]])
theorem r_r0_k8_ok : ruOk r_r0_k8 := by
  intro ρ hl0 hp
  obtain ⟨z, t0, rfl, hl1⟩ := len_inv hl0
  obtain ⟨n, t1, rfl, hl2⟩ := len_inv hl1
  obtain ⟨k, t2, rfl, hl3⟩ := len_inv hl2
  obtain ⟨zr, t3, rfl, hl4⟩ := len_inv hl3
  obtain ⟨zm, t4, rfl, hl5⟩ := len_inv hl4
  obtain ⟨o0, t5, rfl, hl6⟩ := len_inv hl5
  obtain ⟨o1, t6, rfl, hl7⟩ := len_inv hl6
  obtain ⟨o2, t7, rfl, hl8⟩ := len_inv hl7
  obtain ⟨o3, t8, rfl, hl9⟩ := len_inv hl8
  obtain ⟨kd, t9, rfl, hl10⟩ := len_inv hl9
  obtain ⟨fr, t10, rfl, hl11⟩ := len_inv hl10
  obtain ⟨to, t11, rfl, hl12⟩ := len_inv hl11
  obtain ⟨nu, t12, rfl, hl13⟩ := len_inv hl12
  obtain ⟨sg, t13, rfl, hl14⟩ := len_inv hl13
  obtain ⟨w, t14, rfl, hl15⟩ := len_inv hl14
  have hl := List.eq_nil_of_length_eq_zero hl15
  subst hl
  have p1 := p_get3 (by decide) (fOk_hd hp)
  have p2 := p_get3 (by decide) (fOk_hd (fOk_tl hp))
  simp only [List.map, xv, fev, fvl, gtI, Int.one_mul, Int.add_zero, Int.zero_add] at p1 p2
  have q := k_r0_k8 (z := z) (n := n) (k := k) (zr := zr) (zm := zm) (o0 := o0) (o1 := o1) (o2 := o2) (o3 := o3) (kd := kd) (fr := fr) (to := to) (nu := nu) (sg := sg) (w := w) (q3 p1) p2
  refine ⟨[], rfl, fOk_cons (p_put3 rfl (by decide) ?_) fOk_nil⟩ <;> simp only [List.map, xv, fev, fvl, gtI, Int.one_mul, Int.add_zero, Int.zero_add, List.append_nil]
  exact q
def r_r1_ok : eRul := (16, [xP 69 [xv 0, xv 1, ([], 1), xv 2, xv 3, xv 4, xv 5, xv 6, xv 7, xv 8, ([], 0), xv 9, xv 10, xv 11, xv 12, xv 13, xv 14], (.inl [[(3, 3)]], [xv 9]), (.inl [[(0, 99)]], [xv 12]), xP 2 [xv 15, xv 3, ([], 7), xv 12]], 0, [xP 67 [xv 0, xv 1, ([], 30), xv 11, xv 2, xv 15, xv 4, xv 5, xv 6, xv 7, xv 8, ([], 0)]])
theorem r_r1_ok_ok : ruOk r_r1_ok := by
  intro ρ hl0 hp
  obtain ⟨z, t0, rfl, hl1⟩ := len_inv hl0
  obtain ⟨n, t1, rfl, hl2⟩ := len_inv hl1
  obtain ⟨k, t2, rfl, hl3⟩ := len_inv hl2
  obtain ⟨zr, t3, rfl, hl4⟩ := len_inv hl3
  obtain ⟨zm, t4, rfl, hl5⟩ := len_inv hl4
  obtain ⟨o0, t5, rfl, hl6⟩ := len_inv hl5
  obtain ⟨o1, t6, rfl, hl7⟩ := len_inv hl6
  obtain ⟨o2, t7, rfl, hl8⟩ := len_inv hl7
  obtain ⟨o3, t8, rfl, hl9⟩ := len_inv hl8
  obtain ⟨kd, t9, rfl, hl10⟩ := len_inv hl9
  obtain ⟨fr, t10, rfl, hl11⟩ := len_inv hl10
  obtain ⟨to, t11, rfl, hl12⟩ := len_inv hl11
  obtain ⟨nu, t12, rfl, hl13⟩ := len_inv hl12
  obtain ⟨sg, t13, rfl, hl14⟩ := len_inv hl13
  obtain ⟨w, t14, rfl, hl15⟩ := len_inv hl14
  obtain ⟨zr2, t15, rfl, hl16⟩ := len_inv hl15
  have hl := List.eq_nil_of_length_eq_zero hl16
  subst hl
  have p1 := p_get3 (by decide) (fOk_hd hp)
  have p2 := i_get (fOk_hd (fOk_tl hp))
  have p3 := i_get (fOk_hd (fOk_tl (fOk_tl hp)))
  have p4 := p_get (fOk_hd (fOk_tl (fOk_tl (fOk_tl hp))))
  simp only [List.map, xv, fev, fvl, gtI, Int.one_mul, Int.add_zero, Int.zero_add, PR] at p1 p2 p3 p4
  have q := k_r1_ok (z := z) (n := n) (k := k) (zr := zr) (zm := zm) (o0 := o0) (o1 := o1) (o2 := o2) (o3 := o3) (kd := kd) (fr := fr) (to := to) (nu := nu) (sg := sg) (w := w) (zr2 := zr2) (q3 p1) p2 p3 p4
  refine ⟨[], rfl, fOk_cons (p_put3 rfl (by decide) ?_) fOk_nil⟩ <;> simp only [List.map, xv, fev, fvl, gtI, Int.one_mul, Int.add_zero, Int.zero_add, List.append_nil]
  exact q
def r_r1_bad1 : eRul := (15, [xP 69 [xv 0, xv 1, ([], 1), xv 2, xv 3, xv 4, xv 5, xv 6, xv 7, xv 8, ([], 0), xv 9, xv 10, xv 11, xv 12, xv 13, xv 14], xP 57 [xv 9]], 0, [xP 64 [xv 0, xv 1, ([(10, -1)], -1), ([], 1)]])
theorem r_r1_bad1_ok : ruOk r_r1_bad1 := by
  intro ρ hl0 hp
  obtain ⟨z, t0, rfl, hl1⟩ := len_inv hl0
  obtain ⟨n, t1, rfl, hl2⟩ := len_inv hl1
  obtain ⟨k, t2, rfl, hl3⟩ := len_inv hl2
  obtain ⟨zr, t3, rfl, hl4⟩ := len_inv hl3
  obtain ⟨zm, t4, rfl, hl5⟩ := len_inv hl4
  obtain ⟨o0, t5, rfl, hl6⟩ := len_inv hl5
  obtain ⟨o1, t6, rfl, hl7⟩ := len_inv hl6
  obtain ⟨o2, t7, rfl, hl8⟩ := len_inv hl7
  obtain ⟨o3, t8, rfl, hl9⟩ := len_inv hl8
  obtain ⟨kd, t9, rfl, hl10⟩ := len_inv hl9
  obtain ⟨fr, t10, rfl, hl11⟩ := len_inv hl10
  obtain ⟨to, t11, rfl, hl12⟩ := len_inv hl11
  obtain ⟨nu, t12, rfl, hl13⟩ := len_inv hl12
  obtain ⟨sg, t13, rfl, hl14⟩ := len_inv hl13
  obtain ⟨w, t14, rfl, hl15⟩ := len_inv hl14
  have hl := List.eq_nil_of_length_eq_zero hl15
  subst hl
  have p1 := p_get3 (by decide) (fOk_hd hp)
  have p2 := p_get3 (by decide) (fOk_hd (fOk_tl hp))
  simp only [List.map, xv, fev, fvl, gtI, Int.one_mul, Int.add_zero, Int.zero_add] at p1 p2
  have q := k_r1_bad1 (z := z) (n := n) (k := k) (zr := zr) (zm := zm) (o0 := o0) (o1 := o1) (o2 := o2) (o3 := o3) (kd := kd) (fr := fr) (to := to) (nu := nu) (sg := sg) (w := w) (q3 p1) p2
  refine ⟨[], rfl, fOk_cons (p_put3 rfl (by decide) ?_) fOk_nil⟩ <;> simp only [List.map, xv, fev, fvl, gtI, Int.one_mul, Int.add_zero, Int.zero_add, List.append_nil]
  exact q
def r_r1_bad3 : eRul := (15, [xP 69 [xv 0, xv 1, ([], 1), xv 2, xv 3, xv 4, xv 5, xv 6, xv 7, xv 8, ([], 0), xv 9, xv 10, xv 11, xv 12, xv 13, xv 14], (.inl [[(3, 3)]], [xv 9]), xP 58 [xv 12, ([], 0), ([], 99), ([], 0)]], 0, [xP 64 [xv 0, xv 1, ([(10, -1)], -1), ([], 2)]])
theorem r_r1_bad3_ok : ruOk r_r1_bad3 := by
  intro ρ hl0 hp
  obtain ⟨z, t0, rfl, hl1⟩ := len_inv hl0
  obtain ⟨n, t1, rfl, hl2⟩ := len_inv hl1
  obtain ⟨k, t2, rfl, hl3⟩ := len_inv hl2
  obtain ⟨zr, t3, rfl, hl4⟩ := len_inv hl3
  obtain ⟨zm, t4, rfl, hl5⟩ := len_inv hl4
  obtain ⟨o0, t5, rfl, hl6⟩ := len_inv hl5
  obtain ⟨o1, t6, rfl, hl7⟩ := len_inv hl6
  obtain ⟨o2, t7, rfl, hl8⟩ := len_inv hl7
  obtain ⟨o3, t8, rfl, hl9⟩ := len_inv hl8
  obtain ⟨kd, t9, rfl, hl10⟩ := len_inv hl9
  obtain ⟨fr, t10, rfl, hl11⟩ := len_inv hl10
  obtain ⟨to, t11, rfl, hl12⟩ := len_inv hl11
  obtain ⟨nu, t12, rfl, hl13⟩ := len_inv hl12
  obtain ⟨sg, t13, rfl, hl14⟩ := len_inv hl13
  obtain ⟨w, t14, rfl, hl15⟩ := len_inv hl14
  have hl := List.eq_nil_of_length_eq_zero hl15
  subst hl
  have p1 := p_get3 (by decide) (fOk_hd hp)
  have p2 := i_get (fOk_hd (fOk_tl hp))
  have p3 := p_get3 (by decide) (fOk_hd (fOk_tl (fOk_tl hp)))
  simp only [List.map, xv, fev, fvl, gtI, Int.one_mul, Int.add_zero, Int.zero_add] at p1 p2 p3
  have q := k_r1_bad3 (z := z) (n := n) (k := k) (zr := zr) (zm := zm) (o0 := o0) (o1 := o1) (o2 := o2) (o3 := o3) (kd := kd) (fr := fr) (to := to) (nu := nu) (sg := sg) (w := w) (q3 p1) p2 p3
  refine ⟨[], rfl, fOk_cons (p_put3 rfl (by decide) ?_) fOk_nil⟩ <;> simp only [List.map, xv, fev, fvl, gtI, Int.one_mul, Int.add_zero, Int.zero_add, List.append_nil]
  exact q
def r_r2_ok : eRul := (16, [xP 69 [xv 0, xv 1, ([], 2), xv 2, xv 3, xv 4, xv 5, xv 6, xv 7, xv 8, ([], 0), xv 9, xv 10, xv 11, xv 12, xv 13, xv 14], (.inl [[(3, 3)]], [xv 9]), (.inl [[(1, 30)]], [xv 12]), xP 2 [xv 15, xv 3, ([], 3), xv 12]], 0, [xP 67 [xv 0, xv 1, ([], 3), xv 11, xv 2, xv 15, xv 4, xv 5, xv 6, xv 7, xv 8, ([], 0)]])
theorem r_r2_ok_ok : ruOk r_r2_ok := by
  intro ρ hl0 hp
  obtain ⟨z, t0, rfl, hl1⟩ := len_inv hl0
  obtain ⟨n, t1, rfl, hl2⟩ := len_inv hl1
  obtain ⟨k, t2, rfl, hl3⟩ := len_inv hl2
  obtain ⟨zr, t3, rfl, hl4⟩ := len_inv hl3
  obtain ⟨zm, t4, rfl, hl5⟩ := len_inv hl4
  obtain ⟨o0, t5, rfl, hl6⟩ := len_inv hl5
  obtain ⟨o1, t6, rfl, hl7⟩ := len_inv hl6
  obtain ⟨o2, t7, rfl, hl8⟩ := len_inv hl7
  obtain ⟨o3, t8, rfl, hl9⟩ := len_inv hl8
  obtain ⟨kd, t9, rfl, hl10⟩ := len_inv hl9
  obtain ⟨fr, t10, rfl, hl11⟩ := len_inv hl10
  obtain ⟨to, t11, rfl, hl12⟩ := len_inv hl11
  obtain ⟨nu, t12, rfl, hl13⟩ := len_inv hl12
  obtain ⟨sg, t13, rfl, hl14⟩ := len_inv hl13
  obtain ⟨w, t14, rfl, hl15⟩ := len_inv hl14
  obtain ⟨zr2, t15, rfl, hl16⟩ := len_inv hl15
  have hl := List.eq_nil_of_length_eq_zero hl16
  subst hl
  have p1 := p_get3 (by decide) (fOk_hd hp)
  have p2 := i_get (fOk_hd (fOk_tl hp))
  have p3 := i_get (fOk_hd (fOk_tl (fOk_tl hp)))
  have p4 := p_get (fOk_hd (fOk_tl (fOk_tl (fOk_tl hp))))
  simp only [List.map, xv, fev, fvl, gtI, Int.one_mul, Int.add_zero, Int.zero_add, PR] at p1 p2 p3 p4
  have q := k_r2_ok (z := z) (n := n) (k := k) (zr := zr) (zm := zm) (o0 := o0) (o1 := o1) (o2 := o2) (o3 := o3) (kd := kd) (fr := fr) (to := to) (nu := nu) (sg := sg) (w := w) (zr2 := zr2) (q3 p1) p2 p3 p4
  refine ⟨[], rfl, fOk_cons (p_put3 rfl (by decide) ?_) fOk_nil⟩ <;> simp only [List.map, xv, fev, fvl, gtI, Int.one_mul, Int.add_zero, Int.zero_add, List.append_nil]
  exact q
def r_r2_bad1 : eRul := (15, [xP 69 [xv 0, xv 1, ([], 2), xv 2, xv 3, xv 4, xv 5, xv 6, xv 7, xv 8, ([], 0), xv 9, xv 10, xv 11, xv 12, xv 13, xv 14], xP 57 [xv 9]], 0, [xP 64 [xv 0, xv 1, ([(10, -1)], -1), ([], 1)]])
theorem r_r2_bad1_ok : ruOk r_r2_bad1 := by
  intro ρ hl0 hp
  obtain ⟨z, t0, rfl, hl1⟩ := len_inv hl0
  obtain ⟨n, t1, rfl, hl2⟩ := len_inv hl1
  obtain ⟨k, t2, rfl, hl3⟩ := len_inv hl2
  obtain ⟨zr, t3, rfl, hl4⟩ := len_inv hl3
  obtain ⟨zm, t4, rfl, hl5⟩ := len_inv hl4
  obtain ⟨o0, t5, rfl, hl6⟩ := len_inv hl5
  obtain ⟨o1, t6, rfl, hl7⟩ := len_inv hl6
  obtain ⟨o2, t7, rfl, hl8⟩ := len_inv hl7
  obtain ⟨o3, t8, rfl, hl9⟩ := len_inv hl8
  obtain ⟨kd, t9, rfl, hl10⟩ := len_inv hl9
  obtain ⟨fr, t10, rfl, hl11⟩ := len_inv hl10
  obtain ⟨to, t11, rfl, hl12⟩ := len_inv hl11
  obtain ⟨nu, t12, rfl, hl13⟩ := len_inv hl12
  obtain ⟨sg, t13, rfl, hl14⟩ := len_inv hl13
  obtain ⟨w, t14, rfl, hl15⟩ := len_inv hl14
  have hl := List.eq_nil_of_length_eq_zero hl15
  subst hl
  have p1 := p_get3 (by decide) (fOk_hd hp)
  have p2 := p_get3 (by decide) (fOk_hd (fOk_tl hp))
  simp only [List.map, xv, fev, fvl, gtI, Int.one_mul, Int.add_zero, Int.zero_add] at p1 p2
  have q := k_r2_bad1 (z := z) (n := n) (k := k) (zr := zr) (zm := zm) (o0 := o0) (o1 := o1) (o2 := o2) (o3 := o3) (kd := kd) (fr := fr) (to := to) (nu := nu) (sg := sg) (w := w) (q3 p1) p2
  refine ⟨[], rfl, fOk_cons (p_put3 rfl (by decide) ?_) fOk_nil⟩ <;> simp only [List.map, xv, fev, fvl, gtI, Int.one_mul, Int.add_zero, Int.zero_add, List.append_nil]
  exact q
def r_r2_bad3 : eRul := (15, [xP 69 [xv 0, xv 1, ([], 2), xv 2, xv 3, xv 4, xv 5, xv 6, xv 7, xv 8, ([], 0), xv 9, xv 10, xv 11, xv 12, xv 13, xv 14], (.inl [[(3, 3)]], [xv 9]), xP 58 [xv 12, ([], 1), ([], 30), ([], 0)]], 0, [xP 64 [xv 0, xv 1, ([(10, -1)], -1), ([], 2)]])
theorem r_r2_bad3_ok : ruOk r_r2_bad3 := by
  intro ρ hl0 hp
  obtain ⟨z, t0, rfl, hl1⟩ := len_inv hl0
  obtain ⟨n, t1, rfl, hl2⟩ := len_inv hl1
  obtain ⟨k, t2, rfl, hl3⟩ := len_inv hl2
  obtain ⟨zr, t3, rfl, hl4⟩ := len_inv hl3
  obtain ⟨zm, t4, rfl, hl5⟩ := len_inv hl4
  obtain ⟨o0, t5, rfl, hl6⟩ := len_inv hl5
  obtain ⟨o1, t6, rfl, hl7⟩ := len_inv hl6
  obtain ⟨o2, t7, rfl, hl8⟩ := len_inv hl7
  obtain ⟨o3, t8, rfl, hl9⟩ := len_inv hl8
  obtain ⟨kd, t9, rfl, hl10⟩ := len_inv hl9
  obtain ⟨fr, t10, rfl, hl11⟩ := len_inv hl10
  obtain ⟨to, t11, rfl, hl12⟩ := len_inv hl11
  obtain ⟨nu, t12, rfl, hl13⟩ := len_inv hl12
  obtain ⟨sg, t13, rfl, hl14⟩ := len_inv hl13
  obtain ⟨w, t14, rfl, hl15⟩ := len_inv hl14
  have hl := List.eq_nil_of_length_eq_zero hl15
  subst hl
  have p1 := p_get3 (by decide) (fOk_hd hp)
  have p2 := i_get (fOk_hd (fOk_tl hp))
  have p3 := p_get3 (by decide) (fOk_hd (fOk_tl (fOk_tl hp)))
  simp only [List.map, xv, fev, fvl, gtI, Int.one_mul, Int.add_zero, Int.zero_add] at p1 p2 p3
  have q := k_r2_bad3 (z := z) (n := n) (k := k) (zr := zr) (zm := zm) (o0 := o0) (o1 := o1) (o2 := o2) (o3 := o3) (kd := kd) (fr := fr) (to := to) (nu := nu) (sg := sg) (w := w) (q3 p1) p2 p3
  refine ⟨[], rfl, fOk_cons (p_put3 rfl (by decide) ?_) fOk_nil⟩ <;> simp only [List.map, xv, fev, fvl, gtI, Int.one_mul, Int.add_zero, Int.zero_add, List.append_nil]
  exact q
def r_r3_ok : eRul := (16, [xP 69 [xv 0, xv 1, ([], 3), xv 2, xv 3, xv 4, xv 5, xv 6, xv 7, xv 8, ([], 0), xv 9, xv 10, xv 11, xv 12, xv 13, xv 14], (.inl [[(3, 3)]], [xv 9]), (.inl [[(0, 9)]], [xv 12]), xP 2 [xv 15, xv 3, ([], 4), xv 12]], 0, [xP 67 [xv 0, xv 1, ([], 30), xv 11, xv 2, xv 15, xv 4, xv 5, xv 6, xv 7, xv 8, ([], 0)]])
theorem r_r3_ok_ok : ruOk r_r3_ok := by
  intro ρ hl0 hp
  obtain ⟨z, t0, rfl, hl1⟩ := len_inv hl0
  obtain ⟨n, t1, rfl, hl2⟩ := len_inv hl1
  obtain ⟨k, t2, rfl, hl3⟩ := len_inv hl2
  obtain ⟨zr, t3, rfl, hl4⟩ := len_inv hl3
  obtain ⟨zm, t4, rfl, hl5⟩ := len_inv hl4
  obtain ⟨o0, t5, rfl, hl6⟩ := len_inv hl5
  obtain ⟨o1, t6, rfl, hl7⟩ := len_inv hl6
  obtain ⟨o2, t7, rfl, hl8⟩ := len_inv hl7
  obtain ⟨o3, t8, rfl, hl9⟩ := len_inv hl8
  obtain ⟨kd, t9, rfl, hl10⟩ := len_inv hl9
  obtain ⟨fr, t10, rfl, hl11⟩ := len_inv hl10
  obtain ⟨to, t11, rfl, hl12⟩ := len_inv hl11
  obtain ⟨nu, t12, rfl, hl13⟩ := len_inv hl12
  obtain ⟨sg, t13, rfl, hl14⟩ := len_inv hl13
  obtain ⟨w, t14, rfl, hl15⟩ := len_inv hl14
  obtain ⟨zr2, t15, rfl, hl16⟩ := len_inv hl15
  have hl := List.eq_nil_of_length_eq_zero hl16
  subst hl
  have p1 := p_get3 (by decide) (fOk_hd hp)
  have p2 := i_get (fOk_hd (fOk_tl hp))
  have p3 := i_get (fOk_hd (fOk_tl (fOk_tl hp)))
  have p4 := p_get (fOk_hd (fOk_tl (fOk_tl (fOk_tl hp))))
  simp only [List.map, xv, fev, fvl, gtI, Int.one_mul, Int.add_zero, Int.zero_add, PR] at p1 p2 p3 p4
  have q := k_r3_ok (z := z) (n := n) (k := k) (zr := zr) (zm := zm) (o0 := o0) (o1 := o1) (o2 := o2) (o3 := o3) (kd := kd) (fr := fr) (to := to) (nu := nu) (sg := sg) (w := w) (zr2 := zr2) (q3 p1) p2 p3 p4
  refine ⟨[], rfl, fOk_cons (p_put3 rfl (by decide) ?_) fOk_nil⟩ <;> simp only [List.map, xv, fev, fvl, gtI, Int.one_mul, Int.add_zero, Int.zero_add, List.append_nil]
  exact q
def r_r3_bad1 : eRul := (15, [xP 69 [xv 0, xv 1, ([], 3), xv 2, xv 3, xv 4, xv 5, xv 6, xv 7, xv 8, ([], 0), xv 9, xv 10, xv 11, xv 12, xv 13, xv 14], xP 57 [xv 9]], 0, [xP 64 [xv 0, xv 1, ([(10, -1)], -1), ([], 1)]])
theorem r_r3_bad1_ok : ruOk r_r3_bad1 := by
  intro ρ hl0 hp
  obtain ⟨z, t0, rfl, hl1⟩ := len_inv hl0
  obtain ⟨n, t1, rfl, hl2⟩ := len_inv hl1
  obtain ⟨k, t2, rfl, hl3⟩ := len_inv hl2
  obtain ⟨zr, t3, rfl, hl4⟩ := len_inv hl3
  obtain ⟨zm, t4, rfl, hl5⟩ := len_inv hl4
  obtain ⟨o0, t5, rfl, hl6⟩ := len_inv hl5
  obtain ⟨o1, t6, rfl, hl7⟩ := len_inv hl6
  obtain ⟨o2, t7, rfl, hl8⟩ := len_inv hl7
  obtain ⟨o3, t8, rfl, hl9⟩ := len_inv hl8
  obtain ⟨kd, t9, rfl, hl10⟩ := len_inv hl9
  obtain ⟨fr, t10, rfl, hl11⟩ := len_inv hl10
  obtain ⟨to, t11, rfl, hl12⟩ := len_inv hl11
  obtain ⟨nu, t12, rfl, hl13⟩ := len_inv hl12
  obtain ⟨sg, t13, rfl, hl14⟩ := len_inv hl13
  obtain ⟨w, t14, rfl, hl15⟩ := len_inv hl14
  have hl := List.eq_nil_of_length_eq_zero hl15
  subst hl
  have p1 := p_get3 (by decide) (fOk_hd hp)
  have p2 := p_get3 (by decide) (fOk_hd (fOk_tl hp))
  simp only [List.map, xv, fev, fvl, gtI, Int.one_mul, Int.add_zero, Int.zero_add] at p1 p2
  have q := k_r3_bad1 (z := z) (n := n) (k := k) (zr := zr) (zm := zm) (o0 := o0) (o1 := o1) (o2 := o2) (o3 := o3) (kd := kd) (fr := fr) (to := to) (nu := nu) (sg := sg) (w := w) (q3 p1) p2
  refine ⟨[], rfl, fOk_cons (p_put3 rfl (by decide) ?_) fOk_nil⟩ <;> simp only [List.map, xv, fev, fvl, gtI, Int.one_mul, Int.add_zero, Int.zero_add, List.append_nil]
  exact q
def r_r3_bad3 : eRul := (15, [xP 69 [xv 0, xv 1, ([], 3), xv 2, xv 3, xv 4, xv 5, xv 6, xv 7, xv 8, ([], 0), xv 9, xv 10, xv 11, xv 12, xv 13, xv 14], (.inl [[(3, 3)]], [xv 9]), xP 58 [xv 12, ([], 0), ([], 9), ([], 0)]], 0, [xP 64 [xv 0, xv 1, ([(10, -1)], -1), ([], 2)]])
theorem r_r3_bad3_ok : ruOk r_r3_bad3 := by
  intro ρ hl0 hp
  obtain ⟨z, t0, rfl, hl1⟩ := len_inv hl0
  obtain ⟨n, t1, rfl, hl2⟩ := len_inv hl1
  obtain ⟨k, t2, rfl, hl3⟩ := len_inv hl2
  obtain ⟨zr, t3, rfl, hl4⟩ := len_inv hl3
  obtain ⟨zm, t4, rfl, hl5⟩ := len_inv hl4
  obtain ⟨o0, t5, rfl, hl6⟩ := len_inv hl5
  obtain ⟨o1, t6, rfl, hl7⟩ := len_inv hl6
  obtain ⟨o2, t7, rfl, hl8⟩ := len_inv hl7
  obtain ⟨o3, t8, rfl, hl9⟩ := len_inv hl8
  obtain ⟨kd, t9, rfl, hl10⟩ := len_inv hl9
  obtain ⟨fr, t10, rfl, hl11⟩ := len_inv hl10
  obtain ⟨to, t11, rfl, hl12⟩ := len_inv hl11
  obtain ⟨nu, t12, rfl, hl13⟩ := len_inv hl12
  obtain ⟨sg, t13, rfl, hl14⟩ := len_inv hl13
  obtain ⟨w, t14, rfl, hl15⟩ := len_inv hl14
  have hl := List.eq_nil_of_length_eq_zero hl15
  subst hl
  have p1 := p_get3 (by decide) (fOk_hd hp)
  have p2 := i_get (fOk_hd (fOk_tl hp))
  have p3 := p_get3 (by decide) (fOk_hd (fOk_tl (fOk_tl hp)))
  simp only [List.map, xv, fev, fvl, gtI, Int.one_mul, Int.add_zero, Int.zero_add] at p1 p2 p3
  have q := k_r3_bad3 (z := z) (n := n) (k := k) (zr := zr) (zm := zm) (o0 := o0) (o1 := o1) (o2 := o2) (o3 := o3) (kd := kd) (fr := fr) (to := to) (nu := nu) (sg := sg) (w := w) (q3 p1) p2 p3
  refine ⟨[], rfl, fOk_cons (p_put3 rfl (by decide) ?_) fOk_nil⟩ <;> simp only [List.map, xv, fev, fvl, gtI, Int.one_mul, Int.add_zero, Int.zero_add, List.append_nil]
  exact q
def r_r4_ok : eRul := (16, [xP 69 [xv 0, xv 1, ([], 4), xv 2, xv 3, xv 4, xv 5, xv 6, xv 7, xv 8, ([], 0), xv 9, xv 10, xv 11, xv 12, xv 13, xv 14], (.inl [[(3, 3)]], [xv 9]), (.inl [[(0, 99)]], [xv 12]), xP 2 [xv 15, xv 3, ([], 5), xv 12]], 0, [xP 67 [xv 0, xv 1, ([], 30), xv 11, xv 2, xv 15, xv 4, xv 5, xv 6, xv 7, xv 8, ([], 0)]])
theorem r_r4_ok_ok : ruOk r_r4_ok := by
  intro ρ hl0 hp
  obtain ⟨z, t0, rfl, hl1⟩ := len_inv hl0
  obtain ⟨n, t1, rfl, hl2⟩ := len_inv hl1
  obtain ⟨k, t2, rfl, hl3⟩ := len_inv hl2
  obtain ⟨zr, t3, rfl, hl4⟩ := len_inv hl3
  obtain ⟨zm, t4, rfl, hl5⟩ := len_inv hl4
  obtain ⟨o0, t5, rfl, hl6⟩ := len_inv hl5
  obtain ⟨o1, t6, rfl, hl7⟩ := len_inv hl6
  obtain ⟨o2, t7, rfl, hl8⟩ := len_inv hl7
  obtain ⟨o3, t8, rfl, hl9⟩ := len_inv hl8
  obtain ⟨kd, t9, rfl, hl10⟩ := len_inv hl9
  obtain ⟨fr, t10, rfl, hl11⟩ := len_inv hl10
  obtain ⟨to, t11, rfl, hl12⟩ := len_inv hl11
  obtain ⟨nu, t12, rfl, hl13⟩ := len_inv hl12
  obtain ⟨sg, t13, rfl, hl14⟩ := len_inv hl13
  obtain ⟨w, t14, rfl, hl15⟩ := len_inv hl14
  obtain ⟨zr2, t15, rfl, hl16⟩ := len_inv hl15
  have hl := List.eq_nil_of_length_eq_zero hl16
  subst hl
  have p1 := p_get3 (by decide) (fOk_hd hp)
  have p2 := i_get (fOk_hd (fOk_tl hp))
  have p3 := i_get (fOk_hd (fOk_tl (fOk_tl hp)))
  have p4 := p_get (fOk_hd (fOk_tl (fOk_tl (fOk_tl hp))))
  simp only [List.map, xv, fev, fvl, gtI, Int.one_mul, Int.add_zero, Int.zero_add, PR] at p1 p2 p3 p4
  have q := k_r4_ok (z := z) (n := n) (k := k) (zr := zr) (zm := zm) (o0 := o0) (o1 := o1) (o2 := o2) (o3 := o3) (kd := kd) (fr := fr) (to := to) (nu := nu) (sg := sg) (w := w) (zr2 := zr2) (q3 p1) p2 p3 p4
  refine ⟨[], rfl, fOk_cons (p_put3 rfl (by decide) ?_) fOk_nil⟩ <;> simp only [List.map, xv, fev, fvl, gtI, Int.one_mul, Int.add_zero, Int.zero_add, List.append_nil]
  exact q
def r_r4_bad1 : eRul := (15, [xP 69 [xv 0, xv 1, ([], 4), xv 2, xv 3, xv 4, xv 5, xv 6, xv 7, xv 8, ([], 0), xv 9, xv 10, xv 11, xv 12, xv 13, xv 14], xP 57 [xv 9]], 0, [xP 64 [xv 0, xv 1, ([(10, -1)], -1), ([], 1)]])
theorem r_r4_bad1_ok : ruOk r_r4_bad1 := by
  intro ρ hl0 hp
  obtain ⟨z, t0, rfl, hl1⟩ := len_inv hl0
  obtain ⟨n, t1, rfl, hl2⟩ := len_inv hl1
  obtain ⟨k, t2, rfl, hl3⟩ := len_inv hl2
  obtain ⟨zr, t3, rfl, hl4⟩ := len_inv hl3
  obtain ⟨zm, t4, rfl, hl5⟩ := len_inv hl4
  obtain ⟨o0, t5, rfl, hl6⟩ := len_inv hl5
  obtain ⟨o1, t6, rfl, hl7⟩ := len_inv hl6
  obtain ⟨o2, t7, rfl, hl8⟩ := len_inv hl7
  obtain ⟨o3, t8, rfl, hl9⟩ := len_inv hl8
  obtain ⟨kd, t9, rfl, hl10⟩ := len_inv hl9
  obtain ⟨fr, t10, rfl, hl11⟩ := len_inv hl10
  obtain ⟨to, t11, rfl, hl12⟩ := len_inv hl11
  obtain ⟨nu, t12, rfl, hl13⟩ := len_inv hl12
  obtain ⟨sg, t13, rfl, hl14⟩ := len_inv hl13
  obtain ⟨w, t14, rfl, hl15⟩ := len_inv hl14
  have hl := List.eq_nil_of_length_eq_zero hl15
  subst hl
  have p1 := p_get3 (by decide) (fOk_hd hp)
  have p2 := p_get3 (by decide) (fOk_hd (fOk_tl hp))
  simp only [List.map, xv, fev, fvl, gtI, Int.one_mul, Int.add_zero, Int.zero_add] at p1 p2
  have q := k_r4_bad1 (z := z) (n := n) (k := k) (zr := zr) (zm := zm) (o0 := o0) (o1 := o1) (o2 := o2) (o3 := o3) (kd := kd) (fr := fr) (to := to) (nu := nu) (sg := sg) (w := w) (q3 p1) p2
  refine ⟨[], rfl, fOk_cons (p_put3 rfl (by decide) ?_) fOk_nil⟩ <;> simp only [List.map, xv, fev, fvl, gtI, Int.one_mul, Int.add_zero, Int.zero_add, List.append_nil]
  exact q
def r_r4_bad3 : eRul := (15, [xP 69 [xv 0, xv 1, ([], 4), xv 2, xv 3, xv 4, xv 5, xv 6, xv 7, xv 8, ([], 0), xv 9, xv 10, xv 11, xv 12, xv 13, xv 14], (.inl [[(3, 3)]], [xv 9]), xP 58 [xv 12, ([], 0), ([], 99), ([], 0)]], 0, [xP 64 [xv 0, xv 1, ([(10, -1)], -1), ([], 2)]])
theorem r_r4_bad3_ok : ruOk r_r4_bad3 := by
  intro ρ hl0 hp
  obtain ⟨z, t0, rfl, hl1⟩ := len_inv hl0
  obtain ⟨n, t1, rfl, hl2⟩ := len_inv hl1
  obtain ⟨k, t2, rfl, hl3⟩ := len_inv hl2
  obtain ⟨zr, t3, rfl, hl4⟩ := len_inv hl3
  obtain ⟨zm, t4, rfl, hl5⟩ := len_inv hl4
  obtain ⟨o0, t5, rfl, hl6⟩ := len_inv hl5
  obtain ⟨o1, t6, rfl, hl7⟩ := len_inv hl6
  obtain ⟨o2, t7, rfl, hl8⟩ := len_inv hl7
  obtain ⟨o3, t8, rfl, hl9⟩ := len_inv hl8
  obtain ⟨kd, t9, rfl, hl10⟩ := len_inv hl9
  obtain ⟨fr, t10, rfl, hl11⟩ := len_inv hl10
  obtain ⟨to, t11, rfl, hl12⟩ := len_inv hl11
  obtain ⟨nu, t12, rfl, hl13⟩ := len_inv hl12
  obtain ⟨sg, t13, rfl, hl14⟩ := len_inv hl13
  obtain ⟨w, t14, rfl, hl15⟩ := len_inv hl14
  have hl := List.eq_nil_of_length_eq_zero hl15
  subst hl
  have p1 := p_get3 (by decide) (fOk_hd hp)
  have p2 := i_get (fOk_hd (fOk_tl hp))
  have p3 := p_get3 (by decide) (fOk_hd (fOk_tl (fOk_tl hp)))
  simp only [List.map, xv, fev, fvl, gtI, Int.one_mul, Int.add_zero, Int.zero_add] at p1 p2 p3
  have q := k_r4_bad3 (z := z) (n := n) (k := k) (zr := zr) (zm := zm) (o0 := o0) (o1 := o1) (o2 := o2) (o3 := o3) (kd := kd) (fr := fr) (to := to) (nu := nu) (sg := sg) (w := w) (q3 p1) p2 p3
  refine ⟨[], rfl, fOk_cons (p_put3 rfl (by decide) ?_) fOk_nil⟩ <;> simp only [List.map, xv, fev, fvl, gtI, Int.one_mul, Int.add_zero, Int.zero_add, List.append_nil]
  exact q
def r_r5_ok : eRul := (16, [xP 69 [xv 0, xv 1, ([], 5), xv 2, xv 3, xv 4, xv 5, xv 6, xv 7, xv 8, ([], 0), xv 9, xv 10, xv 11, xv 12, xv 13, xv 14], (.inl [[(3, 3)]], [xv 9]), (.inl [[(0, 12)]], [xv 12]), xP 2 [xv 15, xv 3, ([], 6), xv 12]], 0, [xP 67 [xv 0, xv 1, ([], 30), xv 11, xv 2, xv 15, xv 4, xv 5, xv 6, xv 7, xv 8, ([], 0)]])
theorem r_r5_ok_ok : ruOk r_r5_ok := by
  intro ρ hl0 hp
  obtain ⟨z, t0, rfl, hl1⟩ := len_inv hl0
  obtain ⟨n, t1, rfl, hl2⟩ := len_inv hl1
  obtain ⟨k, t2, rfl, hl3⟩ := len_inv hl2
  obtain ⟨zr, t3, rfl, hl4⟩ := len_inv hl3
  obtain ⟨zm, t4, rfl, hl5⟩ := len_inv hl4
  obtain ⟨o0, t5, rfl, hl6⟩ := len_inv hl5
  obtain ⟨o1, t6, rfl, hl7⟩ := len_inv hl6
  obtain ⟨o2, t7, rfl, hl8⟩ := len_inv hl7
  obtain ⟨o3, t8, rfl, hl9⟩ := len_inv hl8
  obtain ⟨kd, t9, rfl, hl10⟩ := len_inv hl9
  obtain ⟨fr, t10, rfl, hl11⟩ := len_inv hl10
  obtain ⟨to, t11, rfl, hl12⟩ := len_inv hl11
  obtain ⟨nu, t12, rfl, hl13⟩ := len_inv hl12
  obtain ⟨sg, t13, rfl, hl14⟩ := len_inv hl13
  obtain ⟨w, t14, rfl, hl15⟩ := len_inv hl14
  obtain ⟨zr2, t15, rfl, hl16⟩ := len_inv hl15
  have hl := List.eq_nil_of_length_eq_zero hl16
  subst hl
  have p1 := p_get3 (by decide) (fOk_hd hp)
  have p2 := i_get (fOk_hd (fOk_tl hp))
  have p3 := i_get (fOk_hd (fOk_tl (fOk_tl hp)))
  have p4 := p_get (fOk_hd (fOk_tl (fOk_tl (fOk_tl hp))))
  simp only [List.map, xv, fev, fvl, gtI, Int.one_mul, Int.add_zero, Int.zero_add, PR] at p1 p2 p3 p4
  have q := k_r5_ok (z := z) (n := n) (k := k) (zr := zr) (zm := zm) (o0 := o0) (o1 := o1) (o2 := o2) (o3 := o3) (kd := kd) (fr := fr) (to := to) (nu := nu) (sg := sg) (w := w) (zr2 := zr2) (q3 p1) p2 p3 p4
  refine ⟨[], rfl, fOk_cons (p_put3 rfl (by decide) ?_) fOk_nil⟩ <;> simp only [List.map, xv, fev, fvl, gtI, Int.one_mul, Int.add_zero, Int.zero_add, List.append_nil]
  exact q
def r_r5_bad1 : eRul := (15, [xP 69 [xv 0, xv 1, ([], 5), xv 2, xv 3, xv 4, xv 5, xv 6, xv 7, xv 8, ([], 0), xv 9, xv 10, xv 11, xv 12, xv 13, xv 14], xP 57 [xv 9]], 0, [xP 64 [xv 0, xv 1, ([(10, -1)], -1), ([], 1)]])
theorem r_r5_bad1_ok : ruOk r_r5_bad1 := by
  intro ρ hl0 hp
  obtain ⟨z, t0, rfl, hl1⟩ := len_inv hl0
  obtain ⟨n, t1, rfl, hl2⟩ := len_inv hl1
  obtain ⟨k, t2, rfl, hl3⟩ := len_inv hl2
  obtain ⟨zr, t3, rfl, hl4⟩ := len_inv hl3
  obtain ⟨zm, t4, rfl, hl5⟩ := len_inv hl4
  obtain ⟨o0, t5, rfl, hl6⟩ := len_inv hl5
  obtain ⟨o1, t6, rfl, hl7⟩ := len_inv hl6
  obtain ⟨o2, t7, rfl, hl8⟩ := len_inv hl7
  obtain ⟨o3, t8, rfl, hl9⟩ := len_inv hl8
  obtain ⟨kd, t9, rfl, hl10⟩ := len_inv hl9
  obtain ⟨fr, t10, rfl, hl11⟩ := len_inv hl10
  obtain ⟨to, t11, rfl, hl12⟩ := len_inv hl11
  obtain ⟨nu, t12, rfl, hl13⟩ := len_inv hl12
  obtain ⟨sg, t13, rfl, hl14⟩ := len_inv hl13
  obtain ⟨w, t14, rfl, hl15⟩ := len_inv hl14
  have hl := List.eq_nil_of_length_eq_zero hl15
  subst hl
  have p1 := p_get3 (by decide) (fOk_hd hp)
  have p2 := p_get3 (by decide) (fOk_hd (fOk_tl hp))
  simp only [List.map, xv, fev, fvl, gtI, Int.one_mul, Int.add_zero, Int.zero_add] at p1 p2
  have q := k_r5_bad1 (z := z) (n := n) (k := k) (zr := zr) (zm := zm) (o0 := o0) (o1 := o1) (o2 := o2) (o3 := o3) (kd := kd) (fr := fr) (to := to) (nu := nu) (sg := sg) (w := w) (q3 p1) p2
  refine ⟨[], rfl, fOk_cons (p_put3 rfl (by decide) ?_) fOk_nil⟩ <;> simp only [List.map, xv, fev, fvl, gtI, Int.one_mul, Int.add_zero, Int.zero_add, List.append_nil]
  exact q
def r_r5_bad3 : eRul := (15, [xP 69 [xv 0, xv 1, ([], 5), xv 2, xv 3, xv 4, xv 5, xv 6, xv 7, xv 8, ([], 0), xv 9, xv 10, xv 11, xv 12, xv 13, xv 14], (.inl [[(3, 3)]], [xv 9]), xP 58 [xv 12, ([], 0), ([], 12), ([], 0)]], 0, [xP 64 [xv 0, xv 1, ([(10, -1)], -1), ([], 2)]])
theorem r_r5_bad3_ok : ruOk r_r5_bad3 := by
  intro ρ hl0 hp
  obtain ⟨z, t0, rfl, hl1⟩ := len_inv hl0
  obtain ⟨n, t1, rfl, hl2⟩ := len_inv hl1
  obtain ⟨k, t2, rfl, hl3⟩ := len_inv hl2
  obtain ⟨zr, t3, rfl, hl4⟩ := len_inv hl3
  obtain ⟨zm, t4, rfl, hl5⟩ := len_inv hl4
  obtain ⟨o0, t5, rfl, hl6⟩ := len_inv hl5
  obtain ⟨o1, t6, rfl, hl7⟩ := len_inv hl6
  obtain ⟨o2, t7, rfl, hl8⟩ := len_inv hl7
  obtain ⟨o3, t8, rfl, hl9⟩ := len_inv hl8
  obtain ⟨kd, t9, rfl, hl10⟩ := len_inv hl9
  obtain ⟨fr, t10, rfl, hl11⟩ := len_inv hl10
  obtain ⟨to, t11, rfl, hl12⟩ := len_inv hl11
  obtain ⟨nu, t12, rfl, hl13⟩ := len_inv hl12
  obtain ⟨sg, t13, rfl, hl14⟩ := len_inv hl13
  obtain ⟨w, t14, rfl, hl15⟩ := len_inv hl14
  have hl := List.eq_nil_of_length_eq_zero hl15
  subst hl
  have p1 := p_get3 (by decide) (fOk_hd hp)
  have p2 := i_get (fOk_hd (fOk_tl hp))
  have p3 := p_get3 (by decide) (fOk_hd (fOk_tl (fOk_tl hp)))
  simp only [List.map, xv, fev, fvl, gtI, Int.one_mul, Int.add_zero, Int.zero_add] at p1 p2 p3
  have q := k_r5_bad3 (z := z) (n := n) (k := k) (zr := zr) (zm := zm) (o0 := o0) (o1 := o1) (o2 := o2) (o3 := o3) (kd := kd) (fr := fr) (to := to) (nu := nu) (sg := sg) (w := w) (q3 p1) p2 p3
  refine ⟨[], rfl, fOk_cons (p_put3 rfl (by decide) ?_) fOk_nil⟩ <;> simp only [List.map, xv, fev, fvl, gtI, Int.one_mul, Int.add_zero, Int.zero_add, List.append_nil]
  exact q
def r_r7_ok : eRul := (17, [xP 69 [xv 0, xv 1, ([], 7), xv 2, xv 3, xv 4, xv 5, xv 6, xv 7, xv 8, ([], 0), xv 9, xv 10, xv 11, xv 12, xv 13, xv 14], (.inl [[(3, 3)]], [xv 9]), (.inl [[(0, 20)]], [xv 12]), xP 2 [xv 15, xv 3, ([(16, 1)], 8), xv 12], xP 92 [xv 3, ([], 0), xv 16]], 0, [xP 67 [xv 0, xv 1, ([], 8), xv 11, xv 2, xv 15, xv 4, xv 5, xv 6, xv 7, xv 8, ([], 0)]])
theorem r_r7_ok_ok : ruOk r_r7_ok := by
  intro ρ hl0 hp
  obtain ⟨z, t0, rfl, hl1⟩ := len_inv hl0
  obtain ⟨n, t1, rfl, hl2⟩ := len_inv hl1
  obtain ⟨k, t2, rfl, hl3⟩ := len_inv hl2
  obtain ⟨zr, t3, rfl, hl4⟩ := len_inv hl3
  obtain ⟨zm, t4, rfl, hl5⟩ := len_inv hl4
  obtain ⟨o0, t5, rfl, hl6⟩ := len_inv hl5
  obtain ⟨o1, t6, rfl, hl7⟩ := len_inv hl6
  obtain ⟨o2, t7, rfl, hl8⟩ := len_inv hl7
  obtain ⟨o3, t8, rfl, hl9⟩ := len_inv hl8
  obtain ⟨kd, t9, rfl, hl10⟩ := len_inv hl9
  obtain ⟨fr, t10, rfl, hl11⟩ := len_inv hl10
  obtain ⟨to, t11, rfl, hl12⟩ := len_inv hl11
  obtain ⟨nu, t12, rfl, hl13⟩ := len_inv hl12
  obtain ⟨sg, t13, rfl, hl14⟩ := len_inv hl13
  obtain ⟨w, t14, rfl, hl15⟩ := len_inv hl14
  obtain ⟨zr2, t15, rfl, hl16⟩ := len_inv hl15
  obtain ⟨h, t16, rfl, hl17⟩ := len_inv hl16
  have hl := List.eq_nil_of_length_eq_zero hl17
  subst hl
  have p1 := p_get3 (by decide) (fOk_hd hp)
  have p2 := i_get (fOk_hd (fOk_tl hp))
  have p3 := i_get (fOk_hd (fOk_tl (fOk_tl hp)))
  have p4 := p_get (fOk_hd (fOk_tl (fOk_tl (fOk_tl hp))))
  have p5 := p_get3 (by decide) (fOk_hd (fOk_tl (fOk_tl (fOk_tl (fOk_tl hp)))))
  simp only [List.map, xv, fev, fvl, gtI, Int.one_mul, Int.add_zero, Int.zero_add, PR] at p1 p2 p3 p4 p5
  have q := k_r7_ok (z := z) (n := n) (k := k) (zr := zr) (zm := zm) (o0 := o0) (o1 := o1) (o2 := o2) (o3 := o3) (kd := kd) (fr := fr) (to := to) (nu := nu) (sg := sg) (w := w) (zr2 := zr2) (h := h) (q3 p1) p2 p3 p4 p5
  refine ⟨[], rfl, fOk_cons (p_put3 rfl (by decide) ?_) fOk_nil⟩ <;> simp only [List.map, xv, fev, fvl, gtI, Int.one_mul, Int.add_zero, Int.zero_add, List.append_nil]
  exact q
def r_r7_bad1 : eRul := (15, [xP 69 [xv 0, xv 1, ([], 7), xv 2, xv 3, xv 4, xv 5, xv 6, xv 7, xv 8, ([], 0), xv 9, xv 10, xv 11, xv 12, xv 13, xv 14], xP 57 [xv 9]], 0, [xP 64 [xv 0, xv 1, ([(10, -1)], -1), ([], 1)]])
theorem r_r7_bad1_ok : ruOk r_r7_bad1 := by
  intro ρ hl0 hp
  obtain ⟨z, t0, rfl, hl1⟩ := len_inv hl0
  obtain ⟨n, t1, rfl, hl2⟩ := len_inv hl1
  obtain ⟨k, t2, rfl, hl3⟩ := len_inv hl2
  obtain ⟨zr, t3, rfl, hl4⟩ := len_inv hl3
  obtain ⟨zm, t4, rfl, hl5⟩ := len_inv hl4
  obtain ⟨o0, t5, rfl, hl6⟩ := len_inv hl5
  obtain ⟨o1, t6, rfl, hl7⟩ := len_inv hl6
  obtain ⟨o2, t7, rfl, hl8⟩ := len_inv hl7
  obtain ⟨o3, t8, rfl, hl9⟩ := len_inv hl8
  obtain ⟨kd, t9, rfl, hl10⟩ := len_inv hl9
  obtain ⟨fr, t10, rfl, hl11⟩ := len_inv hl10
  obtain ⟨to, t11, rfl, hl12⟩ := len_inv hl11
  obtain ⟨nu, t12, rfl, hl13⟩ := len_inv hl12
  obtain ⟨sg, t13, rfl, hl14⟩ := len_inv hl13
  obtain ⟨w, t14, rfl, hl15⟩ := len_inv hl14
  have hl := List.eq_nil_of_length_eq_zero hl15
  subst hl
  have p1 := p_get3 (by decide) (fOk_hd hp)
  have p2 := p_get3 (by decide) (fOk_hd (fOk_tl hp))
  simp only [List.map, xv, fev, fvl, gtI, Int.one_mul, Int.add_zero, Int.zero_add] at p1 p2
  have q := k_r7_bad1 (z := z) (n := n) (k := k) (zr := zr) (zm := zm) (o0 := o0) (o1 := o1) (o2 := o2) (o3 := o3) (kd := kd) (fr := fr) (to := to) (nu := nu) (sg := sg) (w := w) (q3 p1) p2
  refine ⟨[], rfl, fOk_cons (p_put3 rfl (by decide) ?_) fOk_nil⟩ <;> simp only [List.map, xv, fev, fvl, gtI, Int.one_mul, Int.add_zero, Int.zero_add, List.append_nil]
  exact q
def r_r7_bad3 : eRul := (15, [xP 69 [xv 0, xv 1, ([], 7), xv 2, xv 3, xv 4, xv 5, xv 6, xv 7, xv 8, ([], 0), xv 9, xv 10, xv 11, xv 12, xv 13, xv 14], (.inl [[(3, 3)]], [xv 9]), xP 58 [xv 12, ([], 0), ([], 20), ([], 0)]], 0, [xP 64 [xv 0, xv 1, ([(10, -1)], -1), ([], 2)]])
theorem r_r7_bad3_ok : ruOk r_r7_bad3 := by
  intro ρ hl0 hp
  obtain ⟨z, t0, rfl, hl1⟩ := len_inv hl0
  obtain ⟨n, t1, rfl, hl2⟩ := len_inv hl1
  obtain ⟨k, t2, rfl, hl3⟩ := len_inv hl2
  obtain ⟨zr, t3, rfl, hl4⟩ := len_inv hl3
  obtain ⟨zm, t4, rfl, hl5⟩ := len_inv hl4
  obtain ⟨o0, t5, rfl, hl6⟩ := len_inv hl5
  obtain ⟨o1, t6, rfl, hl7⟩ := len_inv hl6
  obtain ⟨o2, t7, rfl, hl8⟩ := len_inv hl7
  obtain ⟨o3, t8, rfl, hl9⟩ := len_inv hl8
  obtain ⟨kd, t9, rfl, hl10⟩ := len_inv hl9
  obtain ⟨fr, t10, rfl, hl11⟩ := len_inv hl10
  obtain ⟨to, t11, rfl, hl12⟩ := len_inv hl11
  obtain ⟨nu, t12, rfl, hl13⟩ := len_inv hl12
  obtain ⟨sg, t13, rfl, hl14⟩ := len_inv hl13
  obtain ⟨w, t14, rfl, hl15⟩ := len_inv hl14
  have hl := List.eq_nil_of_length_eq_zero hl15
  subst hl
  have p1 := p_get3 (by decide) (fOk_hd hp)
  have p2 := i_get (fOk_hd (fOk_tl hp))
  have p3 := p_get3 (by decide) (fOk_hd (fOk_tl (fOk_tl hp)))
  simp only [List.map, xv, fev, fvl, gtI, Int.one_mul, Int.add_zero, Int.zero_add] at p1 p2 p3
  have q := k_r7_bad3 (z := z) (n := n) (k := k) (zr := zr) (zm := zm) (o0 := o0) (o1 := o1) (o2 := o2) (o3 := o3) (kd := kd) (fr := fr) (to := to) (nu := nu) (sg := sg) (w := w) (q3 p1) p2 p3
  refine ⟨[], rfl, fOk_cons (p_put3 rfl (by decide) ?_) fOk_nil⟩ <;> simp only [List.map, xv, fev, fvl, gtI, Int.one_mul, Int.add_zero, Int.zero_add, List.append_nil]
  exact q
def r_r8_ok : eRul := (19, [xP 69 [xv 0, xv 1, ([], 8), xv 2, xv 3, xv 4, xv 5, xv 6, xv 7, xv 8, ([], 0), xv 9, xv 10, xv 11, xv 12, xv 13, xv 14], (.inl [[(3, 3)]], [xv 9]), (.inl [[(0, 20)]], [xv 12]), xP 2 [xv 15, xv 3, ([(16, 1)], 13), xv 12], xP 92 [xv 3, ([], 0), xv 16], xP 92 [xv 15, ([], 0), xv 17], xP 2 [xv 18, xv 15, ([], 0), ([(17, 1)], 1)]], 0, [xP 67 [xv 0, xv 1, ([], 30), xv 11, xv 2, xv 18, xv 4, xv 5, xv 6, xv 7, xv 8, ([], 0)]])
theorem r_r8_ok_ok : ruOk r_r8_ok := by
  intro ρ hl0 hp
  obtain ⟨z, t0, rfl, hl1⟩ := len_inv hl0
  obtain ⟨n, t1, rfl, hl2⟩ := len_inv hl1
  obtain ⟨k, t2, rfl, hl3⟩ := len_inv hl2
  obtain ⟨zr, t3, rfl, hl4⟩ := len_inv hl3
  obtain ⟨zm, t4, rfl, hl5⟩ := len_inv hl4
  obtain ⟨o0, t5, rfl, hl6⟩ := len_inv hl5
  obtain ⟨o1, t6, rfl, hl7⟩ := len_inv hl6
  obtain ⟨o2, t7, rfl, hl8⟩ := len_inv hl7
  obtain ⟨o3, t8, rfl, hl9⟩ := len_inv hl8
  obtain ⟨kd, t9, rfl, hl10⟩ := len_inv hl9
  obtain ⟨fr, t10, rfl, hl11⟩ := len_inv hl10
  obtain ⟨to, t11, rfl, hl12⟩ := len_inv hl11
  obtain ⟨nu, t12, rfl, hl13⟩ := len_inv hl12
  obtain ⟨sg, t13, rfl, hl14⟩ := len_inv hl13
  obtain ⟨w, t14, rfl, hl15⟩ := len_inv hl14
  obtain ⟨zr2, t15, rfl, hl16⟩ := len_inv hl15
  obtain ⟨h, t16, rfl, hl17⟩ := len_inv hl16
  obtain ⟨c, t17, rfl, hl18⟩ := len_inv hl17
  obtain ⟨zr4, t18, rfl, hl19⟩ := len_inv hl18
  have hl := List.eq_nil_of_length_eq_zero hl19
  subst hl
  have p1 := p_get3 (by decide) (fOk_hd hp)
  have p2 := i_get (fOk_hd (fOk_tl hp))
  have p3 := i_get (fOk_hd (fOk_tl (fOk_tl hp)))
  have p4 := p_get (fOk_hd (fOk_tl (fOk_tl (fOk_tl hp))))
  have p5 := p_get3 (by decide) (fOk_hd (fOk_tl (fOk_tl (fOk_tl (fOk_tl hp)))))
  have p6 := p_get3 (by decide) (fOk_hd (fOk_tl (fOk_tl (fOk_tl (fOk_tl (fOk_tl hp))))))
  have p7 := p_get (fOk_hd (fOk_tl (fOk_tl (fOk_tl (fOk_tl (fOk_tl (fOk_tl hp)))))))
  simp only [List.map, xv, fev, fvl, gtI, Int.one_mul, Int.add_zero, Int.zero_add, PR] at p1 p2 p3 p4 p5 p6 p7
  have q := k_r8_ok (z := z) (n := n) (k := k) (zr := zr) (zm := zm) (o0 := o0) (o1 := o1) (o2 := o2) (o3 := o3) (kd := kd) (fr := fr) (to := to) (nu := nu) (sg := sg) (w := w) (zr2 := zr2) (h := h) (c := c) (zr4 := zr4) (q3 p1) p2 p3 p4 p5 p6 p7
  refine ⟨[], rfl, fOk_cons (p_put3 rfl (by decide) ?_) fOk_nil⟩ <;> simp only [List.map, xv, fev, fvl, gtI, Int.one_mul, Int.add_zero, Int.zero_add, List.append_nil]
  exact q
def r_r8_bad1 : eRul := (15, [xP 69 [xv 0, xv 1, ([], 8), xv 2, xv 3, xv 4, xv 5, xv 6, xv 7, xv 8, ([], 0), xv 9, xv 10, xv 11, xv 12, xv 13, xv 14], xP 57 [xv 9]], 0, [xP 64 [xv 0, xv 1, ([(10, -1)], -1), ([], 1)]])
theorem r_r8_bad1_ok : ruOk r_r8_bad1 := by
  intro ρ hl0 hp
  obtain ⟨z, t0, rfl, hl1⟩ := len_inv hl0
  obtain ⟨n, t1, rfl, hl2⟩ := len_inv hl1
  obtain ⟨k, t2, rfl, hl3⟩ := len_inv hl2
  obtain ⟨zr, t3, rfl, hl4⟩ := len_inv hl3
  obtain ⟨zm, t4, rfl, hl5⟩ := len_inv hl4
  obtain ⟨o0, t5, rfl, hl6⟩ := len_inv hl5
  obtain ⟨o1, t6, rfl, hl7⟩ := len_inv hl6
  obtain ⟨o2, t7, rfl, hl8⟩ := len_inv hl7
  obtain ⟨o3, t8, rfl, hl9⟩ := len_inv hl8
  obtain ⟨kd, t9, rfl, hl10⟩ := len_inv hl9
  obtain ⟨fr, t10, rfl, hl11⟩ := len_inv hl10
  obtain ⟨to, t11, rfl, hl12⟩ := len_inv hl11
  obtain ⟨nu, t12, rfl, hl13⟩ := len_inv hl12
  obtain ⟨sg, t13, rfl, hl14⟩ := len_inv hl13
  obtain ⟨w, t14, rfl, hl15⟩ := len_inv hl14
  have hl := List.eq_nil_of_length_eq_zero hl15
  subst hl
  have p1 := p_get3 (by decide) (fOk_hd hp)
  have p2 := p_get3 (by decide) (fOk_hd (fOk_tl hp))
  simp only [List.map, xv, fev, fvl, gtI, Int.one_mul, Int.add_zero, Int.zero_add] at p1 p2
  have q := k_r8_bad1 (z := z) (n := n) (k := k) (zr := zr) (zm := zm) (o0 := o0) (o1 := o1) (o2 := o2) (o3 := o3) (kd := kd) (fr := fr) (to := to) (nu := nu) (sg := sg) (w := w) (q3 p1) p2
  refine ⟨[], rfl, fOk_cons (p_put3 rfl (by decide) ?_) fOk_nil⟩ <;> simp only [List.map, xv, fev, fvl, gtI, Int.one_mul, Int.add_zero, Int.zero_add, List.append_nil]
  exact q
def r_r8_bad3 : eRul := (15, [xP 69 [xv 0, xv 1, ([], 8), xv 2, xv 3, xv 4, xv 5, xv 6, xv 7, xv 8, ([], 0), xv 9, xv 10, xv 11, xv 12, xv 13, xv 14], (.inl [[(3, 3)]], [xv 9]), xP 58 [xv 12, ([], 0), ([], 20), ([], 0)]], 0, [xP 64 [xv 0, xv 1, ([(10, -1)], -1), ([], 2)]])
theorem r_r8_bad3_ok : ruOk r_r8_bad3 := by
  intro ρ hl0 hp
  obtain ⟨z, t0, rfl, hl1⟩ := len_inv hl0
  obtain ⟨n, t1, rfl, hl2⟩ := len_inv hl1
  obtain ⟨k, t2, rfl, hl3⟩ := len_inv hl2
  obtain ⟨zr, t3, rfl, hl4⟩ := len_inv hl3
  obtain ⟨zm, t4, rfl, hl5⟩ := len_inv hl4
  obtain ⟨o0, t5, rfl, hl6⟩ := len_inv hl5
  obtain ⟨o1, t6, rfl, hl7⟩ := len_inv hl6
  obtain ⟨o2, t7, rfl, hl8⟩ := len_inv hl7
  obtain ⟨o3, t8, rfl, hl9⟩ := len_inv hl8
  obtain ⟨kd, t9, rfl, hl10⟩ := len_inv hl9
  obtain ⟨fr, t10, rfl, hl11⟩ := len_inv hl10
  obtain ⟨to, t11, rfl, hl12⟩ := len_inv hl11
  obtain ⟨nu, t12, rfl, hl13⟩ := len_inv hl12
  obtain ⟨sg, t13, rfl, hl14⟩ := len_inv hl13
  obtain ⟨w, t14, rfl, hl15⟩ := len_inv hl14
  have hl := List.eq_nil_of_length_eq_zero hl15
  subst hl
  have p1 := p_get3 (by decide) (fOk_hd hp)
  have p2 := i_get (fOk_hd (fOk_tl hp))
  have p3 := p_get3 (by decide) (fOk_hd (fOk_tl (fOk_tl hp)))
  simp only [List.map, xv, fev, fvl, gtI, Int.one_mul, Int.add_zero, Int.zero_add] at p1 p2 p3
  have q := k_r8_bad3 (z := z) (n := n) (k := k) (zr := zr) (zm := zm) (o0 := o0) (o1 := o1) (o2 := o2) (o3 := o3) (kd := kd) (fr := fr) (to := to) (nu := nu) (sg := sg) (w := w) (q3 p1) p2 p3
  refine ⟨[], rfl, fOk_cons (p_put3 rfl (by decide) ?_) fOk_nil⟩ <;> simp only [List.map, xv, fev, fvl, gtI, Int.one_mul, Int.add_zero, Int.zero_add, List.append_nil]
  exact q
def r_r11_ok : eRul := (17, [xP 69 [xv 0, xv 1, ([], 11), xv 2, xv 3, xv 4, xv 5, xv 6, xv 7, xv 8, ([], 0), xv 9, xv 10, xv 11, xv 12, xv 13, xv 14], (.inl [[(3, 3)]], [xv 9]), (.inl [[(0, 99)]], [xv 12]), xP 2 [xv 15, xv 3, ([(16, 1)], 26), xv 12], xP 92 [xv 3, ([], 1), xv 16]], 0, [xP 67 [xv 0, xv 1, ([], 12), xv 11, xv 2, xv 15, xv 4, xv 5, xv 6, xv 7, xv 8, ([], 0)]])
theorem r_r11_ok_ok : ruOk r_r11_ok := by
  intro ρ hl0 hp
  obtain ⟨z, t0, rfl, hl1⟩ := len_inv hl0
  obtain ⟨n, t1, rfl, hl2⟩ := len_inv hl1
  obtain ⟨k, t2, rfl, hl3⟩ := len_inv hl2
  obtain ⟨zr, t3, rfl, hl4⟩ := len_inv hl3
  obtain ⟨zm, t4, rfl, hl5⟩ := len_inv hl4
  obtain ⟨o0, t5, rfl, hl6⟩ := len_inv hl5
  obtain ⟨o1, t6, rfl, hl7⟩ := len_inv hl6
  obtain ⟨o2, t7, rfl, hl8⟩ := len_inv hl7
  obtain ⟨o3, t8, rfl, hl9⟩ := len_inv hl8
  obtain ⟨kd, t9, rfl, hl10⟩ := len_inv hl9
  obtain ⟨fr, t10, rfl, hl11⟩ := len_inv hl10
  obtain ⟨to, t11, rfl, hl12⟩ := len_inv hl11
  obtain ⟨nu, t12, rfl, hl13⟩ := len_inv hl12
  obtain ⟨sg, t13, rfl, hl14⟩ := len_inv hl13
  obtain ⟨w, t14, rfl, hl15⟩ := len_inv hl14
  obtain ⟨zr2, t15, rfl, hl16⟩ := len_inv hl15
  obtain ⟨h, t16, rfl, hl17⟩ := len_inv hl16
  have hl := List.eq_nil_of_length_eq_zero hl17
  subst hl
  have p1 := p_get3 (by decide) (fOk_hd hp)
  have p2 := i_get (fOk_hd (fOk_tl hp))
  have p3 := i_get (fOk_hd (fOk_tl (fOk_tl hp)))
  have p4 := p_get (fOk_hd (fOk_tl (fOk_tl (fOk_tl hp))))
  have p5 := p_get3 (by decide) (fOk_hd (fOk_tl (fOk_tl (fOk_tl (fOk_tl hp)))))
  simp only [List.map, xv, fev, fvl, gtI, Int.one_mul, Int.add_zero, Int.zero_add, PR] at p1 p2 p3 p4 p5
  have q := k_r11_ok (z := z) (n := n) (k := k) (zr := zr) (zm := zm) (o0 := o0) (o1 := o1) (o2 := o2) (o3 := o3) (kd := kd) (fr := fr) (to := to) (nu := nu) (sg := sg) (w := w) (zr2 := zr2) (h := h) (q3 p1) p2 p3 p4 p5
  refine ⟨[], rfl, fOk_cons (p_put3 rfl (by decide) ?_) fOk_nil⟩ <;> simp only [List.map, xv, fev, fvl, gtI, Int.one_mul, Int.add_zero, Int.zero_add, List.append_nil]
  exact q
def r_r11_bad1 : eRul := (15, [xP 69 [xv 0, xv 1, ([], 11), xv 2, xv 3, xv 4, xv 5, xv 6, xv 7, xv 8, ([], 0), xv 9, xv 10, xv 11, xv 12, xv 13, xv 14], xP 57 [xv 9]], 0, [xP 64 [xv 0, xv 1, ([(10, -1)], -1), ([], 1)]])
theorem r_r11_bad1_ok : ruOk r_r11_bad1 := by
  intro ρ hl0 hp
  obtain ⟨z, t0, rfl, hl1⟩ := len_inv hl0
  obtain ⟨n, t1, rfl, hl2⟩ := len_inv hl1
  obtain ⟨k, t2, rfl, hl3⟩ := len_inv hl2
  obtain ⟨zr, t3, rfl, hl4⟩ := len_inv hl3
  obtain ⟨zm, t4, rfl, hl5⟩ := len_inv hl4
  obtain ⟨o0, t5, rfl, hl6⟩ := len_inv hl5
  obtain ⟨o1, t6, rfl, hl7⟩ := len_inv hl6
  obtain ⟨o2, t7, rfl, hl8⟩ := len_inv hl7
  obtain ⟨o3, t8, rfl, hl9⟩ := len_inv hl8
  obtain ⟨kd, t9, rfl, hl10⟩ := len_inv hl9
  obtain ⟨fr, t10, rfl, hl11⟩ := len_inv hl10
  obtain ⟨to, t11, rfl, hl12⟩ := len_inv hl11
  obtain ⟨nu, t12, rfl, hl13⟩ := len_inv hl12
  obtain ⟨sg, t13, rfl, hl14⟩ := len_inv hl13
  obtain ⟨w, t14, rfl, hl15⟩ := len_inv hl14
  have hl := List.eq_nil_of_length_eq_zero hl15
  subst hl
  have p1 := p_get3 (by decide) (fOk_hd hp)
  have p2 := p_get3 (by decide) (fOk_hd (fOk_tl hp))
  simp only [List.map, xv, fev, fvl, gtI, Int.one_mul, Int.add_zero, Int.zero_add] at p1 p2
  have q := k_r11_bad1 (z := z) (n := n) (k := k) (zr := zr) (zm := zm) (o0 := o0) (o1 := o1) (o2 := o2) (o3 := o3) (kd := kd) (fr := fr) (to := to) (nu := nu) (sg := sg) (w := w) (q3 p1) p2
  refine ⟨[], rfl, fOk_cons (p_put3 rfl (by decide) ?_) fOk_nil⟩ <;> simp only [List.map, xv, fev, fvl, gtI, Int.one_mul, Int.add_zero, Int.zero_add, List.append_nil]
  exact q
def r_r11_bad3 : eRul := (15, [xP 69 [xv 0, xv 1, ([], 11), xv 2, xv 3, xv 4, xv 5, xv 6, xv 7, xv 8, ([], 0), xv 9, xv 10, xv 11, xv 12, xv 13, xv 14], (.inl [[(3, 3)]], [xv 9]), xP 58 [xv 12, ([], 0), ([], 99), ([], 0)]], 0, [xP 64 [xv 0, xv 1, ([(10, -1)], -1), ([], 2)]])
theorem r_r11_bad3_ok : ruOk r_r11_bad3 := by
  intro ρ hl0 hp
  obtain ⟨z, t0, rfl, hl1⟩ := len_inv hl0
  obtain ⟨n, t1, rfl, hl2⟩ := len_inv hl1
  obtain ⟨k, t2, rfl, hl3⟩ := len_inv hl2
  obtain ⟨zr, t3, rfl, hl4⟩ := len_inv hl3
  obtain ⟨zm, t4, rfl, hl5⟩ := len_inv hl4
  obtain ⟨o0, t5, rfl, hl6⟩ := len_inv hl5
  obtain ⟨o1, t6, rfl, hl7⟩ := len_inv hl6
  obtain ⟨o2, t7, rfl, hl8⟩ := len_inv hl7
  obtain ⟨o3, t8, rfl, hl9⟩ := len_inv hl8
  obtain ⟨kd, t9, rfl, hl10⟩ := len_inv hl9
  obtain ⟨fr, t10, rfl, hl11⟩ := len_inv hl10
  obtain ⟨to, t11, rfl, hl12⟩ := len_inv hl11
  obtain ⟨nu, t12, rfl, hl13⟩ := len_inv hl12
  obtain ⟨sg, t13, rfl, hl14⟩ := len_inv hl13
  obtain ⟨w, t14, rfl, hl15⟩ := len_inv hl14
  have hl := List.eq_nil_of_length_eq_zero hl15
  subst hl
  have p1 := p_get3 (by decide) (fOk_hd hp)
  have p2 := i_get (fOk_hd (fOk_tl hp))
  have p3 := p_get3 (by decide) (fOk_hd (fOk_tl (fOk_tl hp)))
  simp only [List.map, xv, fev, fvl, gtI, Int.one_mul, Int.add_zero, Int.zero_add] at p1 p2 p3
  have q := k_r11_bad3 (z := z) (n := n) (k := k) (zr := zr) (zm := zm) (o0 := o0) (o1 := o1) (o2 := o2) (o3 := o3) (kd := kd) (fr := fr) (to := to) (nu := nu) (sg := sg) (w := w) (q3 p1) p2 p3
  refine ⟨[], rfl, fOk_cons (p_put3 rfl (by decide) ?_) fOk_nil⟩ <;> simp only [List.map, xv, fev, fvl, gtI, Int.one_mul, Int.add_zero, Int.zero_add, List.append_nil]
  exact q
def r_r12_ok : eRul := (19, [xP 69 [xv 0, xv 1, ([], 12), xv 2, xv 3, xv 4, xv 5, xv 6, xv 7, xv 8, ([], 0), xv 9, xv 10, xv 11, xv 12, xv 13, xv 14], (.inl [[(3, 3)]], [xv 9]), (.inl [[(1, 30)]], [xv 12]), xP 2 [xv 15, xv 3, ([(16, 1)], 34), xv 12], xP 92 [xv 3, ([], 1), xv 16], xP 92 [xv 15, ([], 1), xv 17], xP 2 [xv 18, xv 15, ([], 1), ([(17, 1)], 1)]], 0, [xP 67 [xv 0, xv 1, ([], 30), xv 11, xv 2, xv 18, xv 4, xv 5, xv 6, xv 7, xv 8, ([], 0)]])
theorem r_r12_ok_ok : ruOk r_r12_ok := by
  intro ρ hl0 hp
  obtain ⟨z, t0, rfl, hl1⟩ := len_inv hl0
  obtain ⟨n, t1, rfl, hl2⟩ := len_inv hl1
  obtain ⟨k, t2, rfl, hl3⟩ := len_inv hl2
  obtain ⟨zr, t3, rfl, hl4⟩ := len_inv hl3
  obtain ⟨zm, t4, rfl, hl5⟩ := len_inv hl4
  obtain ⟨o0, t5, rfl, hl6⟩ := len_inv hl5
  obtain ⟨o1, t6, rfl, hl7⟩ := len_inv hl6
  obtain ⟨o2, t7, rfl, hl8⟩ := len_inv hl7
  obtain ⟨o3, t8, rfl, hl9⟩ := len_inv hl8
  obtain ⟨kd, t9, rfl, hl10⟩ := len_inv hl9
  obtain ⟨fr, t10, rfl, hl11⟩ := len_inv hl10
  obtain ⟨to, t11, rfl, hl12⟩ := len_inv hl11
  obtain ⟨nu, t12, rfl, hl13⟩ := len_inv hl12
  obtain ⟨sg, t13, rfl, hl14⟩ := len_inv hl13
  obtain ⟨w, t14, rfl, hl15⟩ := len_inv hl14
  obtain ⟨zr2, t15, rfl, hl16⟩ := len_inv hl15
  obtain ⟨h, t16, rfl, hl17⟩ := len_inv hl16
  obtain ⟨c, t17, rfl, hl18⟩ := len_inv hl17
  obtain ⟨zr4, t18, rfl, hl19⟩ := len_inv hl18
  have hl := List.eq_nil_of_length_eq_zero hl19
  subst hl
  have p1 := p_get3 (by decide) (fOk_hd hp)
  have p2 := i_get (fOk_hd (fOk_tl hp))
  have p3 := i_get (fOk_hd (fOk_tl (fOk_tl hp)))
  have p4 := p_get (fOk_hd (fOk_tl (fOk_tl (fOk_tl hp))))
  have p5 := p_get3 (by decide) (fOk_hd (fOk_tl (fOk_tl (fOk_tl (fOk_tl hp)))))
  have p6 := p_get3 (by decide) (fOk_hd (fOk_tl (fOk_tl (fOk_tl (fOk_tl (fOk_tl hp))))))
  have p7 := p_get (fOk_hd (fOk_tl (fOk_tl (fOk_tl (fOk_tl (fOk_tl (fOk_tl hp)))))))
  simp only [List.map, xv, fev, fvl, gtI, Int.one_mul, Int.add_zero, Int.zero_add, PR] at p1 p2 p3 p4 p5 p6 p7
  have q := k_r12_ok (z := z) (n := n) (k := k) (zr := zr) (zm := zm) (o0 := o0) (o1 := o1) (o2 := o2) (o3 := o3) (kd := kd) (fr := fr) (to := to) (nu := nu) (sg := sg) (w := w) (zr2 := zr2) (h := h) (c := c) (zr4 := zr4) (q3 p1) p2 p3 p4 p5 p6 p7
  refine ⟨[], rfl, fOk_cons (p_put3 rfl (by decide) ?_) fOk_nil⟩ <;> simp only [List.map, xv, fev, fvl, gtI, Int.one_mul, Int.add_zero, Int.zero_add, List.append_nil]
  exact q
def r_r12_bad1 : eRul := (15, [xP 69 [xv 0, xv 1, ([], 12), xv 2, xv 3, xv 4, xv 5, xv 6, xv 7, xv 8, ([], 0), xv 9, xv 10, xv 11, xv 12, xv 13, xv 14], xP 57 [xv 9]], 0, [xP 64 [xv 0, xv 1, ([(10, -1)], -1), ([], 1)]])
theorem r_r12_bad1_ok : ruOk r_r12_bad1 := by
  intro ρ hl0 hp
  obtain ⟨z, t0, rfl, hl1⟩ := len_inv hl0
  obtain ⟨n, t1, rfl, hl2⟩ := len_inv hl1
  obtain ⟨k, t2, rfl, hl3⟩ := len_inv hl2
  obtain ⟨zr, t3, rfl, hl4⟩ := len_inv hl3
  obtain ⟨zm, t4, rfl, hl5⟩ := len_inv hl4
  obtain ⟨o0, t5, rfl, hl6⟩ := len_inv hl5
  obtain ⟨o1, t6, rfl, hl7⟩ := len_inv hl6
  obtain ⟨o2, t7, rfl, hl8⟩ := len_inv hl7
  obtain ⟨o3, t8, rfl, hl9⟩ := len_inv hl8
  obtain ⟨kd, t9, rfl, hl10⟩ := len_inv hl9
  obtain ⟨fr, t10, rfl, hl11⟩ := len_inv hl10
  obtain ⟨to, t11, rfl, hl12⟩ := len_inv hl11
  obtain ⟨nu, t12, rfl, hl13⟩ := len_inv hl12
  obtain ⟨sg, t13, rfl, hl14⟩ := len_inv hl13
  obtain ⟨w, t14, rfl, hl15⟩ := len_inv hl14
  have hl := List.eq_nil_of_length_eq_zero hl15
  subst hl
  have p1 := p_get3 (by decide) (fOk_hd hp)
  have p2 := p_get3 (by decide) (fOk_hd (fOk_tl hp))
  simp only [List.map, xv, fev, fvl, gtI, Int.one_mul, Int.add_zero, Int.zero_add] at p1 p2
  have q := k_r12_bad1 (z := z) (n := n) (k := k) (zr := zr) (zm := zm) (o0 := o0) (o1 := o1) (o2 := o2) (o3 := o3) (kd := kd) (fr := fr) (to := to) (nu := nu) (sg := sg) (w := w) (q3 p1) p2
  refine ⟨[], rfl, fOk_cons (p_put3 rfl (by decide) ?_) fOk_nil⟩ <;> simp only [List.map, xv, fev, fvl, gtI, Int.one_mul, Int.add_zero, Int.zero_add, List.append_nil]
  exact q
def r_r12_bad3 : eRul := (15, [xP 69 [xv 0, xv 1, ([], 12), xv 2, xv 3, xv 4, xv 5, xv 6, xv 7, xv 8, ([], 0), xv 9, xv 10, xv 11, xv 12, xv 13, xv 14], (.inl [[(3, 3)]], [xv 9]), xP 58 [xv 12, ([], 1), ([], 30), ([], 0)]], 0, [xP 64 [xv 0, xv 1, ([(10, -1)], -1), ([], 2)]])
theorem r_r12_bad3_ok : ruOk r_r12_bad3 := by
  intro ρ hl0 hp
  obtain ⟨z, t0, rfl, hl1⟩ := len_inv hl0
  obtain ⟨n, t1, rfl, hl2⟩ := len_inv hl1
  obtain ⟨k, t2, rfl, hl3⟩ := len_inv hl2
  obtain ⟨zr, t3, rfl, hl4⟩ := len_inv hl3
  obtain ⟨zm, t4, rfl, hl5⟩ := len_inv hl4
  obtain ⟨o0, t5, rfl, hl6⟩ := len_inv hl5
  obtain ⟨o1, t6, rfl, hl7⟩ := len_inv hl6
  obtain ⟨o2, t7, rfl, hl8⟩ := len_inv hl7
  obtain ⟨o3, t8, rfl, hl9⟩ := len_inv hl8
  obtain ⟨kd, t9, rfl, hl10⟩ := len_inv hl9
  obtain ⟨fr, t10, rfl, hl11⟩ := len_inv hl10
  obtain ⟨to, t11, rfl, hl12⟩ := len_inv hl11
  obtain ⟨nu, t12, rfl, hl13⟩ := len_inv hl12
  obtain ⟨sg, t13, rfl, hl14⟩ := len_inv hl13
  obtain ⟨w, t14, rfl, hl15⟩ := len_inv hl14
  have hl := List.eq_nil_of_length_eq_zero hl15
  subst hl
  have p1 := p_get3 (by decide) (fOk_hd hp)
  have p2 := i_get (fOk_hd (fOk_tl hp))
  have p3 := p_get3 (by decide) (fOk_hd (fOk_tl (fOk_tl hp)))
  simp only [List.map, xv, fev, fvl, gtI, Int.one_mul, Int.add_zero, Int.zero_add] at p1 p2 p3
  have q := k_r12_bad3 (z := z) (n := n) (k := k) (zr := zr) (zm := zm) (o0 := o0) (o1 := o1) (o2 := o2) (o3 := o3) (kd := kd) (fr := fr) (to := to) (nu := nu) (sg := sg) (w := w) (q3 p1) p2 p3
  refine ⟨[], rfl, fOk_cons (p_put3 rfl (by decide) ?_) fOk_nil⟩ <;> simp only [List.map, xv, fev, fvl, gtI, Int.one_mul, Int.add_zero, Int.zero_add, List.append_nil]
  exact q
def r_r14_ok : eRul := (17, [xP 69 [xv 0, xv 1, ([], 14), xv 2, xv 3, xv 4, xv 5, xv 6, xv 7, xv 8, ([], 0), xv 9, xv 10, xv 11, xv 12, xv 13, xv 14], (.inl [[(3, 3)]], [xv 9]), (.inl [[(0, 99)]], [xv 12]), xP 2 [xv 15, xv 3, ([(16, 1)], 42), xv 12], xP 92 [xv 3, ([], 2), xv 16]], 0, [xP 67 [xv 0, xv 1, ([], 15), xv 11, xv 2, xv 15, xv 4, xv 5, xv 6, xv 7, xv 8, ([], 0)]])
theorem r_r14_ok_ok : ruOk r_r14_ok := by
  intro ρ hl0 hp
  obtain ⟨z, t0, rfl, hl1⟩ := len_inv hl0
  obtain ⟨n, t1, rfl, hl2⟩ := len_inv hl1
  obtain ⟨k, t2, rfl, hl3⟩ := len_inv hl2
  obtain ⟨zr, t3, rfl, hl4⟩ := len_inv hl3
  obtain ⟨zm, t4, rfl, hl5⟩ := len_inv hl4
  obtain ⟨o0, t5, rfl, hl6⟩ := len_inv hl5
  obtain ⟨o1, t6, rfl, hl7⟩ := len_inv hl6
  obtain ⟨o2, t7, rfl, hl8⟩ := len_inv hl7
  obtain ⟨o3, t8, rfl, hl9⟩ := len_inv hl8
  obtain ⟨kd, t9, rfl, hl10⟩ := len_inv hl9
  obtain ⟨fr, t10, rfl, hl11⟩ := len_inv hl10
  obtain ⟨to, t11, rfl, hl12⟩ := len_inv hl11
  obtain ⟨nu, t12, rfl, hl13⟩ := len_inv hl12
  obtain ⟨sg, t13, rfl, hl14⟩ := len_inv hl13
  obtain ⟨w, t14, rfl, hl15⟩ := len_inv hl14
  obtain ⟨zr2, t15, rfl, hl16⟩ := len_inv hl15
  obtain ⟨h, t16, rfl, hl17⟩ := len_inv hl16
  have hl := List.eq_nil_of_length_eq_zero hl17
  subst hl
  have p1 := p_get3 (by decide) (fOk_hd hp)
  have p2 := i_get (fOk_hd (fOk_tl hp))
  have p3 := i_get (fOk_hd (fOk_tl (fOk_tl hp)))
  have p4 := p_get (fOk_hd (fOk_tl (fOk_tl (fOk_tl hp))))
  have p5 := p_get3 (by decide) (fOk_hd (fOk_tl (fOk_tl (fOk_tl (fOk_tl hp)))))
  simp only [List.map, xv, fev, fvl, gtI, Int.one_mul, Int.add_zero, Int.zero_add, PR] at p1 p2 p3 p4 p5
  have q := k_r14_ok (z := z) (n := n) (k := k) (zr := zr) (zm := zm) (o0 := o0) (o1 := o1) (o2 := o2) (o3 := o3) (kd := kd) (fr := fr) (to := to) (nu := nu) (sg := sg) (w := w) (zr2 := zr2) (h := h) (q3 p1) p2 p3 p4 p5
  refine ⟨[], rfl, fOk_cons (p_put3 rfl (by decide) ?_) fOk_nil⟩ <;> simp only [List.map, xv, fev, fvl, gtI, Int.one_mul, Int.add_zero, Int.zero_add, List.append_nil]
  exact q
def r_r14_bad1 : eRul := (15, [xP 69 [xv 0, xv 1, ([], 14), xv 2, xv 3, xv 4, xv 5, xv 6, xv 7, xv 8, ([], 0), xv 9, xv 10, xv 11, xv 12, xv 13, xv 14], xP 57 [xv 9]], 0, [xP 64 [xv 0, xv 1, ([(10, -1)], -1), ([], 1)]])
theorem r_r14_bad1_ok : ruOk r_r14_bad1 := by
  intro ρ hl0 hp
  obtain ⟨z, t0, rfl, hl1⟩ := len_inv hl0
  obtain ⟨n, t1, rfl, hl2⟩ := len_inv hl1
  obtain ⟨k, t2, rfl, hl3⟩ := len_inv hl2
  obtain ⟨zr, t3, rfl, hl4⟩ := len_inv hl3
  obtain ⟨zm, t4, rfl, hl5⟩ := len_inv hl4
  obtain ⟨o0, t5, rfl, hl6⟩ := len_inv hl5
  obtain ⟨o1, t6, rfl, hl7⟩ := len_inv hl6
  obtain ⟨o2, t7, rfl, hl8⟩ := len_inv hl7
  obtain ⟨o3, t8, rfl, hl9⟩ := len_inv hl8
  obtain ⟨kd, t9, rfl, hl10⟩ := len_inv hl9
  obtain ⟨fr, t10, rfl, hl11⟩ := len_inv hl10
  obtain ⟨to, t11, rfl, hl12⟩ := len_inv hl11
  obtain ⟨nu, t12, rfl, hl13⟩ := len_inv hl12
  obtain ⟨sg, t13, rfl, hl14⟩ := len_inv hl13
  obtain ⟨w, t14, rfl, hl15⟩ := len_inv hl14
  have hl := List.eq_nil_of_length_eq_zero hl15
  subst hl
  have p1 := p_get3 (by decide) (fOk_hd hp)
  have p2 := p_get3 (by decide) (fOk_hd (fOk_tl hp))
  simp only [List.map, xv, fev, fvl, gtI, Int.one_mul, Int.add_zero, Int.zero_add] at p1 p2
  have q := k_r14_bad1 (z := z) (n := n) (k := k) (zr := zr) (zm := zm) (o0 := o0) (o1 := o1) (o2 := o2) (o3 := o3) (kd := kd) (fr := fr) (to := to) (nu := nu) (sg := sg) (w := w) (q3 p1) p2
  refine ⟨[], rfl, fOk_cons (p_put3 rfl (by decide) ?_) fOk_nil⟩ <;> simp only [List.map, xv, fev, fvl, gtI, Int.one_mul, Int.add_zero, Int.zero_add, List.append_nil]
  exact q
def r_r14_bad3 : eRul := (15, [xP 69 [xv 0, xv 1, ([], 14), xv 2, xv 3, xv 4, xv 5, xv 6, xv 7, xv 8, ([], 0), xv 9, xv 10, xv 11, xv 12, xv 13, xv 14], (.inl [[(3, 3)]], [xv 9]), xP 58 [xv 12, ([], 0), ([], 99), ([], 0)]], 0, [xP 64 [xv 0, xv 1, ([(10, -1)], -1), ([], 2)]])
theorem r_r14_bad3_ok : ruOk r_r14_bad3 := by
  intro ρ hl0 hp
  obtain ⟨z, t0, rfl, hl1⟩ := len_inv hl0
  obtain ⟨n, t1, rfl, hl2⟩ := len_inv hl1
  obtain ⟨k, t2, rfl, hl3⟩ := len_inv hl2
  obtain ⟨zr, t3, rfl, hl4⟩ := len_inv hl3
  obtain ⟨zm, t4, rfl, hl5⟩ := len_inv hl4
  obtain ⟨o0, t5, rfl, hl6⟩ := len_inv hl5
  obtain ⟨o1, t6, rfl, hl7⟩ := len_inv hl6
  obtain ⟨o2, t7, rfl, hl8⟩ := len_inv hl7
  obtain ⟨o3, t8, rfl, hl9⟩ := len_inv hl8
  obtain ⟨kd, t9, rfl, hl10⟩ := len_inv hl9
  obtain ⟨fr, t10, rfl, hl11⟩ := len_inv hl10
  obtain ⟨to, t11, rfl, hl12⟩ := len_inv hl11
  obtain ⟨nu, t12, rfl, hl13⟩ := len_inv hl12
  obtain ⟨sg, t13, rfl, hl14⟩ := len_inv hl13
  obtain ⟨w, t14, rfl, hl15⟩ := len_inv hl14
  have hl := List.eq_nil_of_length_eq_zero hl15
  subst hl
  have p1 := p_get3 (by decide) (fOk_hd hp)
  have p2 := i_get (fOk_hd (fOk_tl hp))
  have p3 := p_get3 (by decide) (fOk_hd (fOk_tl (fOk_tl hp)))
  simp only [List.map, xv, fev, fvl, gtI, Int.one_mul, Int.add_zero, Int.zero_add] at p1 p2 p3
  have q := k_r14_bad3 (z := z) (n := n) (k := k) (zr := zr) (zm := zm) (o0 := o0) (o1 := o1) (o2 := o2) (o3 := o3) (kd := kd) (fr := fr) (to := to) (nu := nu) (sg := sg) (w := w) (q3 p1) p2 p3
  refine ⟨[], rfl, fOk_cons (p_put3 rfl (by decide) ?_) fOk_nil⟩ <;> simp only [List.map, xv, fev, fvl, gtI, Int.one_mul, Int.add_zero, Int.zero_add, List.append_nil]
  exact q
def r_r15_ok : eRul := (20, [xP 69 [xv 0, xv 1, ([], 15), xv 2, xv 3, xv 4, xv 5, xv 6, xv 7, xv 8, ([], 0), xv 9, xv 10, xv 11, xv 12, xv 13, xv 14], (.inl [[(3, 3)]], [xv 9]), (.inl [[(0, 20)]], [xv 12]), xP 2 [xv 15, xv 3, ([(16, 1)], 48), xv 12], xP 92 [xv 3, ([], 2), xv 16], xP 2 [xv 17, xv 15, ([(16, 1)], 60), ([], -1)], xP 92 [xv 17, ([], 2), xv 18], xP 2 [xv 19, xv 17, ([], 2), ([(18, 1)], 1)]], 0, [xP 67 [xv 0, xv 1, ([], 30), xv 11, xv 2, xv 19, xv 4, xv 5, xv 6, xv 7, xv 8, ([], 0)]])
theorem r_r15_ok_ok : ruOk r_r15_ok := by
  intro ρ hl0 hp
  obtain ⟨z, t0, rfl, hl1⟩ := len_inv hl0
  obtain ⟨n, t1, rfl, hl2⟩ := len_inv hl1
  obtain ⟨k, t2, rfl, hl3⟩ := len_inv hl2
  obtain ⟨zr, t3, rfl, hl4⟩ := len_inv hl3
  obtain ⟨zm, t4, rfl, hl5⟩ := len_inv hl4
  obtain ⟨o0, t5, rfl, hl6⟩ := len_inv hl5
  obtain ⟨o1, t6, rfl, hl7⟩ := len_inv hl6
  obtain ⟨o2, t7, rfl, hl8⟩ := len_inv hl7
  obtain ⟨o3, t8, rfl, hl9⟩ := len_inv hl8
  obtain ⟨kd, t9, rfl, hl10⟩ := len_inv hl9
  obtain ⟨fr, t10, rfl, hl11⟩ := len_inv hl10
  obtain ⟨to, t11, rfl, hl12⟩ := len_inv hl11
  obtain ⟨nu, t12, rfl, hl13⟩ := len_inv hl12
  obtain ⟨sg, t13, rfl, hl14⟩ := len_inv hl13
  obtain ⟨w, t14, rfl, hl15⟩ := len_inv hl14
  obtain ⟨zr2, t15, rfl, hl16⟩ := len_inv hl15
  obtain ⟨h, t16, rfl, hl17⟩ := len_inv hl16
  obtain ⟨zr3, t17, rfl, hl18⟩ := len_inv hl17
  obtain ⟨c, t18, rfl, hl19⟩ := len_inv hl18
  obtain ⟨zr4, t19, rfl, hl20⟩ := len_inv hl19
  have hl := List.eq_nil_of_length_eq_zero hl20
  subst hl
  have p1 := p_get3 (by decide) (fOk_hd hp)
  have p2 := i_get (fOk_hd (fOk_tl hp))
  have p3 := i_get (fOk_hd (fOk_tl (fOk_tl hp)))
  have p4 := p_get (fOk_hd (fOk_tl (fOk_tl (fOk_tl hp))))
  have p5 := p_get3 (by decide) (fOk_hd (fOk_tl (fOk_tl (fOk_tl (fOk_tl hp)))))
  have p6 := p_get (fOk_hd (fOk_tl (fOk_tl (fOk_tl (fOk_tl (fOk_tl hp))))))
  have p7 := p_get3 (by decide) (fOk_hd (fOk_tl (fOk_tl (fOk_tl (fOk_tl (fOk_tl (fOk_tl hp)))))))
  have p8 := p_get (fOk_hd (fOk_tl (fOk_tl (fOk_tl (fOk_tl (fOk_tl (fOk_tl (fOk_tl hp))))))))
  simp only [List.map, xv, fev, fvl, gtI, Int.one_mul, Int.add_zero, Int.zero_add, PR] at p1 p2 p3 p4 p5 p6 p7 p8
  have q := k_r15_ok (z := z) (n := n) (k := k) (zr := zr) (zm := zm) (o0 := o0) (o1 := o1) (o2 := o2) (o3 := o3) (kd := kd) (fr := fr) (to := to) (nu := nu) (sg := sg) (w := w) (zr2 := zr2) (h := h) (zr3 := zr3) (c := c) (zr4 := zr4) (q3 p1) p2 p3 p4 p5 p6 p7 p8
  refine ⟨[], rfl, fOk_cons (p_put3 rfl (by decide) ?_) fOk_nil⟩ <;> simp only [List.map, xv, fev, fvl, gtI, Int.one_mul, Int.add_zero, Int.zero_add, List.append_nil]
  exact q
def r_r15_bad1 : eRul := (15, [xP 69 [xv 0, xv 1, ([], 15), xv 2, xv 3, xv 4, xv 5, xv 6, xv 7, xv 8, ([], 0), xv 9, xv 10, xv 11, xv 12, xv 13, xv 14], xP 57 [xv 9]], 0, [xP 64 [xv 0, xv 1, ([(10, -1)], -1), ([], 1)]])
theorem r_r15_bad1_ok : ruOk r_r15_bad1 := by
  intro ρ hl0 hp
  obtain ⟨z, t0, rfl, hl1⟩ := len_inv hl0
  obtain ⟨n, t1, rfl, hl2⟩ := len_inv hl1
  obtain ⟨k, t2, rfl, hl3⟩ := len_inv hl2
  obtain ⟨zr, t3, rfl, hl4⟩ := len_inv hl3
  obtain ⟨zm, t4, rfl, hl5⟩ := len_inv hl4
  obtain ⟨o0, t5, rfl, hl6⟩ := len_inv hl5
  obtain ⟨o1, t6, rfl, hl7⟩ := len_inv hl6
  obtain ⟨o2, t7, rfl, hl8⟩ := len_inv hl7
  obtain ⟨o3, t8, rfl, hl9⟩ := len_inv hl8
  obtain ⟨kd, t9, rfl, hl10⟩ := len_inv hl9
  obtain ⟨fr, t10, rfl, hl11⟩ := len_inv hl10
  obtain ⟨to, t11, rfl, hl12⟩ := len_inv hl11
  obtain ⟨nu, t12, rfl, hl13⟩ := len_inv hl12
  obtain ⟨sg, t13, rfl, hl14⟩ := len_inv hl13
  obtain ⟨w, t14, rfl, hl15⟩ := len_inv hl14
  have hl := List.eq_nil_of_length_eq_zero hl15
  subst hl
  have p1 := p_get3 (by decide) (fOk_hd hp)
  have p2 := p_get3 (by decide) (fOk_hd (fOk_tl hp))
  simp only [List.map, xv, fev, fvl, gtI, Int.one_mul, Int.add_zero, Int.zero_add] at p1 p2
  have q := k_r15_bad1 (z := z) (n := n) (k := k) (zr := zr) (zm := zm) (o0 := o0) (o1 := o1) (o2 := o2) (o3 := o3) (kd := kd) (fr := fr) (to := to) (nu := nu) (sg := sg) (w := w) (q3 p1) p2
  refine ⟨[], rfl, fOk_cons (p_put3 rfl (by decide) ?_) fOk_nil⟩ <;> simp only [List.map, xv, fev, fvl, gtI, Int.one_mul, Int.add_zero, Int.zero_add, List.append_nil]
  exact q
def r_r15_bad3 : eRul := (15, [xP 69 [xv 0, xv 1, ([], 15), xv 2, xv 3, xv 4, xv 5, xv 6, xv 7, xv 8, ([], 0), xv 9, xv 10, xv 11, xv 12, xv 13, xv 14], (.inl [[(3, 3)]], [xv 9]), xP 58 [xv 12, ([], 0), ([], 20), ([], 0)]], 0, [xP 64 [xv 0, xv 1, ([(10, -1)], -1), ([], 2)]])
theorem r_r15_bad3_ok : ruOk r_r15_bad3 := by
  intro ρ hl0 hp
  obtain ⟨z, t0, rfl, hl1⟩ := len_inv hl0
  obtain ⟨n, t1, rfl, hl2⟩ := len_inv hl1
  obtain ⟨k, t2, rfl, hl3⟩ := len_inv hl2
  obtain ⟨zr, t3, rfl, hl4⟩ := len_inv hl3
  obtain ⟨zm, t4, rfl, hl5⟩ := len_inv hl4
  obtain ⟨o0, t5, rfl, hl6⟩ := len_inv hl5
  obtain ⟨o1, t6, rfl, hl7⟩ := len_inv hl6
  obtain ⟨o2, t7, rfl, hl8⟩ := len_inv hl7
  obtain ⟨o3, t8, rfl, hl9⟩ := len_inv hl8
  obtain ⟨kd, t9, rfl, hl10⟩ := len_inv hl9
  obtain ⟨fr, t10, rfl, hl11⟩ := len_inv hl10
  obtain ⟨to, t11, rfl, hl12⟩ := len_inv hl11
  obtain ⟨nu, t12, rfl, hl13⟩ := len_inv hl12
  obtain ⟨sg, t13, rfl, hl14⟩ := len_inv hl13
  obtain ⟨w, t14, rfl, hl15⟩ := len_inv hl14
  have hl := List.eq_nil_of_length_eq_zero hl15
  subst hl
  have p1 := p_get3 (by decide) (fOk_hd hp)
  have p2 := i_get (fOk_hd (fOk_tl hp))
  have p3 := p_get3 (by decide) (fOk_hd (fOk_tl (fOk_tl hp)))
  simp only [List.map, xv, fev, fvl, gtI, Int.one_mul, Int.add_zero, Int.zero_add] at p1 p2 p3
  have q := k_r15_bad3 (z := z) (n := n) (k := k) (zr := zr) (zm := zm) (o0 := o0) (o1 := o1) (o2 := o2) (o3 := o3) (kd := kd) (fr := fr) (to := to) (nu := nu) (sg := sg) (w := w) (q3 p1) p2 p3
  refine ⟨[], rfl, fOk_cons (p_put3 rfl (by decide) ?_) fOk_nil⟩ <;> simp only [List.map, xv, fev, fvl, gtI, Int.one_mul, Int.add_zero, Int.zero_add, List.append_nil]
  exact q
def r_r6_ok : eRul := (17, [xP 69 [xv 0, xv 1, ([], 6), xv 2, xv 3, xv 4, xv 5, xv 6, xv 7, xv 8, ([], 0), xv 9, xv 10, xv 11, xv 12, xv 13, xv 14], xP 79 [xv 9, xv 14, ([], 1)], xP 94 [xv 4, xv 3, xv 14], xP 92 [xv 3, ([], 0), xv 15], xP 2 [xv 16, xv 4, xv 15, xv 14]], 0, [xP 67 [xv 0, xv 1, ([], 7), xv 11, xv 2, xv 3, xv 16, xv 5, xv 6, xv 7, xv 8, ([], 0)]])
theorem r_r6_ok_ok : ruOk r_r6_ok := by
  intro ρ hl0 hp
  obtain ⟨z, t0, rfl, hl1⟩ := len_inv hl0
  obtain ⟨n, t1, rfl, hl2⟩ := len_inv hl1
  obtain ⟨k, t2, rfl, hl3⟩ := len_inv hl2
  obtain ⟨zr, t3, rfl, hl4⟩ := len_inv hl3
  obtain ⟨zm, t4, rfl, hl5⟩ := len_inv hl4
  obtain ⟨o0, t5, rfl, hl6⟩ := len_inv hl5
  obtain ⟨o1, t6, rfl, hl7⟩ := len_inv hl6
  obtain ⟨o2, t7, rfl, hl8⟩ := len_inv hl7
  obtain ⟨o3, t8, rfl, hl9⟩ := len_inv hl8
  obtain ⟨kd, t9, rfl, hl10⟩ := len_inv hl9
  obtain ⟨fr, t10, rfl, hl11⟩ := len_inv hl10
  obtain ⟨to, t11, rfl, hl12⟩ := len_inv hl11
  obtain ⟨nu, t12, rfl, hl13⟩ := len_inv hl12
  obtain ⟨sg, t13, rfl, hl14⟩ := len_inv hl13
  obtain ⟨w, t14, rfl, hl15⟩ := len_inv hl14
  obtain ⟨h, t15, rfl, hl16⟩ := len_inv hl15
  obtain ⟨zm2, t16, rfl, hl17⟩ := len_inv hl16
  have hl := List.eq_nil_of_length_eq_zero hl17
  subst hl
  have p1 := p_get3 (by decide) (fOk_hd hp)
  have p2 := p_get3 (by decide) (fOk_hd (fOk_tl hp))
  have p3 := p_get3 (by decide) (fOk_hd (fOk_tl (fOk_tl hp)))
  have p4 := p_get3 (by decide) (fOk_hd (fOk_tl (fOk_tl (fOk_tl hp))))
  have p5 := p_get (fOk_hd (fOk_tl (fOk_tl (fOk_tl (fOk_tl hp)))))
  simp only [List.map, xv, fev, fvl, gtI, Int.one_mul, Int.add_zero, Int.zero_add, PR] at p1 p2 p3 p4 p5
  have q := k_r6_ok (z := z) (n := n) (k := k) (zr := zr) (zm := zm) (o0 := o0) (o1 := o1) (o2 := o2) (o3 := o3) (kd := kd) (fr := fr) (to := to) (nu := nu) (sg := sg) (w := w) (h := h) (zm2 := zm2) (q3 p1) p2 p3 p4 p5
  refine ⟨[], rfl, fOk_cons (p_put3 rfl (by decide) ?_) fOk_nil⟩ <;> simp only [List.map, xv, fev, fvl, gtI, Int.one_mul, Int.add_zero, Int.zero_add, List.append_nil]
  exact q
def r_r6_bad1 : eRul := (15, [xP 69 [xv 0, xv 1, ([], 6), xv 2, xv 3, xv 4, xv 5, xv 6, xv 7, xv 8, ([], 0), xv 9, xv 10, xv 11, xv 12, xv 13, xv 14], xP 79 [xv 9, xv 14, ([], 0)]], 0, [xP 64 [xv 0, xv 1, ([(10, -1)], -1), ([], 1)]])
theorem r_r6_bad1_ok : ruOk r_r6_bad1 := by
  intro ρ hl0 hp
  obtain ⟨z, t0, rfl, hl1⟩ := len_inv hl0
  obtain ⟨n, t1, rfl, hl2⟩ := len_inv hl1
  obtain ⟨k, t2, rfl, hl3⟩ := len_inv hl2
  obtain ⟨zr, t3, rfl, hl4⟩ := len_inv hl3
  obtain ⟨zm, t4, rfl, hl5⟩ := len_inv hl4
  obtain ⟨o0, t5, rfl, hl6⟩ := len_inv hl5
  obtain ⟨o1, t6, rfl, hl7⟩ := len_inv hl6
  obtain ⟨o2, t7, rfl, hl8⟩ := len_inv hl7
  obtain ⟨o3, t8, rfl, hl9⟩ := len_inv hl8
  obtain ⟨kd, t9, rfl, hl10⟩ := len_inv hl9
  obtain ⟨fr, t10, rfl, hl11⟩ := len_inv hl10
  obtain ⟨to, t11, rfl, hl12⟩ := len_inv hl11
  obtain ⟨nu, t12, rfl, hl13⟩ := len_inv hl12
  obtain ⟨sg, t13, rfl, hl14⟩ := len_inv hl13
  obtain ⟨w, t14, rfl, hl15⟩ := len_inv hl14
  have hl := List.eq_nil_of_length_eq_zero hl15
  subst hl
  have p1 := p_get3 (by decide) (fOk_hd hp)
  have p2 := p_get3 (by decide) (fOk_hd (fOk_tl hp))
  simp only [List.map, xv, fev, fvl, gtI, Int.one_mul, Int.add_zero, Int.zero_add] at p1 p2
  have q := k_r6_bad1 (z := z) (n := n) (k := k) (zr := zr) (zm := zm) (o0 := o0) (o1 := o1) (o2 := o2) (o3 := o3) (kd := kd) (fr := fr) (to := to) (nu := nu) (sg := sg) (w := w) (q3 p1) p2
  refine ⟨[], rfl, fOk_cons (p_put3 rfl (by decide) ?_) fOk_nil⟩ <;> simp only [List.map, xv, fev, fvl, gtI, Int.one_mul, Int.add_zero, Int.zero_add, List.append_nil]
  exact q
def r_r6_bad2 : eRul := (15, [xP 69 [xv 0, xv 1, ([], 6), xv 2, xv 3, xv 4, xv 5, xv 6, xv 7, xv 8, ([], 0), xv 9, xv 10, xv 11, xv 12, xv 13, xv 14], xP 79 [xv 9, xv 14, ([], 1)], xP 95 [xv 4, xv 3, xv 14]], 0, [xP 64 [xv 0, xv 1, ([(10, -1)], -1), ([], 3)]])
theorem r_r6_bad2_ok : ruOk r_r6_bad2 := by
  intro ρ hl0 hp
  obtain ⟨z, t0, rfl, hl1⟩ := len_inv hl0
  obtain ⟨n, t1, rfl, hl2⟩ := len_inv hl1
  obtain ⟨k, t2, rfl, hl3⟩ := len_inv hl2
  obtain ⟨zr, t3, rfl, hl4⟩ := len_inv hl3
  obtain ⟨zm, t4, rfl, hl5⟩ := len_inv hl4
  obtain ⟨o0, t5, rfl, hl6⟩ := len_inv hl5
  obtain ⟨o1, t6, rfl, hl7⟩ := len_inv hl6
  obtain ⟨o2, t7, rfl, hl8⟩ := len_inv hl7
  obtain ⟨o3, t8, rfl, hl9⟩ := len_inv hl8
  obtain ⟨kd, t9, rfl, hl10⟩ := len_inv hl9
  obtain ⟨fr, t10, rfl, hl11⟩ := len_inv hl10
  obtain ⟨to, t11, rfl, hl12⟩ := len_inv hl11
  obtain ⟨nu, t12, rfl, hl13⟩ := len_inv hl12
  obtain ⟨sg, t13, rfl, hl14⟩ := len_inv hl13
  obtain ⟨w, t14, rfl, hl15⟩ := len_inv hl14
  have hl := List.eq_nil_of_length_eq_zero hl15
  subst hl
  have p1 := p_get3 (by decide) (fOk_hd hp)
  have p2 := p_get3 (by decide) (fOk_hd (fOk_tl hp))
  have p3 := p_get3 (by decide) (fOk_hd (fOk_tl (fOk_tl hp)))
  simp only [List.map, xv, fev, fvl, gtI, Int.one_mul, Int.add_zero, Int.zero_add] at p1 p2 p3
  have q := k_r6_bad2 (z := z) (n := n) (k := k) (zr := zr) (zm := zm) (o0 := o0) (o1 := o1) (o2 := o2) (o3 := o3) (kd := kd) (fr := fr) (to := to) (nu := nu) (sg := sg) (w := w) (q3 p1) p2 p3
  refine ⟨[], rfl, fOk_cons (p_put3 rfl (by decide) ?_) fOk_nil⟩ <;> simp only [List.map, xv, fev, fvl, gtI, Int.one_mul, Int.add_zero, Int.zero_add, List.append_nil]
  exact q
def r_r9_ok : eRul := (17, [xP 69 [xv 0, xv 1, ([], 9), xv 2, xv 3, xv 4, xv 5, xv 6, xv 7, xv 8, ([], 0), xv 9, xv 10, xv 11, xv 12, xv 13, xv 14], xP 79 [xv 9, xv 14, ([], 1)], xP 94 [xv 4, xv 3, xv 14], xP 92 [xv 3, ([], 1), xv 15], xP 2 [xv 16, xv 4, ([(15, 1)], 5), xv 14]], 0, [xP 67 [xv 0, xv 1, ([], 10), xv 11, xv 2, xv 3, xv 16, xv 5, xv 6, xv 7, xv 8, ([], 0)]])
theorem r_r9_ok_ok : ruOk r_r9_ok := by
  intro ρ hl0 hp
  obtain ⟨z, t0, rfl, hl1⟩ := len_inv hl0
  obtain ⟨n, t1, rfl, hl2⟩ := len_inv hl1
  obtain ⟨k, t2, rfl, hl3⟩ := len_inv hl2
  obtain ⟨zr, t3, rfl, hl4⟩ := len_inv hl3
  obtain ⟨zm, t4, rfl, hl5⟩ := len_inv hl4
  obtain ⟨o0, t5, rfl, hl6⟩ := len_inv hl5
  obtain ⟨o1, t6, rfl, hl7⟩ := len_inv hl6
  obtain ⟨o2, t7, rfl, hl8⟩ := len_inv hl7
  obtain ⟨o3, t8, rfl, hl9⟩ := len_inv hl8
  obtain ⟨kd, t9, rfl, hl10⟩ := len_inv hl9
  obtain ⟨fr, t10, rfl, hl11⟩ := len_inv hl10
  obtain ⟨to, t11, rfl, hl12⟩ := len_inv hl11
  obtain ⟨nu, t12, rfl, hl13⟩ := len_inv hl12
  obtain ⟨sg, t13, rfl, hl14⟩ := len_inv hl13
  obtain ⟨w, t14, rfl, hl15⟩ := len_inv hl14
  obtain ⟨h, t15, rfl, hl16⟩ := len_inv hl15
  obtain ⟨zm2, t16, rfl, hl17⟩ := len_inv hl16
  have hl := List.eq_nil_of_length_eq_zero hl17
  subst hl
  have p1 := p_get3 (by decide) (fOk_hd hp)
  have p2 := p_get3 (by decide) (fOk_hd (fOk_tl hp))
  have p3 := p_get3 (by decide) (fOk_hd (fOk_tl (fOk_tl hp)))
  have p4 := p_get3 (by decide) (fOk_hd (fOk_tl (fOk_tl (fOk_tl hp))))
  have p5 := p_get (fOk_hd (fOk_tl (fOk_tl (fOk_tl (fOk_tl hp)))))
  simp only [List.map, xv, fev, fvl, gtI, Int.one_mul, Int.add_zero, Int.zero_add, PR] at p1 p2 p3 p4 p5
  have q := k_r9_ok (z := z) (n := n) (k := k) (zr := zr) (zm := zm) (o0 := o0) (o1 := o1) (o2 := o2) (o3 := o3) (kd := kd) (fr := fr) (to := to) (nu := nu) (sg := sg) (w := w) (h := h) (zm2 := zm2) (q3 p1) p2 p3 p4 p5
  refine ⟨[], rfl, fOk_cons (p_put3 rfl (by decide) ?_) fOk_nil⟩ <;> simp only [List.map, xv, fev, fvl, gtI, Int.one_mul, Int.add_zero, Int.zero_add, List.append_nil]
  exact q
def r_r9_bad1 : eRul := (15, [xP 69 [xv 0, xv 1, ([], 9), xv 2, xv 3, xv 4, xv 5, xv 6, xv 7, xv 8, ([], 0), xv 9, xv 10, xv 11, xv 12, xv 13, xv 14], xP 79 [xv 9, xv 14, ([], 0)]], 0, [xP 64 [xv 0, xv 1, ([(10, -1)], -1), ([], 1)]])
theorem r_r9_bad1_ok : ruOk r_r9_bad1 := by
  intro ρ hl0 hp
  obtain ⟨z, t0, rfl, hl1⟩ := len_inv hl0
  obtain ⟨n, t1, rfl, hl2⟩ := len_inv hl1
  obtain ⟨k, t2, rfl, hl3⟩ := len_inv hl2
  obtain ⟨zr, t3, rfl, hl4⟩ := len_inv hl3
  obtain ⟨zm, t4, rfl, hl5⟩ := len_inv hl4
  obtain ⟨o0, t5, rfl, hl6⟩ := len_inv hl5
  obtain ⟨o1, t6, rfl, hl7⟩ := len_inv hl6
  obtain ⟨o2, t7, rfl, hl8⟩ := len_inv hl7
  obtain ⟨o3, t8, rfl, hl9⟩ := len_inv hl8
  obtain ⟨kd, t9, rfl, hl10⟩ := len_inv hl9
  obtain ⟨fr, t10, rfl, hl11⟩ := len_inv hl10
  obtain ⟨to, t11, rfl, hl12⟩ := len_inv hl11
  obtain ⟨nu, t12, rfl, hl13⟩ := len_inv hl12
  obtain ⟨sg, t13, rfl, hl14⟩ := len_inv hl13
  obtain ⟨w, t14, rfl, hl15⟩ := len_inv hl14
  have hl := List.eq_nil_of_length_eq_zero hl15
  subst hl
  have p1 := p_get3 (by decide) (fOk_hd hp)
  have p2 := p_get3 (by decide) (fOk_hd (fOk_tl hp))
  simp only [List.map, xv, fev, fvl, gtI, Int.one_mul, Int.add_zero, Int.zero_add] at p1 p2
  have q := k_r9_bad1 (z := z) (n := n) (k := k) (zr := zr) (zm := zm) (o0 := o0) (o1 := o1) (o2 := o2) (o3 := o3) (kd := kd) (fr := fr) (to := to) (nu := nu) (sg := sg) (w := w) (q3 p1) p2
  refine ⟨[], rfl, fOk_cons (p_put3 rfl (by decide) ?_) fOk_nil⟩ <;> simp only [List.map, xv, fev, fvl, gtI, Int.one_mul, Int.add_zero, Int.zero_add, List.append_nil]
  exact q
def r_r9_bad2 : eRul := (15, [xP 69 [xv 0, xv 1, ([], 9), xv 2, xv 3, xv 4, xv 5, xv 6, xv 7, xv 8, ([], 0), xv 9, xv 10, xv 11, xv 12, xv 13, xv 14], xP 79 [xv 9, xv 14, ([], 1)], xP 95 [xv 4, xv 3, xv 14]], 0, [xP 64 [xv 0, xv 1, ([(10, -1)], -1), ([], 3)]])
theorem r_r9_bad2_ok : ruOk r_r9_bad2 := by
  intro ρ hl0 hp
  obtain ⟨z, t0, rfl, hl1⟩ := len_inv hl0
  obtain ⟨n, t1, rfl, hl2⟩ := len_inv hl1
  obtain ⟨k, t2, rfl, hl3⟩ := len_inv hl2
  obtain ⟨zr, t3, rfl, hl4⟩ := len_inv hl3
  obtain ⟨zm, t4, rfl, hl5⟩ := len_inv hl4
  obtain ⟨o0, t5, rfl, hl6⟩ := len_inv hl5
  obtain ⟨o1, t6, rfl, hl7⟩ := len_inv hl6
  obtain ⟨o2, t7, rfl, hl8⟩ := len_inv hl7
  obtain ⟨o3, t8, rfl, hl9⟩ := len_inv hl8
  obtain ⟨kd, t9, rfl, hl10⟩ := len_inv hl9
  obtain ⟨fr, t10, rfl, hl11⟩ := len_inv hl10
  obtain ⟨to, t11, rfl, hl12⟩ := len_inv hl11
  obtain ⟨nu, t12, rfl, hl13⟩ := len_inv hl12
  obtain ⟨sg, t13, rfl, hl14⟩ := len_inv hl13
  obtain ⟨w, t14, rfl, hl15⟩ := len_inv hl14
  have hl := List.eq_nil_of_length_eq_zero hl15
  subst hl
  have p1 := p_get3 (by decide) (fOk_hd hp)
  have p2 := p_get3 (by decide) (fOk_hd (fOk_tl hp))
  have p3 := p_get3 (by decide) (fOk_hd (fOk_tl (fOk_tl hp)))
  simp only [List.map, xv, fev, fvl, gtI, Int.one_mul, Int.add_zero, Int.zero_add] at p1 p2 p3
  have q := k_r9_bad2 (z := z) (n := n) (k := k) (zr := zr) (zm := zm) (o0 := o0) (o1 := o1) (o2 := o2) (o3 := o3) (kd := kd) (fr := fr) (to := to) (nu := nu) (sg := sg) (w := w) (q3 p1) p2 p3
  refine ⟨[], rfl, fOk_cons (p_put3 rfl (by decide) ?_) fOk_nil⟩ <;> simp only [List.map, xv, fev, fvl, gtI, Int.one_mul, Int.add_zero, Int.zero_add, List.append_nil]
  exact q
def r_r13_ok : eRul := (17, [xP 69 [xv 0, xv 1, ([], 13), xv 2, xv 3, xv 4, xv 5, xv 6, xv 7, xv 8, ([], 0), xv 9, xv 10, xv 11, xv 12, xv 13, xv 14], xP 79 [xv 9, xv 14, ([], 1)], xP 94 [xv 4, xv 3, xv 14], xP 92 [xv 3, ([], 2), xv 15], xP 2 [xv 16, xv 4, ([(15, 1)], 13), xv 14]], 0, [xP 67 [xv 0, xv 1, ([], 14), xv 11, xv 2, xv 3, xv 16, xv 5, xv 6, xv 7, xv 8, ([], 0)]])
theorem r_r13_ok_ok : ruOk r_r13_ok := by
  intro ρ hl0 hp
  obtain ⟨z, t0, rfl, hl1⟩ := len_inv hl0
  obtain ⟨n, t1, rfl, hl2⟩ := len_inv hl1
  obtain ⟨k, t2, rfl, hl3⟩ := len_inv hl2
  obtain ⟨zr, t3, rfl, hl4⟩ := len_inv hl3
  obtain ⟨zm, t4, rfl, hl5⟩ := len_inv hl4
  obtain ⟨o0, t5, rfl, hl6⟩ := len_inv hl5
  obtain ⟨o1, t6, rfl, hl7⟩ := len_inv hl6
  obtain ⟨o2, t7, rfl, hl8⟩ := len_inv hl7
  obtain ⟨o3, t8, rfl, hl9⟩ := len_inv hl8
  obtain ⟨kd, t9, rfl, hl10⟩ := len_inv hl9
  obtain ⟨fr, t10, rfl, hl11⟩ := len_inv hl10
  obtain ⟨to, t11, rfl, hl12⟩ := len_inv hl11
  obtain ⟨nu, t12, rfl, hl13⟩ := len_inv hl12
  obtain ⟨sg, t13, rfl, hl14⟩ := len_inv hl13
  obtain ⟨w, t14, rfl, hl15⟩ := len_inv hl14
  obtain ⟨h, t15, rfl, hl16⟩ := len_inv hl15
  obtain ⟨zm2, t16, rfl, hl17⟩ := len_inv hl16
  have hl := List.eq_nil_of_length_eq_zero hl17
  subst hl
  have p1 := p_get3 (by decide) (fOk_hd hp)
  have p2 := p_get3 (by decide) (fOk_hd (fOk_tl hp))
  have p3 := p_get3 (by decide) (fOk_hd (fOk_tl (fOk_tl hp)))
  have p4 := p_get3 (by decide) (fOk_hd (fOk_tl (fOk_tl (fOk_tl hp))))
  have p5 := p_get (fOk_hd (fOk_tl (fOk_tl (fOk_tl (fOk_tl hp)))))
  simp only [List.map, xv, fev, fvl, gtI, Int.one_mul, Int.add_zero, Int.zero_add, PR] at p1 p2 p3 p4 p5
  have q := k_r13_ok (z := z) (n := n) (k := k) (zr := zr) (zm := zm) (o0 := o0) (o1 := o1) (o2 := o2) (o3 := o3) (kd := kd) (fr := fr) (to := to) (nu := nu) (sg := sg) (w := w) (h := h) (zm2 := zm2) (q3 p1) p2 p3 p4 p5
  refine ⟨[], rfl, fOk_cons (p_put3 rfl (by decide) ?_) fOk_nil⟩ <;> simp only [List.map, xv, fev, fvl, gtI, Int.one_mul, Int.add_zero, Int.zero_add, List.append_nil]
  exact q
def r_r13_bad1 : eRul := (15, [xP 69 [xv 0, xv 1, ([], 13), xv 2, xv 3, xv 4, xv 5, xv 6, xv 7, xv 8, ([], 0), xv 9, xv 10, xv 11, xv 12, xv 13, xv 14], xP 79 [xv 9, xv 14, ([], 0)]], 0, [xP 64 [xv 0, xv 1, ([(10, -1)], -1), ([], 1)]])
theorem r_r13_bad1_ok : ruOk r_r13_bad1 := by
  intro ρ hl0 hp
  obtain ⟨z, t0, rfl, hl1⟩ := len_inv hl0
  obtain ⟨n, t1, rfl, hl2⟩ := len_inv hl1
  obtain ⟨k, t2, rfl, hl3⟩ := len_inv hl2
  obtain ⟨zr, t3, rfl, hl4⟩ := len_inv hl3
  obtain ⟨zm, t4, rfl, hl5⟩ := len_inv hl4
  obtain ⟨o0, t5, rfl, hl6⟩ := len_inv hl5
  obtain ⟨o1, t6, rfl, hl7⟩ := len_inv hl6
  obtain ⟨o2, t7, rfl, hl8⟩ := len_inv hl7
  obtain ⟨o3, t8, rfl, hl9⟩ := len_inv hl8
  obtain ⟨kd, t9, rfl, hl10⟩ := len_inv hl9
  obtain ⟨fr, t10, rfl, hl11⟩ := len_inv hl10
  obtain ⟨to, t11, rfl, hl12⟩ := len_inv hl11
  obtain ⟨nu, t12, rfl, hl13⟩ := len_inv hl12
  obtain ⟨sg, t13, rfl, hl14⟩ := len_inv hl13
  obtain ⟨w, t14, rfl, hl15⟩ := len_inv hl14
  have hl := List.eq_nil_of_length_eq_zero hl15
  subst hl
  have p1 := p_get3 (by decide) (fOk_hd hp)
  have p2 := p_get3 (by decide) (fOk_hd (fOk_tl hp))
  simp only [List.map, xv, fev, fvl, gtI, Int.one_mul, Int.add_zero, Int.zero_add] at p1 p2
  have q := k_r13_bad1 (z := z) (n := n) (k := k) (zr := zr) (zm := zm) (o0 := o0) (o1 := o1) (o2 := o2) (o3 := o3) (kd := kd) (fr := fr) (to := to) (nu := nu) (sg := sg) (w := w) (q3 p1) p2
  refine ⟨[], rfl, fOk_cons (p_put3 rfl (by decide) ?_) fOk_nil⟩ <;> simp only [List.map, xv, fev, fvl, gtI, Int.one_mul, Int.add_zero, Int.zero_add, List.append_nil]
  exact q
def r_r13_bad2 : eRul := (15, [xP 69 [xv 0, xv 1, ([], 13), xv 2, xv 3, xv 4, xv 5, xv 6, xv 7, xv 8, ([], 0), xv 9, xv 10, xv 11, xv 12, xv 13, xv 14], xP 79 [xv 9, xv 14, ([], 1)], xP 95 [xv 4, xv 3, xv 14]], 0, [xP 64 [xv 0, xv 1, ([(10, -1)], -1), ([], 3)]])
theorem r_r13_bad2_ok : ruOk r_r13_bad2 := by
  intro ρ hl0 hp
  obtain ⟨z, t0, rfl, hl1⟩ := len_inv hl0
  obtain ⟨n, t1, rfl, hl2⟩ := len_inv hl1
  obtain ⟨k, t2, rfl, hl3⟩ := len_inv hl2
  obtain ⟨zr, t3, rfl, hl4⟩ := len_inv hl3
  obtain ⟨zm, t4, rfl, hl5⟩ := len_inv hl4
  obtain ⟨o0, t5, rfl, hl6⟩ := len_inv hl5
  obtain ⟨o1, t6, rfl, hl7⟩ := len_inv hl6
  obtain ⟨o2, t7, rfl, hl8⟩ := len_inv hl7
  obtain ⟨o3, t8, rfl, hl9⟩ := len_inv hl8
  obtain ⟨kd, t9, rfl, hl10⟩ := len_inv hl9
  obtain ⟨fr, t10, rfl, hl11⟩ := len_inv hl10
  obtain ⟨to, t11, rfl, hl12⟩ := len_inv hl11
  obtain ⟨nu, t12, rfl, hl13⟩ := len_inv hl12
  obtain ⟨sg, t13, rfl, hl14⟩ := len_inv hl13
  obtain ⟨w, t14, rfl, hl15⟩ := len_inv hl14
  have hl := List.eq_nil_of_length_eq_zero hl15
  subst hl
  have p1 := p_get3 (by decide) (fOk_hd hp)
  have p2 := p_get3 (by decide) (fOk_hd (fOk_tl hp))
  have p3 := p_get3 (by decide) (fOk_hd (fOk_tl (fOk_tl hp)))
  simp only [List.map, xv, fev, fvl, gtI, Int.one_mul, Int.add_zero, Int.zero_add] at p1 p2 p3
  have q := k_r13_bad2 (z := z) (n := n) (k := k) (zr := zr) (zm := zm) (o0 := o0) (o1 := o1) (o2 := o2) (o3 := o3) (kd := kd) (fr := fr) (to := to) (nu := nu) (sg := sg) (w := w) (q3 p1) p2 p3
  refine ⟨[], rfl, fOk_cons (p_put3 rfl (by decide) ?_) fOk_nil⟩ <;> simp only [List.map, xv, fev, fvl, gtI, Int.one_mul, Int.add_zero, Int.zero_add, List.append_nil]
  exact q
def r_r10_ok : eRul := (18, [xP 69 [xv 0, xv 1, ([], 10), xv 2, xv 3, xv 4, xv 5, xv 6, xv 7, xv 8, ([], 0), xv 9, xv 10, xv 11, xv 12, xv 13, xv 14], xP 79 [xv 9, xv 14, ([], 1)], xP 96 [xv 4, xv 3, ([], 0), ([], 0), xv 14, xv 15], xG (([(15, -1)], 0)), xP 92 [xv 3, ([], 1), xv 16], xP 2 [xv 17, xv 3, ([(16, 1)], 18), xv 15]], 0, [xP 67 [xv 0, xv 1, ([], 11), xv 11, xv 2, xv 17, xv 4, xv 5, xv 6, xv 7, xv 8, ([], 0)]])
theorem r_r10_ok_ok : ruOk r_r10_ok := by
  intro ρ hl0 hp
  obtain ⟨z, t0, rfl, hl1⟩ := len_inv hl0
  obtain ⟨n, t1, rfl, hl2⟩ := len_inv hl1
  obtain ⟨k, t2, rfl, hl3⟩ := len_inv hl2
  obtain ⟨zr, t3, rfl, hl4⟩ := len_inv hl3
  obtain ⟨zm, t4, rfl, hl5⟩ := len_inv hl4
  obtain ⟨o0, t5, rfl, hl6⟩ := len_inv hl5
  obtain ⟨o1, t6, rfl, hl7⟩ := len_inv hl6
  obtain ⟨o2, t7, rfl, hl8⟩ := len_inv hl7
  obtain ⟨o3, t8, rfl, hl9⟩ := len_inv hl8
  obtain ⟨kd, t9, rfl, hl10⟩ := len_inv hl9
  obtain ⟨fr, t10, rfl, hl11⟩ := len_inv hl10
  obtain ⟨to, t11, rfl, hl12⟩ := len_inv hl11
  obtain ⟨nu, t12, rfl, hl13⟩ := len_inv hl12
  obtain ⟨sg, t13, rfl, hl14⟩ := len_inv hl13
  obtain ⟨w, t14, rfl, hl15⟩ := len_inv hl14
  obtain ⟨i, t15, rfl, hl16⟩ := len_inv hl15
  obtain ⟨h, t16, rfl, hl17⟩ := len_inv hl16
  obtain ⟨zr2, t17, rfl, hl18⟩ := len_inv hl17
  have hl := List.eq_nil_of_length_eq_zero hl18
  subst hl
  have p1 := p_get3 (by decide) (fOk_hd hp)
  have p2 := p_get3 (by decide) (fOk_hd (fOk_tl hp))
  have p3 := p_get3 (by decide) (fOk_hd (fOk_tl (fOk_tl hp)))
  have p4 := gg_get (fOk_hd (fOk_tl (fOk_tl (fOk_tl hp))))
  have p5 := p_get3 (by decide) (fOk_hd (fOk_tl (fOk_tl (fOk_tl (fOk_tl hp)))))
  have p6 := p_get (fOk_hd (fOk_tl (fOk_tl (fOk_tl (fOk_tl (fOk_tl hp))))))
  simp only [List.map, xv, fev, fvl, gtI, Int.one_mul, Int.add_zero, Int.zero_add, PR] at p1 p2 p3 p4 p5 p6
  have q := k_r10_ok (z := z) (n := n) (k := k) (zr := zr) (zm := zm) (o0 := o0) (o1 := o1) (o2 := o2) (o3 := o3) (kd := kd) (fr := fr) (to := to) (nu := nu) (sg := sg) (w := w) (i := i) (h := h) (zr2 := zr2) (q3 p1) p2 p3 p4 p5 p6
  refine ⟨[], rfl, fOk_cons (p_put3 rfl (by decide) ?_) fOk_nil⟩ <;> simp only [List.map, xv, fev, fvl, gtI, Int.one_mul, Int.add_zero, Int.zero_add, List.append_nil]
  exact q
def r_r10_bad1 : eRul := (15, [xP 69 [xv 0, xv 1, ([], 10), xv 2, xv 3, xv 4, xv 5, xv 6, xv 7, xv 8, ([], 0), xv 9, xv 10, xv 11, xv 12, xv 13, xv 14], xP 79 [xv 9, xv 14, ([], 0)]], 0, [xP 64 [xv 0, xv 1, ([(10, -1)], -1), ([], 1)]])
theorem r_r10_bad1_ok : ruOk r_r10_bad1 := by
  intro ρ hl0 hp
  obtain ⟨z, t0, rfl, hl1⟩ := len_inv hl0
  obtain ⟨n, t1, rfl, hl2⟩ := len_inv hl1
  obtain ⟨k, t2, rfl, hl3⟩ := len_inv hl2
  obtain ⟨zr, t3, rfl, hl4⟩ := len_inv hl3
  obtain ⟨zm, t4, rfl, hl5⟩ := len_inv hl4
  obtain ⟨o0, t5, rfl, hl6⟩ := len_inv hl5
  obtain ⟨o1, t6, rfl, hl7⟩ := len_inv hl6
  obtain ⟨o2, t7, rfl, hl8⟩ := len_inv hl7
  obtain ⟨o3, t8, rfl, hl9⟩ := len_inv hl8
  obtain ⟨kd, t9, rfl, hl10⟩ := len_inv hl9
  obtain ⟨fr, t10, rfl, hl11⟩ := len_inv hl10
  obtain ⟨to, t11, rfl, hl12⟩ := len_inv hl11
  obtain ⟨nu, t12, rfl, hl13⟩ := len_inv hl12
  obtain ⟨sg, t13, rfl, hl14⟩ := len_inv hl13
  obtain ⟨w, t14, rfl, hl15⟩ := len_inv hl14
  have hl := List.eq_nil_of_length_eq_zero hl15
  subst hl
  have p1 := p_get3 (by decide) (fOk_hd hp)
  have p2 := p_get3 (by decide) (fOk_hd (fOk_tl hp))
  simp only [List.map, xv, fev, fvl, gtI, Int.one_mul, Int.add_zero, Int.zero_add] at p1 p2
  have q := k_r10_bad1 (z := z) (n := n) (k := k) (zr := zr) (zm := zm) (o0 := o0) (o1 := o1) (o2 := o2) (o3 := o3) (kd := kd) (fr := fr) (to := to) (nu := nu) (sg := sg) (w := w) (q3 p1) p2
  refine ⟨[], rfl, fOk_cons (p_put3 rfl (by decide) ?_) fOk_nil⟩ <;> simp only [List.map, xv, fev, fvl, gtI, Int.one_mul, Int.add_zero, Int.zero_add, List.append_nil]
  exact q
def r_r10_bad2 : eRul := (15, [xP 69 [xv 0, xv 1, ([], 10), xv 2, xv 3, xv 4, xv 5, xv 6, xv 7, xv 8, ([], 0), xv 9, xv 10, xv 11, xv 12, xv 13, xv 14], xP 79 [xv 9, xv 14, ([], 1)], xP 96 [xv 4, xv 3, ([], 0), ([], 0), xv 14, ([], -1)]], 0, [xP 64 [xv 0, xv 1, ([(10, -1)], -1), ([], 3)]])
theorem r_r10_bad2_ok : ruOk r_r10_bad2 := by
  intro ρ hl0 hp
  obtain ⟨z, t0, rfl, hl1⟩ := len_inv hl0
  obtain ⟨n, t1, rfl, hl2⟩ := len_inv hl1
  obtain ⟨k, t2, rfl, hl3⟩ := len_inv hl2
  obtain ⟨zr, t3, rfl, hl4⟩ := len_inv hl3
  obtain ⟨zm, t4, rfl, hl5⟩ := len_inv hl4
  obtain ⟨o0, t5, rfl, hl6⟩ := len_inv hl5
  obtain ⟨o1, t6, rfl, hl7⟩ := len_inv hl6
  obtain ⟨o2, t7, rfl, hl8⟩ := len_inv hl7
  obtain ⟨o3, t8, rfl, hl9⟩ := len_inv hl8
  obtain ⟨kd, t9, rfl, hl10⟩ := len_inv hl9
  obtain ⟨fr, t10, rfl, hl11⟩ := len_inv hl10
  obtain ⟨to, t11, rfl, hl12⟩ := len_inv hl11
  obtain ⟨nu, t12, rfl, hl13⟩ := len_inv hl12
  obtain ⟨sg, t13, rfl, hl14⟩ := len_inv hl13
  obtain ⟨w, t14, rfl, hl15⟩ := len_inv hl14
  have hl := List.eq_nil_of_length_eq_zero hl15
  subst hl
  have p1 := p_get3 (by decide) (fOk_hd hp)
  have p2 := p_get3 (by decide) (fOk_hd (fOk_tl hp))
  have p3 := p_get3 (by decide) (fOk_hd (fOk_tl (fOk_tl hp)))
  simp only [List.map, xv, fev, fvl, gtI, Int.one_mul, Int.add_zero, Int.zero_add] at p1 p2 p3
  have q := k_r10_bad2 (z := z) (n := n) (k := k) (zr := zr) (zm := zm) (o0 := o0) (o1 := o1) (o2 := o2) (o3 := o3) (kd := kd) (fr := fr) (to := to) (nu := nu) (sg := sg) (w := w) (q3 p1) p2 p3
  refine ⟨[], rfl, fOk_cons (p_put3 rfl (by decide) ?_) fOk_nil⟩ <;> simp only [List.map, xv, fev, fvl, gtI, Int.one_mul, Int.add_zero, Int.zero_add, List.append_nil]
  exact q
def r_r16_ok : eRul := (16, [xP 69 [xv 0, xv 1, ([], 16), xv 2, xv 3, xv 4, xv 5, xv 6, xv 7, xv 8, ([], 0), xv 9, xv 10, xv 11, xv 12, xv 13, xv 14], xP 79 [xv 9, xv 14, ([], 1)], xP 96 [xv 4, xv 3, ([], 13), ([], 2), xv 14, xv 15], xG (([(15, -1)], 0))], 0, [xP 67 [xv 0, xv 1, ([], 17), xv 11, xv 2, xv 3, xv 4, xv 5, xv 6, xv 7, xv 8, xv 15]])
theorem r_r16_ok_ok : ruOk r_r16_ok := by
  intro ρ hl0 hp
  obtain ⟨z, t0, rfl, hl1⟩ := len_inv hl0
  obtain ⟨n, t1, rfl, hl2⟩ := len_inv hl1
  obtain ⟨k, t2, rfl, hl3⟩ := len_inv hl2
  obtain ⟨zr, t3, rfl, hl4⟩ := len_inv hl3
  obtain ⟨zm, t4, rfl, hl5⟩ := len_inv hl4
  obtain ⟨o0, t5, rfl, hl6⟩ := len_inv hl5
  obtain ⟨o1, t6, rfl, hl7⟩ := len_inv hl6
  obtain ⟨o2, t7, rfl, hl8⟩ := len_inv hl7
  obtain ⟨o3, t8, rfl, hl9⟩ := len_inv hl8
  obtain ⟨kd, t9, rfl, hl10⟩ := len_inv hl9
  obtain ⟨fr, t10, rfl, hl11⟩ := len_inv hl10
  obtain ⟨to, t11, rfl, hl12⟩ := len_inv hl11
  obtain ⟨nu, t12, rfl, hl13⟩ := len_inv hl12
  obtain ⟨sg, t13, rfl, hl14⟩ := len_inv hl13
  obtain ⟨w, t14, rfl, hl15⟩ := len_inv hl14
  obtain ⟨i, t15, rfl, hl16⟩ := len_inv hl15
  have hl := List.eq_nil_of_length_eq_zero hl16
  subst hl
  have p1 := p_get3 (by decide) (fOk_hd hp)
  have p2 := p_get3 (by decide) (fOk_hd (fOk_tl hp))
  have p3 := p_get3 (by decide) (fOk_hd (fOk_tl (fOk_tl hp)))
  have p4 := gg_get (fOk_hd (fOk_tl (fOk_tl (fOk_tl hp))))
  simp only [List.map, xv, fev, fvl, gtI, Int.one_mul, Int.add_zero, Int.zero_add] at p1 p2 p3 p4
  have q := k_r16_ok (z := z) (n := n) (k := k) (zr := zr) (zm := zm) (o0 := o0) (o1 := o1) (o2 := o2) (o3 := o3) (kd := kd) (fr := fr) (to := to) (nu := nu) (sg := sg) (w := w) (i := i) (q3 p1) p2 p3 p4
  refine ⟨[], rfl, fOk_cons (p_put3 rfl (by decide) ?_) fOk_nil⟩ <;> simp only [List.map, xv, fev, fvl, gtI, Int.one_mul, Int.add_zero, Int.zero_add, List.append_nil]
  exact q
def r_r16_bad1 : eRul := (15, [xP 69 [xv 0, xv 1, ([], 16), xv 2, xv 3, xv 4, xv 5, xv 6, xv 7, xv 8, ([], 0), xv 9, xv 10, xv 11, xv 12, xv 13, xv 14], xP 79 [xv 9, xv 14, ([], 0)]], 0, [xP 64 [xv 0, xv 1, ([(10, -1)], -1), ([], 1)]])
theorem r_r16_bad1_ok : ruOk r_r16_bad1 := by
  intro ρ hl0 hp
  obtain ⟨z, t0, rfl, hl1⟩ := len_inv hl0
  obtain ⟨n, t1, rfl, hl2⟩ := len_inv hl1
  obtain ⟨k, t2, rfl, hl3⟩ := len_inv hl2
  obtain ⟨zr, t3, rfl, hl4⟩ := len_inv hl3
  obtain ⟨zm, t4, rfl, hl5⟩ := len_inv hl4
  obtain ⟨o0, t5, rfl, hl6⟩ := len_inv hl5
  obtain ⟨o1, t6, rfl, hl7⟩ := len_inv hl6
  obtain ⟨o2, t7, rfl, hl8⟩ := len_inv hl7
  obtain ⟨o3, t8, rfl, hl9⟩ := len_inv hl8
  obtain ⟨kd, t9, rfl, hl10⟩ := len_inv hl9
  obtain ⟨fr, t10, rfl, hl11⟩ := len_inv hl10
  obtain ⟨to, t11, rfl, hl12⟩ := len_inv hl11
  obtain ⟨nu, t12, rfl, hl13⟩ := len_inv hl12
  obtain ⟨sg, t13, rfl, hl14⟩ := len_inv hl13
  obtain ⟨w, t14, rfl, hl15⟩ := len_inv hl14
  have hl := List.eq_nil_of_length_eq_zero hl15
  subst hl
  have p1 := p_get3 (by decide) (fOk_hd hp)
  have p2 := p_get3 (by decide) (fOk_hd (fOk_tl hp))
  simp only [List.map, xv, fev, fvl, gtI, Int.one_mul, Int.add_zero, Int.zero_add] at p1 p2
  have q := k_r16_bad1 (z := z) (n := n) (k := k) (zr := zr) (zm := zm) (o0 := o0) (o1 := o1) (o2 := o2) (o3 := o3) (kd := kd) (fr := fr) (to := to) (nu := nu) (sg := sg) (w := w) (q3 p1) p2
  refine ⟨[], rfl, fOk_cons (p_put3 rfl (by decide) ?_) fOk_nil⟩ <;> simp only [List.map, xv, fev, fvl, gtI, Int.one_mul, Int.add_zero, Int.zero_add, List.append_nil]
  exact q
def r_r16_bad2 : eRul := (15, [xP 69 [xv 0, xv 1, ([], 16), xv 2, xv 3, xv 4, xv 5, xv 6, xv 7, xv 8, ([], 0), xv 9, xv 10, xv 11, xv 12, xv 13, xv 14], xP 79 [xv 9, xv 14, ([], 1)], xP 96 [xv 4, xv 3, ([], 13), ([], 2), xv 14, ([], -1)]], 0, [xP 64 [xv 0, xv 1, ([(10, -1)], -1), ([], 3)]])
theorem r_r16_bad2_ok : ruOk r_r16_bad2 := by
  intro ρ hl0 hp
  obtain ⟨z, t0, rfl, hl1⟩ := len_inv hl0
  obtain ⟨n, t1, rfl, hl2⟩ := len_inv hl1
  obtain ⟨k, t2, rfl, hl3⟩ := len_inv hl2
  obtain ⟨zr, t3, rfl, hl4⟩ := len_inv hl3
  obtain ⟨zm, t4, rfl, hl5⟩ := len_inv hl4
  obtain ⟨o0, t5, rfl, hl6⟩ := len_inv hl5
  obtain ⟨o1, t6, rfl, hl7⟩ := len_inv hl6
  obtain ⟨o2, t7, rfl, hl8⟩ := len_inv hl7
  obtain ⟨o3, t8, rfl, hl9⟩ := len_inv hl8
  obtain ⟨kd, t9, rfl, hl10⟩ := len_inv hl9
  obtain ⟨fr, t10, rfl, hl11⟩ := len_inv hl10
  obtain ⟨to, t11, rfl, hl12⟩ := len_inv hl11
  obtain ⟨nu, t12, rfl, hl13⟩ := len_inv hl12
  obtain ⟨sg, t13, rfl, hl14⟩ := len_inv hl13
  obtain ⟨w, t14, rfl, hl15⟩ := len_inv hl14
  have hl := List.eq_nil_of_length_eq_zero hl15
  subst hl
  have p1 := p_get3 (by decide) (fOk_hd hp)
  have p2 := p_get3 (by decide) (fOk_hd (fOk_tl hp))
  have p3 := p_get3 (by decide) (fOk_hd (fOk_tl (fOk_tl hp)))
  simp only [List.map, xv, fev, fvl, gtI, Int.one_mul, Int.add_zero, Int.zero_add] at p1 p2 p3
  have q := k_r16_bad2 (z := z) (n := n) (k := k) (zr := zr) (zm := zm) (o0 := o0) (o1 := o1) (o2 := o2) (o3 := o3) (kd := kd) (fr := fr) (to := to) (nu := nu) (sg := sg) (w := w) (q3 p1) p2 p3
  refine ⟨[], rfl, fOk_cons (p_put3 rfl (by decide) ?_) fOk_nil⟩ <;> simp only [List.map, xv, fev, fvl, gtI, Int.one_mul, Int.add_zero, Int.zero_add, List.append_nil]
  exact q
def r_r17_ok : eRul := (23, [xP 69 [xv 0, xv 1, ([], 17), xv 2, xv 3, xv 4, xv 5, xv 6, xv 7, xv 8, xv 9, xv 10, xv 11, xv 12, xv 13, xv 14, xv 15], xP 79 [xv 10, xv 15, ([], 1)], xP 96 [xv 4, xv 3, ([], 13), ([], 2), xv 15, xv 16], xG (([(16, -1)], 0)), xP 89 [xv 3, ([(9, 1)], 54), xv 16, ([], 0)], xP 1 [xv 17, xv 3, ([(9, 1)], 54)], xP 63 [xv 18, xv 17, xv 16], xP 2 [xv 19, xv 3, ([(9, 1)], 54), xv 18], xP 1 [xv 20, xv 19, ([(16, 1)], 54)], xP 63 [xv 21, xv 20, xv 9], xP 2 [xv 22, xv 19, ([(16, 1)], 54), xv 21], xP 86 [xv 9, xv 16]], 0, [xP 67 [xv 0, xv 1, ([], 30), xv 12, xv 2, xv 22, xv 4, xv 5, xv 6, xv 7, xv 8, ([], 0)]])
theorem r_r17_ok_ok : ruOk r_r17_ok := by
  intro ρ hl0 hp
  obtain ⟨z, t0, rfl, hl1⟩ := len_inv hl0
  obtain ⟨n, t1, rfl, hl2⟩ := len_inv hl1
  obtain ⟨k, t2, rfl, hl3⟩ := len_inv hl2
  obtain ⟨zr, t3, rfl, hl4⟩ := len_inv hl3
  obtain ⟨zm, t4, rfl, hl5⟩ := len_inv hl4
  obtain ⟨o0, t5, rfl, hl6⟩ := len_inv hl5
  obtain ⟨o1, t6, rfl, hl7⟩ := len_inv hl6
  obtain ⟨o2, t7, rfl, hl8⟩ := len_inv hl7
  obtain ⟨o3, t8, rfl, hl9⟩ := len_inv hl8
  obtain ⟨u, t9, rfl, hl10⟩ := len_inv hl9
  obtain ⟨kd, t10, rfl, hl11⟩ := len_inv hl10
  obtain ⟨fr, t11, rfl, hl12⟩ := len_inv hl11
  obtain ⟨to, t12, rfl, hl13⟩ := len_inv hl12
  obtain ⟨nu, t13, rfl, hl14⟩ := len_inv hl13
  obtain ⟨sg, t14, rfl, hl15⟩ := len_inv hl14
  obtain ⟨w, t15, rfl, hl16⟩ := len_inv hl15
  obtain ⟨i, t16, rfl, hl17⟩ := len_inv hl16
  obtain ⟨x, t17, rfl, hl18⟩ := len_inv hl17
  obtain ⟨x2, t18, rfl, hl19⟩ := len_inv hl18
  obtain ⟨zr2, t19, rfl, hl20⟩ := len_inv hl19
  obtain ⟨y, t20, rfl, hl21⟩ := len_inv hl20
  obtain ⟨y2, t21, rfl, hl22⟩ := len_inv hl21
  obtain ⟨zr3, t22, rfl, hl23⟩ := len_inv hl22
  have hl := List.eq_nil_of_length_eq_zero hl23
  subst hl
  have p1 := p_get3 (by decide) (fOk_hd hp)
  have p2 := p_get3 (by decide) (fOk_hd (fOk_tl hp))
  have p3 := p_get3 (by decide) (fOk_hd (fOk_tl (fOk_tl hp)))
  have p4 := gg_get (fOk_hd (fOk_tl (fOk_tl (fOk_tl hp))))
  have p5 := p_get3 (by decide) (fOk_hd (fOk_tl (fOk_tl (fOk_tl (fOk_tl hp)))))
  have p6 := p_get (fOk_hd (fOk_tl (fOk_tl (fOk_tl (fOk_tl (fOk_tl hp))))))
  have p7 := p_get3 (by decide) (fOk_hd (fOk_tl (fOk_tl (fOk_tl (fOk_tl (fOk_tl (fOk_tl hp)))))))
  have p8 := p_get (fOk_hd (fOk_tl (fOk_tl (fOk_tl (fOk_tl (fOk_tl (fOk_tl (fOk_tl hp))))))))
  have p9 := p_get (fOk_hd (fOk_tl (fOk_tl (fOk_tl (fOk_tl (fOk_tl (fOk_tl (fOk_tl (fOk_tl hp)))))))))
  have p10 := p_get3 (by decide) (fOk_hd (fOk_tl (fOk_tl (fOk_tl (fOk_tl (fOk_tl (fOk_tl (fOk_tl (fOk_tl (fOk_tl hp))))))))))
  have p11 := p_get (fOk_hd (fOk_tl (fOk_tl (fOk_tl (fOk_tl (fOk_tl (fOk_tl (fOk_tl (fOk_tl (fOk_tl (fOk_tl hp)))))))))))
  have p12 := p_get3 (by decide) (fOk_hd (fOk_tl (fOk_tl (fOk_tl (fOk_tl (fOk_tl (fOk_tl (fOk_tl (fOk_tl (fOk_tl (fOk_tl (fOk_tl hp))))))))))))
  simp only [List.map, xv, fev, fvl, gtI, Int.one_mul, Int.add_zero, Int.zero_add, PR] at p1 p2 p3 p4 p5 p6 p7 p8 p9 p10 p11 p12
  have q := k_r17_ok (z := z) (n := n) (k := k) (zr := zr) (zm := zm) (o0 := o0) (o1 := o1) (o2 := o2) (o3 := o3) (u := u) (kd := kd) (fr := fr) (to := to) (nu := nu) (sg := sg) (w := w) (i := i) (x := x) (x2 := x2) (zr2 := zr2) (y := y) (y2 := y2) (zr3 := zr3) (q3 p1) p2 p3 p4 p5 p6 p7 p8 p9 p10 p11 p12
  refine ⟨[], rfl, fOk_cons (p_put3 rfl (by decide) ?_) fOk_nil⟩ <;> simp only [List.map, xv, fev, fvl, gtI, Int.one_mul, Int.add_zero, Int.zero_add, List.append_nil]
  exact q
def r_r17_bad1 : eRul := (16, [xP 69 [xv 0, xv 1, ([], 17), xv 2, xv 3, xv 4, xv 5, xv 6, xv 7, xv 8, xv 9, xv 10, xv 11, xv 12, xv 13, xv 14, xv 15], xP 79 [xv 10, xv 15, ([], 0)]], 0, [xP 64 [xv 0, xv 1, ([(11, -1)], -1), ([], 1)]])
theorem r_r17_bad1_ok : ruOk r_r17_bad1 := by
  intro ρ hl0 hp
  obtain ⟨z, t0, rfl, hl1⟩ := len_inv hl0
  obtain ⟨n, t1, rfl, hl2⟩ := len_inv hl1
  obtain ⟨k, t2, rfl, hl3⟩ := len_inv hl2
  obtain ⟨zr, t3, rfl, hl4⟩ := len_inv hl3
  obtain ⟨zm, t4, rfl, hl5⟩ := len_inv hl4
  obtain ⟨o0, t5, rfl, hl6⟩ := len_inv hl5
  obtain ⟨o1, t6, rfl, hl7⟩ := len_inv hl6
  obtain ⟨o2, t7, rfl, hl8⟩ := len_inv hl7
  obtain ⟨o3, t8, rfl, hl9⟩ := len_inv hl8
  obtain ⟨u, t9, rfl, hl10⟩ := len_inv hl9
  obtain ⟨kd, t10, rfl, hl11⟩ := len_inv hl10
  obtain ⟨fr, t11, rfl, hl12⟩ := len_inv hl11
  obtain ⟨to, t12, rfl, hl13⟩ := len_inv hl12
  obtain ⟨nu, t13, rfl, hl14⟩ := len_inv hl13
  obtain ⟨sg, t14, rfl, hl15⟩ := len_inv hl14
  obtain ⟨w, t15, rfl, hl16⟩ := len_inv hl15
  have hl := List.eq_nil_of_length_eq_zero hl16
  subst hl
  have p1 := p_get3 (by decide) (fOk_hd hp)
  have p2 := p_get3 (by decide) (fOk_hd (fOk_tl hp))
  simp only [List.map, xv, fev, fvl, gtI, Int.one_mul, Int.add_zero, Int.zero_add] at p1 p2
  have q := k_r17_bad1 (z := z) (n := n) (k := k) (zr := zr) (zm := zm) (o0 := o0) (o1 := o1) (o2 := o2) (o3 := o3) (u := u) (kd := kd) (fr := fr) (to := to) (nu := nu) (sg := sg) (w := w) (q3 p1) p2
  refine ⟨[], rfl, fOk_cons (p_put3 rfl (by decide) ?_) fOk_nil⟩ <;> simp only [List.map, xv, fev, fvl, gtI, Int.one_mul, Int.add_zero, Int.zero_add, List.append_nil]
  exact q
def r_r17_bad2 : eRul := (16, [xP 69 [xv 0, xv 1, ([], 17), xv 2, xv 3, xv 4, xv 5, xv 6, xv 7, xv 8, xv 9, xv 10, xv 11, xv 12, xv 13, xv 14, xv 15], xP 79 [xv 10, xv 15, ([], 1)], xP 96 [xv 4, xv 3, ([], 13), ([], 2), xv 15, ([], -1)]], 0, [xP 64 [xv 0, xv 1, ([(11, -1)], -1), ([], 3)]])
theorem r_r17_bad2_ok : ruOk r_r17_bad2 := by
  intro ρ hl0 hp
  obtain ⟨z, t0, rfl, hl1⟩ := len_inv hl0
  obtain ⟨n, t1, rfl, hl2⟩ := len_inv hl1
  obtain ⟨k, t2, rfl, hl3⟩ := len_inv hl2
  obtain ⟨zr, t3, rfl, hl4⟩ := len_inv hl3
  obtain ⟨zm, t4, rfl, hl5⟩ := len_inv hl4
  obtain ⟨o0, t5, rfl, hl6⟩ := len_inv hl5
  obtain ⟨o1, t6, rfl, hl7⟩ := len_inv hl6
  obtain ⟨o2, t7, rfl, hl8⟩ := len_inv hl7
  obtain ⟨o3, t8, rfl, hl9⟩ := len_inv hl8
  obtain ⟨u, t9, rfl, hl10⟩ := len_inv hl9
  obtain ⟨kd, t10, rfl, hl11⟩ := len_inv hl10
  obtain ⟨fr, t11, rfl, hl12⟩ := len_inv hl11
  obtain ⟨to, t12, rfl, hl13⟩ := len_inv hl12
  obtain ⟨nu, t13, rfl, hl14⟩ := len_inv hl13
  obtain ⟨sg, t14, rfl, hl15⟩ := len_inv hl14
  obtain ⟨w, t15, rfl, hl16⟩ := len_inv hl15
  have hl := List.eq_nil_of_length_eq_zero hl16
  subst hl
  have p1 := p_get3 (by decide) (fOk_hd hp)
  have p2 := p_get3 (by decide) (fOk_hd (fOk_tl hp))
  have p3 := p_get3 (by decide) (fOk_hd (fOk_tl (fOk_tl hp)))
  simp only [List.map, xv, fev, fvl, gtI, Int.one_mul, Int.add_zero, Int.zero_add] at p1 p2 p3
  have q := k_r17_bad2 (z := z) (n := n) (k := k) (zr := zr) (zm := zm) (o0 := o0) (o1 := o1) (o2 := o2) (o3 := o3) (u := u) (kd := kd) (fr := fr) (to := to) (nu := nu) (sg := sg) (w := w) (q3 p1) p2 p3
  refine ⟨[], rfl, fOk_cons (p_put3 rfl (by decide) ?_) fOk_nil⟩ <;> simp only [List.map, xv, fev, fvl, gtI, Int.one_mul, Int.add_zero, Int.zero_add, List.append_nil]
  exact q
def r_r17_bad3 : eRul := (17, [xP 69 [xv 0, xv 1, ([], 17), xv 2, xv 3, xv 4, xv 5, xv 6, xv 7, xv 8, xv 9, xv 10, xv 11, xv 12, xv 13, xv 14, xv 15], xP 79 [xv 10, xv 15, ([], 1)], xP 96 [xv 4, xv 3, ([], 13), ([], 2), xv 15, xv 16], xG (([(9, 1), (16, -1)], 0)), xG (([(9, -1), (16, 1)], 0)), xG (([(16, -1)], 0))], 0, [xP 64 [xv 0, xv 1, ([(11, -1)], -1), ([], 3)]])
theorem r_r17_bad3_ok : ruOk r_r17_bad3 := by
  intro ρ hl0 hp
  obtain ⟨z, t0, rfl, hl1⟩ := len_inv hl0
  obtain ⟨n, t1, rfl, hl2⟩ := len_inv hl1
  obtain ⟨k, t2, rfl, hl3⟩ := len_inv hl2
  obtain ⟨zr, t3, rfl, hl4⟩ := len_inv hl3
  obtain ⟨zm, t4, rfl, hl5⟩ := len_inv hl4
  obtain ⟨o0, t5, rfl, hl6⟩ := len_inv hl5
  obtain ⟨o1, t6, rfl, hl7⟩ := len_inv hl6
  obtain ⟨o2, t7, rfl, hl8⟩ := len_inv hl7
  obtain ⟨o3, t8, rfl, hl9⟩ := len_inv hl8
  obtain ⟨u, t9, rfl, hl10⟩ := len_inv hl9
  obtain ⟨kd, t10, rfl, hl11⟩ := len_inv hl10
  obtain ⟨fr, t11, rfl, hl12⟩ := len_inv hl11
  obtain ⟨to, t12, rfl, hl13⟩ := len_inv hl12
  obtain ⟨nu, t13, rfl, hl14⟩ := len_inv hl13
  obtain ⟨sg, t14, rfl, hl15⟩ := len_inv hl14
  obtain ⟨w, t15, rfl, hl16⟩ := len_inv hl15
  obtain ⟨i, t16, rfl, hl17⟩ := len_inv hl16
  have hl := List.eq_nil_of_length_eq_zero hl17
  subst hl
  have p1 := p_get3 (by decide) (fOk_hd hp)
  have p2 := p_get3 (by decide) (fOk_hd (fOk_tl hp))
  have p3 := p_get3 (by decide) (fOk_hd (fOk_tl (fOk_tl hp)))
  have p4 := gg_get (fOk_hd (fOk_tl (fOk_tl (fOk_tl hp))))
  have p5 := gg_get (fOk_hd (fOk_tl (fOk_tl (fOk_tl (fOk_tl hp)))))
  have p6 := gg_get (fOk_hd (fOk_tl (fOk_tl (fOk_tl (fOk_tl (fOk_tl hp))))))
  simp only [List.map, xv, fev, fvl, gtI, Int.one_mul, Int.add_zero, Int.zero_add] at p1 p2 p3 p4 p5 p6
  have q := k_r17_bad3 (z := z) (n := n) (k := k) (zr := zr) (zm := zm) (o0 := o0) (o1 := o1) (o2 := o2) (o3 := o3) (u := u) (kd := kd) (fr := fr) (to := to) (nu := nu) (sg := sg) (w := w) (i := i) (q3 p1) p2 p3 p4 p5 p6
  refine ⟨[], rfl, fOk_cons (p_put3 rfl (by decide) ?_) fOk_nil⟩ <;> simp only [List.map, xv, fev, fvl, gtI, Int.one_mul, Int.add_zero, Int.zero_add, List.append_nil]
  exact q
def r_r17_bad4 : eRul := (17, [xP 69 [xv 0, xv 1, ([], 17), xv 2, xv 3, xv 4, xv 5, xv 6, xv 7, xv 8, xv 9, xv 10, xv 11, xv 12, xv 13, xv 14, xv 15], xP 79 [xv 10, xv 15, ([], 1)], xP 96 [xv 4, xv 3, ([], 13), ([], 2), xv 15, xv 16], xG (([(16, -1)], 0)), xP 89 [xv 3, ([(9, 1)], 54), xv 16, ([], 1)]], 0, [xP 64 [xv 0, xv 1, ([(11, -1)], -1), ([], 3)]])
theorem r_r17_bad4_ok : ruOk r_r17_bad4 := by
  intro ρ hl0 hp
  obtain ⟨z, t0, rfl, hl1⟩ := len_inv hl0
  obtain ⟨n, t1, rfl, hl2⟩ := len_inv hl1
  obtain ⟨k, t2, rfl, hl3⟩ := len_inv hl2
  obtain ⟨zr, t3, rfl, hl4⟩ := len_inv hl3
  obtain ⟨zm, t4, rfl, hl5⟩ := len_inv hl4
  obtain ⟨o0, t5, rfl, hl6⟩ := len_inv hl5
  obtain ⟨o1, t6, rfl, hl7⟩ := len_inv hl6
  obtain ⟨o2, t7, rfl, hl8⟩ := len_inv hl7
  obtain ⟨o3, t8, rfl, hl9⟩ := len_inv hl8
  obtain ⟨u, t9, rfl, hl10⟩ := len_inv hl9
  obtain ⟨kd, t10, rfl, hl11⟩ := len_inv hl10
  obtain ⟨fr, t11, rfl, hl12⟩ := len_inv hl11
  obtain ⟨to, t12, rfl, hl13⟩ := len_inv hl12
  obtain ⟨nu, t13, rfl, hl14⟩ := len_inv hl13
  obtain ⟨sg, t14, rfl, hl15⟩ := len_inv hl14
  obtain ⟨w, t15, rfl, hl16⟩ := len_inv hl15
  obtain ⟨i, t16, rfl, hl17⟩ := len_inv hl16
  have hl := List.eq_nil_of_length_eq_zero hl17
  subst hl
  have p1 := p_get3 (by decide) (fOk_hd hp)
  have p2 := p_get3 (by decide) (fOk_hd (fOk_tl hp))
  have p3 := p_get3 (by decide) (fOk_hd (fOk_tl (fOk_tl hp)))
  have p4 := gg_get (fOk_hd (fOk_tl (fOk_tl (fOk_tl hp))))
  have p5 := p_get3 (by decide) (fOk_hd (fOk_tl (fOk_tl (fOk_tl (fOk_tl hp)))))
  simp only [List.map, xv, fev, fvl, gtI, Int.one_mul, Int.add_zero, Int.zero_add] at p1 p2 p3 p4 p5
  have q := k_r17_bad4 (z := z) (n := n) (k := k) (zr := zr) (zm := zm) (o0 := o0) (o1 := o1) (o2 := o2) (o3 := o3) (u := u) (kd := kd) (fr := fr) (to := to) (nu := nu) (sg := sg) (w := w) (i := i) (q3 p1) p2 p3 p4 p5
  refine ⟨[], rfl, fOk_cons (p_put3 rfl (by decide) ?_) fOk_nil⟩ <;> simp only [List.map, xv, fev, fvl, gtI, Int.one_mul, Int.add_zero, Int.zero_add, List.append_nil]
  exact q
def r_r18_ok : eRul := (17, [xP 69 [xv 0, xv 1, ([], 18), xv 2, xv 3, xv 4, xv 5, xv 6, xv 7, xv 8, ([], 0), xv 9, xv 10, xv 11, xv 12, xv 13, xv 14], xP 79 [xv 9, xv 14, ([], 1)], xP 96 [xv 4, xv 3, ([], 13), ([], 2), xv 14, xv 15], xG (([(15, -1)], 0)), xP 1 [xv 16, xv 3, ([(15, 1)], 60)], (.inl [[(-1, -1)]], [xv 16])], 0, [xP 67 [xv 0, xv 1, ([], 19), xv 11, xv 2, xv 3, xv 4, xv 5, xv 6, xv 7, xv 8, xv 15]])
theorem r_r18_ok_ok : ruOk r_r18_ok := by
  intro ρ hl0 hp
  obtain ⟨z, t0, rfl, hl1⟩ := len_inv hl0
  obtain ⟨n, t1, rfl, hl2⟩ := len_inv hl1
  obtain ⟨k, t2, rfl, hl3⟩ := len_inv hl2
  obtain ⟨zr, t3, rfl, hl4⟩ := len_inv hl3
  obtain ⟨zm, t4, rfl, hl5⟩ := len_inv hl4
  obtain ⟨o0, t5, rfl, hl6⟩ := len_inv hl5
  obtain ⟨o1, t6, rfl, hl7⟩ := len_inv hl6
  obtain ⟨o2, t7, rfl, hl8⟩ := len_inv hl7
  obtain ⟨o3, t8, rfl, hl9⟩ := len_inv hl8
  obtain ⟨kd, t9, rfl, hl10⟩ := len_inv hl9
  obtain ⟨fr, t10, rfl, hl11⟩ := len_inv hl10
  obtain ⟨to, t11, rfl, hl12⟩ := len_inv hl11
  obtain ⟨nu, t12, rfl, hl13⟩ := len_inv hl12
  obtain ⟨sg, t13, rfl, hl14⟩ := len_inv hl13
  obtain ⟨w, t14, rfl, hl15⟩ := len_inv hl14
  obtain ⟨i, t15, rfl, hl16⟩ := len_inv hl15
  obtain ⟨x, t16, rfl, hl17⟩ := len_inv hl16
  have hl := List.eq_nil_of_length_eq_zero hl17
  subst hl
  have p1 := p_get3 (by decide) (fOk_hd hp)
  have p2 := p_get3 (by decide) (fOk_hd (fOk_tl hp))
  have p3 := p_get3 (by decide) (fOk_hd (fOk_tl (fOk_tl hp)))
  have p4 := gg_get (fOk_hd (fOk_tl (fOk_tl (fOk_tl hp))))
  have p5 := p_get (fOk_hd (fOk_tl (fOk_tl (fOk_tl (fOk_tl hp)))))
  have p6 := i_get (fOk_hd (fOk_tl (fOk_tl (fOk_tl (fOk_tl (fOk_tl hp))))))
  simp only [List.map, xv, fev, fvl, gtI, Int.one_mul, Int.add_zero, Int.zero_add, PR] at p1 p2 p3 p4 p5 p6
  have q := k_r18_ok (z := z) (n := n) (k := k) (zr := zr) (zm := zm) (o0 := o0) (o1 := o1) (o2 := o2) (o3 := o3) (kd := kd) (fr := fr) (to := to) (nu := nu) (sg := sg) (w := w) (i := i) (x := x) (q3 p1) p2 p3 p4 p5 p6
  refine ⟨[], rfl, fOk_cons (p_put3 rfl (by decide) ?_) fOk_nil⟩ <;> simp only [List.map, xv, fev, fvl, gtI, Int.one_mul, Int.add_zero, Int.zero_add, List.append_nil]
  exact q
def r_r18_bad1 : eRul := (15, [xP 69 [xv 0, xv 1, ([], 18), xv 2, xv 3, xv 4, xv 5, xv 6, xv 7, xv 8, ([], 0), xv 9, xv 10, xv 11, xv 12, xv 13, xv 14], xP 79 [xv 9, xv 14, ([], 0)]], 0, [xP 64 [xv 0, xv 1, ([(10, -1)], -1), ([], 1)]])
theorem r_r18_bad1_ok : ruOk r_r18_bad1 := by
  intro ρ hl0 hp
  obtain ⟨z, t0, rfl, hl1⟩ := len_inv hl0
  obtain ⟨n, t1, rfl, hl2⟩ := len_inv hl1
  obtain ⟨k, t2, rfl, hl3⟩ := len_inv hl2
  obtain ⟨zr, t3, rfl, hl4⟩ := len_inv hl3
  obtain ⟨zm, t4, rfl, hl5⟩ := len_inv hl4
  obtain ⟨o0, t5, rfl, hl6⟩ := len_inv hl5
  obtain ⟨o1, t6, rfl, hl7⟩ := len_inv hl6
  obtain ⟨o2, t7, rfl, hl8⟩ := len_inv hl7
  obtain ⟨o3, t8, rfl, hl9⟩ := len_inv hl8
  obtain ⟨kd, t9, rfl, hl10⟩ := len_inv hl9
  obtain ⟨fr, t10, rfl, hl11⟩ := len_inv hl10
  obtain ⟨to, t11, rfl, hl12⟩ := len_inv hl11
  obtain ⟨nu, t12, rfl, hl13⟩ := len_inv hl12
  obtain ⟨sg, t13, rfl, hl14⟩ := len_inv hl13
  obtain ⟨w, t14, rfl, hl15⟩ := len_inv hl14
  have hl := List.eq_nil_of_length_eq_zero hl15
  subst hl
  have p1 := p_get3 (by decide) (fOk_hd hp)
  have p2 := p_get3 (by decide) (fOk_hd (fOk_tl hp))
  simp only [List.map, xv, fev, fvl, gtI, Int.one_mul, Int.add_zero, Int.zero_add] at p1 p2
  have q := k_r18_bad1 (z := z) (n := n) (k := k) (zr := zr) (zm := zm) (o0 := o0) (o1 := o1) (o2 := o2) (o3 := o3) (kd := kd) (fr := fr) (to := to) (nu := nu) (sg := sg) (w := w) (q3 p1) p2
  refine ⟨[], rfl, fOk_cons (p_put3 rfl (by decide) ?_) fOk_nil⟩ <;> simp only [List.map, xv, fev, fvl, gtI, Int.one_mul, Int.add_zero, Int.zero_add, List.append_nil]
  exact q
def r_r18_bad2 : eRul := (15, [xP 69 [xv 0, xv 1, ([], 18), xv 2, xv 3, xv 4, xv 5, xv 6, xv 7, xv 8, ([], 0), xv 9, xv 10, xv 11, xv 12, xv 13, xv 14], xP 79 [xv 9, xv 14, ([], 1)], xP 96 [xv 4, xv 3, ([], 13), ([], 2), xv 14, ([], -1)]], 0, [xP 64 [xv 0, xv 1, ([(10, -1)], -1), ([], 3)]])
theorem r_r18_bad2_ok : ruOk r_r18_bad2 := by
  intro ρ hl0 hp
  obtain ⟨z, t0, rfl, hl1⟩ := len_inv hl0
  obtain ⟨n, t1, rfl, hl2⟩ := len_inv hl1
  obtain ⟨k, t2, rfl, hl3⟩ := len_inv hl2
  obtain ⟨zr, t3, rfl, hl4⟩ := len_inv hl3
  obtain ⟨zm, t4, rfl, hl5⟩ := len_inv hl4
  obtain ⟨o0, t5, rfl, hl6⟩ := len_inv hl5
  obtain ⟨o1, t6, rfl, hl7⟩ := len_inv hl6
  obtain ⟨o2, t7, rfl, hl8⟩ := len_inv hl7
  obtain ⟨o3, t8, rfl, hl9⟩ := len_inv hl8
  obtain ⟨kd, t9, rfl, hl10⟩ := len_inv hl9
  obtain ⟨fr, t10, rfl, hl11⟩ := len_inv hl10
  obtain ⟨to, t11, rfl, hl12⟩ := len_inv hl11
  obtain ⟨nu, t12, rfl, hl13⟩ := len_inv hl12
  obtain ⟨sg, t13, rfl, hl14⟩ := len_inv hl13
  obtain ⟨w, t14, rfl, hl15⟩ := len_inv hl14
  have hl := List.eq_nil_of_length_eq_zero hl15
  subst hl
  have p1 := p_get3 (by decide) (fOk_hd hp)
  have p2 := p_get3 (by decide) (fOk_hd (fOk_tl hp))
  have p3 := p_get3 (by decide) (fOk_hd (fOk_tl (fOk_tl hp)))
  simp only [List.map, xv, fev, fvl, gtI, Int.one_mul, Int.add_zero, Int.zero_add] at p1 p2 p3
  have q := k_r18_bad2 (z := z) (n := n) (k := k) (zr := zr) (zm := zm) (o0 := o0) (o1 := o1) (o2 := o2) (o3 := o3) (kd := kd) (fr := fr) (to := to) (nu := nu) (sg := sg) (w := w) (q3 p1) p2 p3
  refine ⟨[], rfl, fOk_cons (p_put3 rfl (by decide) ?_) fOk_nil⟩ <;> simp only [List.map, xv, fev, fvl, gtI, Int.one_mul, Int.add_zero, Int.zero_add, List.append_nil]
  exact q
def r_r18_bad3 : eRul := (17, [xP 69 [xv 0, xv 1, ([], 18), xv 2, xv 3, xv 4, xv 5, xv 6, xv 7, xv 8, ([], 0), xv 9, xv 10, xv 11, xv 12, xv 13, xv 14], xP 79 [xv 9, xv 14, ([], 1)], xP 96 [xv 4, xv 3, ([], 13), ([], 2), xv 14, xv 15], xG (([(15, -1)], 0)), xP 1 [xv 16, xv 3, ([(15, 1)], 60)], (.inl [[(0, 1000)]], [xv 16])], 0, [xP 64 [xv 0, xv 1, ([(10, -1)], -1), ([], 3)]])
theorem r_r18_bad3_ok : ruOk r_r18_bad3 := by
  intro ρ hl0 hp
  obtain ⟨z, t0, rfl, hl1⟩ := len_inv hl0
  obtain ⟨n, t1, rfl, hl2⟩ := len_inv hl1
  obtain ⟨k, t2, rfl, hl3⟩ := len_inv hl2
  obtain ⟨zr, t3, rfl, hl4⟩ := len_inv hl3
  obtain ⟨zm, t4, rfl, hl5⟩ := len_inv hl4
  obtain ⟨o0, t5, rfl, hl6⟩ := len_inv hl5
  obtain ⟨o1, t6, rfl, hl7⟩ := len_inv hl6
  obtain ⟨o2, t7, rfl, hl8⟩ := len_inv hl7
  obtain ⟨o3, t8, rfl, hl9⟩ := len_inv hl8
  obtain ⟨kd, t9, rfl, hl10⟩ := len_inv hl9
  obtain ⟨fr, t10, rfl, hl11⟩ := len_inv hl10
  obtain ⟨to, t11, rfl, hl12⟩ := len_inv hl11
  obtain ⟨nu, t12, rfl, hl13⟩ := len_inv hl12
  obtain ⟨sg, t13, rfl, hl14⟩ := len_inv hl13
  obtain ⟨w, t14, rfl, hl15⟩ := len_inv hl14
  obtain ⟨i, t15, rfl, hl16⟩ := len_inv hl15
  obtain ⟨x, t16, rfl, hl17⟩ := len_inv hl16
  have hl := List.eq_nil_of_length_eq_zero hl17
  subst hl
  have p1 := p_get3 (by decide) (fOk_hd hp)
  have p2 := p_get3 (by decide) (fOk_hd (fOk_tl hp))
  have p3 := p_get3 (by decide) (fOk_hd (fOk_tl (fOk_tl hp)))
  have p4 := gg_get (fOk_hd (fOk_tl (fOk_tl (fOk_tl hp))))
  have p5 := p_get (fOk_hd (fOk_tl (fOk_tl (fOk_tl (fOk_tl hp)))))
  have p6 := i_get (fOk_hd (fOk_tl (fOk_tl (fOk_tl (fOk_tl (fOk_tl hp))))))
  simp only [List.map, xv, fev, fvl, gtI, Int.one_mul, Int.add_zero, Int.zero_add, PR] at p1 p2 p3 p4 p5 p6
  have q := k_r18_bad3 (z := z) (n := n) (k := k) (zr := zr) (zm := zm) (o0 := o0) (o1 := o1) (o2 := o2) (o3 := o3) (kd := kd) (fr := fr) (to := to) (nu := nu) (sg := sg) (w := w) (i := i) (x := x) (q3 p1) p2 p3 p4 p5 p6
  refine ⟨[], rfl, fOk_cons (p_put3 rfl (by decide) ?_) fOk_nil⟩ <;> simp only [List.map, xv, fev, fvl, gtI, Int.one_mul, Int.add_zero, Int.zero_add, List.append_nil]
  exact q
def r_r19_ok : eRul := (19, [xP 69 [xv 0, xv 1, ([], 19), xv 2, xv 3, xv 4, xv 5, xv 6, xv 7, xv 8, xv 9, xv 10, xv 11, xv 12, xv 13, xv 14, xv 15], xP 79 [xv 10, xv 15, ([], 1)], xP 96 [xv 4, xv 3, ([], 5), ([], 1), xv 15, xv 16], xG (([(16, -1)], 0)), xP 1 [xv 17, xv 3, ([], 2)], xP 80 [xv 3, ([], 60), xv 17, xv 16, ([], 0)], xP 2 [xv 18, xv 3, ([(9, 1)], 60), xv 16]], 0, [xP 67 [xv 0, xv 1, ([], 20), xv 12, xv 2, xv 18, xv 4, xv 5, xv 6, xv 7, xv 8, ([(9, 1), (16, 8)], 0)]])
theorem r_r19_ok_ok : ruOk r_r19_ok := by
  intro ρ hl0 hp
  obtain ⟨z, t0, rfl, hl1⟩ := len_inv hl0
  obtain ⟨n, t1, rfl, hl2⟩ := len_inv hl1
  obtain ⟨k, t2, rfl, hl3⟩ := len_inv hl2
  obtain ⟨zr, t3, rfl, hl4⟩ := len_inv hl3
  obtain ⟨zm, t4, rfl, hl5⟩ := len_inv hl4
  obtain ⟨o0, t5, rfl, hl6⟩ := len_inv hl5
  obtain ⟨o1, t6, rfl, hl7⟩ := len_inv hl6
  obtain ⟨o2, t7, rfl, hl8⟩ := len_inv hl7
  obtain ⟨o3, t8, rfl, hl9⟩ := len_inv hl8
  obtain ⟨u, t9, rfl, hl10⟩ := len_inv hl9
  obtain ⟨kd, t10, rfl, hl11⟩ := len_inv hl10
  obtain ⟨fr, t11, rfl, hl12⟩ := len_inv hl11
  obtain ⟨to, t12, rfl, hl13⟩ := len_inv hl12
  obtain ⟨nu, t13, rfl, hl14⟩ := len_inv hl13
  obtain ⟨sg, t14, rfl, hl15⟩ := len_inv hl14
  obtain ⟨w, t15, rfl, hl16⟩ := len_inv hl15
  obtain ⟨i, t16, rfl, hl17⟩ := len_inv hl16
  obtain ⟨m, t17, rfl, hl18⟩ := len_inv hl17
  obtain ⟨zr2, t18, rfl, hl19⟩ := len_inv hl18
  have hl := List.eq_nil_of_length_eq_zero hl19
  subst hl
  have p1 := p_get3 (by decide) (fOk_hd hp)
  have p2 := p_get3 (by decide) (fOk_hd (fOk_tl hp))
  have p3 := p_get3 (by decide) (fOk_hd (fOk_tl (fOk_tl hp)))
  have p4 := gg_get (fOk_hd (fOk_tl (fOk_tl (fOk_tl hp))))
  have p5 := p_get (fOk_hd (fOk_tl (fOk_tl (fOk_tl (fOk_tl hp)))))
  have p6 := p_get3 (by decide) (fOk_hd (fOk_tl (fOk_tl (fOk_tl (fOk_tl (fOk_tl hp))))))
  have p7 := p_get (fOk_hd (fOk_tl (fOk_tl (fOk_tl (fOk_tl (fOk_tl (fOk_tl hp)))))))
  simp only [List.map, xv, fev, fvl, gtI, Int.one_mul, Int.add_zero, Int.zero_add, PR] at p1 p2 p3 p4 p5 p6 p7
  have q := k_r19_ok (z := z) (n := n) (k := k) (zr := zr) (zm := zm) (o0 := o0) (o1 := o1) (o2 := o2) (o3 := o3) (u := u) (kd := kd) (fr := fr) (to := to) (nu := nu) (sg := sg) (w := w) (i := i) (m := m) (zr2 := zr2) (q3 p1) p2 p3 p4 p5 p6 p7
  refine ⟨[], rfl, fOk_cons (p_put3 rfl (by decide) ?_) fOk_nil⟩ <;> simp only [List.map, xv, fev, fvl, gtI, Int.one_mul, Int.add_zero, Int.zero_add, List.append_nil]
  exact q
def r_r19_bad1 : eRul := (16, [xP 69 [xv 0, xv 1, ([], 19), xv 2, xv 3, xv 4, xv 5, xv 6, xv 7, xv 8, xv 9, xv 10, xv 11, xv 12, xv 13, xv 14, xv 15], xP 79 [xv 10, xv 15, ([], 0)]], 0, [xP 64 [xv 0, xv 1, ([(11, -1)], -1), ([], 1)]])
theorem r_r19_bad1_ok : ruOk r_r19_bad1 := by
  intro ρ hl0 hp
  obtain ⟨z, t0, rfl, hl1⟩ := len_inv hl0
  obtain ⟨n, t1, rfl, hl2⟩ := len_inv hl1
  obtain ⟨k, t2, rfl, hl3⟩ := len_inv hl2
  obtain ⟨zr, t3, rfl, hl4⟩ := len_inv hl3
  obtain ⟨zm, t4, rfl, hl5⟩ := len_inv hl4
  obtain ⟨o0, t5, rfl, hl6⟩ := len_inv hl5
  obtain ⟨o1, t6, rfl, hl7⟩ := len_inv hl6
  obtain ⟨o2, t7, rfl, hl8⟩ := len_inv hl7
  obtain ⟨o3, t8, rfl, hl9⟩ := len_inv hl8
  obtain ⟨u, t9, rfl, hl10⟩ := len_inv hl9
  obtain ⟨kd, t10, rfl, hl11⟩ := len_inv hl10
  obtain ⟨fr, t11, rfl, hl12⟩ := len_inv hl11
  obtain ⟨to, t12, rfl, hl13⟩ := len_inv hl12
  obtain ⟨nu, t13, rfl, hl14⟩ := len_inv hl13
  obtain ⟨sg, t14, rfl, hl15⟩ := len_inv hl14
  obtain ⟨w, t15, rfl, hl16⟩ := len_inv hl15
  have hl := List.eq_nil_of_length_eq_zero hl16
  subst hl
  have p1 := p_get3 (by decide) (fOk_hd hp)
  have p2 := p_get3 (by decide) (fOk_hd (fOk_tl hp))
  simp only [List.map, xv, fev, fvl, gtI, Int.one_mul, Int.add_zero, Int.zero_add] at p1 p2
  have q := k_r19_bad1 (z := z) (n := n) (k := k) (zr := zr) (zm := zm) (o0 := o0) (o1 := o1) (o2 := o2) (o3 := o3) (u := u) (kd := kd) (fr := fr) (to := to) (nu := nu) (sg := sg) (w := w) (q3 p1) p2
  refine ⟨[], rfl, fOk_cons (p_put3 rfl (by decide) ?_) fOk_nil⟩ <;> simp only [List.map, xv, fev, fvl, gtI, Int.one_mul, Int.add_zero, Int.zero_add, List.append_nil]
  exact q
def r_r19_bad2 : eRul := (16, [xP 69 [xv 0, xv 1, ([], 19), xv 2, xv 3, xv 4, xv 5, xv 6, xv 7, xv 8, xv 9, xv 10, xv 11, xv 12, xv 13, xv 14, xv 15], xP 79 [xv 10, xv 15, ([], 1)], xP 96 [xv 4, xv 3, ([], 5), ([], 1), xv 15, ([], -1)]], 0, [xP 64 [xv 0, xv 1, ([(11, -1)], -1), ([], 3)]])
theorem r_r19_bad2_ok : ruOk r_r19_bad2 := by
  intro ρ hl0 hp
  obtain ⟨z, t0, rfl, hl1⟩ := len_inv hl0
  obtain ⟨n, t1, rfl, hl2⟩ := len_inv hl1
  obtain ⟨k, t2, rfl, hl3⟩ := len_inv hl2
  obtain ⟨zr, t3, rfl, hl4⟩ := len_inv hl3
  obtain ⟨zm, t4, rfl, hl5⟩ := len_inv hl4
  obtain ⟨o0, t5, rfl, hl6⟩ := len_inv hl5
  obtain ⟨o1, t6, rfl, hl7⟩ := len_inv hl6
  obtain ⟨o2, t7, rfl, hl8⟩ := len_inv hl7
  obtain ⟨o3, t8, rfl, hl9⟩ := len_inv hl8
  obtain ⟨u, t9, rfl, hl10⟩ := len_inv hl9
  obtain ⟨kd, t10, rfl, hl11⟩ := len_inv hl10
  obtain ⟨fr, t11, rfl, hl12⟩ := len_inv hl11
  obtain ⟨to, t12, rfl, hl13⟩ := len_inv hl12
  obtain ⟨nu, t13, rfl, hl14⟩ := len_inv hl13
  obtain ⟨sg, t14, rfl, hl15⟩ := len_inv hl14
  obtain ⟨w, t15, rfl, hl16⟩ := len_inv hl15
  have hl := List.eq_nil_of_length_eq_zero hl16
  subst hl
  have p1 := p_get3 (by decide) (fOk_hd hp)
  have p2 := p_get3 (by decide) (fOk_hd (fOk_tl hp))
  have p3 := p_get3 (by decide) (fOk_hd (fOk_tl (fOk_tl hp)))
  simp only [List.map, xv, fev, fvl, gtI, Int.one_mul, Int.add_zero, Int.zero_add] at p1 p2 p3
  have q := k_r19_bad2 (z := z) (n := n) (k := k) (zr := zr) (zm := zm) (o0 := o0) (o1 := o1) (o2 := o2) (o3 := o3) (u := u) (kd := kd) (fr := fr) (to := to) (nu := nu) (sg := sg) (w := w) (q3 p1) p2 p3
  refine ⟨[], rfl, fOk_cons (p_put3 rfl (by decide) ?_) fOk_nil⟩ <;> simp only [List.map, xv, fev, fvl, gtI, Int.one_mul, Int.add_zero, Int.zero_add, List.append_nil]
  exact q
def r_r19_bad3 : eRul := (18, [xP 69 [xv 0, xv 1, ([], 19), xv 2, xv 3, xv 4, xv 5, xv 6, xv 7, xv 8, xv 9, xv 10, xv 11, xv 12, xv 13, xv 14, xv 15], xP 79 [xv 10, xv 15, ([], 1)], xP 96 [xv 4, xv 3, ([], 5), ([], 1), xv 15, xv 16], xG (([(16, -1)], 0)), xP 1 [xv 17, xv 3, ([], 2)], xP 80 [xv 3, ([], 60), xv 17, xv 16, ([], 1)]], 0, [xP 64 [xv 0, xv 1, ([(11, -1)], -1), ([], 3)]])
theorem r_r19_bad3_ok : ruOk r_r19_bad3 := by
  intro ρ hl0 hp
  obtain ⟨z, t0, rfl, hl1⟩ := len_inv hl0
  obtain ⟨n, t1, rfl, hl2⟩ := len_inv hl1
  obtain ⟨k, t2, rfl, hl3⟩ := len_inv hl2
  obtain ⟨zr, t3, rfl, hl4⟩ := len_inv hl3
  obtain ⟨zm, t4, rfl, hl5⟩ := len_inv hl4
  obtain ⟨o0, t5, rfl, hl6⟩ := len_inv hl5
  obtain ⟨o1, t6, rfl, hl7⟩ := len_inv hl6
  obtain ⟨o2, t7, rfl, hl8⟩ := len_inv hl7
  obtain ⟨o3, t8, rfl, hl9⟩ := len_inv hl8
  obtain ⟨u, t9, rfl, hl10⟩ := len_inv hl9
  obtain ⟨kd, t10, rfl, hl11⟩ := len_inv hl10
  obtain ⟨fr, t11, rfl, hl12⟩ := len_inv hl11
  obtain ⟨to, t12, rfl, hl13⟩ := len_inv hl12
  obtain ⟨nu, t13, rfl, hl14⟩ := len_inv hl13
  obtain ⟨sg, t14, rfl, hl15⟩ := len_inv hl14
  obtain ⟨w, t15, rfl, hl16⟩ := len_inv hl15
  obtain ⟨i, t16, rfl, hl17⟩ := len_inv hl16
  obtain ⟨m, t17, rfl, hl18⟩ := len_inv hl17
  have hl := List.eq_nil_of_length_eq_zero hl18
  subst hl
  have p1 := p_get3 (by decide) (fOk_hd hp)
  have p2 := p_get3 (by decide) (fOk_hd (fOk_tl hp))
  have p3 := p_get3 (by decide) (fOk_hd (fOk_tl (fOk_tl hp)))
  have p4 := gg_get (fOk_hd (fOk_tl (fOk_tl (fOk_tl hp))))
  have p5 := p_get (fOk_hd (fOk_tl (fOk_tl (fOk_tl (fOk_tl hp)))))
  have p6 := p_get3 (by decide) (fOk_hd (fOk_tl (fOk_tl (fOk_tl (fOk_tl (fOk_tl hp))))))
  simp only [List.map, xv, fev, fvl, gtI, Int.one_mul, Int.add_zero, Int.zero_add, PR] at p1 p2 p3 p4 p5 p6
  have q := k_r19_bad3 (z := z) (n := n) (k := k) (zr := zr) (zm := zm) (o0 := o0) (o1 := o1) (o2 := o2) (o3 := o3) (u := u) (kd := kd) (fr := fr) (to := to) (nu := nu) (sg := sg) (w := w) (i := i) (m := m) (q3 p1) p2 p3 p4 p5 p6
  refine ⟨[], rfl, fOk_cons (p_put3 rfl (by decide) ?_) fOk_nil⟩ <;> simp only [List.map, xv, fev, fvl, gtI, Int.one_mul, Int.add_zero, Int.zero_add, List.append_nil]
  exact q
def r_r20_ok : eRul := (18, [xP 69 [xv 0, xv 1, ([], 20), xv 2, xv 3, xv 4, xv 5, xv 6, xv 7, xv 8, ([(9, 1), (10, 8)], 0), xv 11, xv 12, xv 13, xv 14, xv 15, xv 16], (.inl [[(3, 3)]], [xv 11]), (.inl [[(1, 30)]], [xv 14]), (.inl [[(0, 5)]], [xv 9]), xG (([(10, -1)], 0)), xP 2 [xv 17, xv 3, ([(9, 1)], 66), xv 14]], 0, [xP 67 [xv 0, xv 1, ([], 30), xv 13, xv 2, xv 17, xv 4, xv 5, xv 6, xv 7, xv 8, ([], 0)]])
theorem r_r20_ok_ok : ruOk r_r20_ok := by
  intro ρ hl0 hp
  obtain ⟨z, t0, rfl, hl1⟩ := len_inv hl0
  obtain ⟨n, t1, rfl, hl2⟩ := len_inv hl1
  obtain ⟨k, t2, rfl, hl3⟩ := len_inv hl2
  obtain ⟨zr, t3, rfl, hl4⟩ := len_inv hl3
  obtain ⟨zm, t4, rfl, hl5⟩ := len_inv hl4
  obtain ⟨o0, t5, rfl, hl6⟩ := len_inv hl5
  obtain ⟨o1, t6, rfl, hl7⟩ := len_inv hl6
  obtain ⟨o2, t7, rfl, hl8⟩ := len_inv hl7
  obtain ⟨o3, t8, rfl, hl9⟩ := len_inv hl8
  obtain ⟨a, t9, rfl, hl10⟩ := len_inv hl9
  obtain ⟨i, t10, rfl, hl11⟩ := len_inv hl10
  obtain ⟨kd, t11, rfl, hl12⟩ := len_inv hl11
  obtain ⟨fr, t12, rfl, hl13⟩ := len_inv hl12
  obtain ⟨to, t13, rfl, hl14⟩ := len_inv hl13
  obtain ⟨nu, t14, rfl, hl15⟩ := len_inv hl14
  obtain ⟨sg, t15, rfl, hl16⟩ := len_inv hl15
  obtain ⟨w, t16, rfl, hl17⟩ := len_inv hl16
  obtain ⟨zr2, t17, rfl, hl18⟩ := len_inv hl17
  have hl := List.eq_nil_of_length_eq_zero hl18
  subst hl
  have p1 := p_get3 (by decide) (fOk_hd hp)
  have p2 := i_get (fOk_hd (fOk_tl hp))
  have p3 := i_get (fOk_hd (fOk_tl (fOk_tl hp)))
  have p4 := i_get (fOk_hd (fOk_tl (fOk_tl (fOk_tl hp))))
  have p5 := gg_get (fOk_hd (fOk_tl (fOk_tl (fOk_tl (fOk_tl hp)))))
  have p6 := p_get (fOk_hd (fOk_tl (fOk_tl (fOk_tl (fOk_tl (fOk_tl hp))))))
  simp only [List.map, xv, fev, fvl, gtI, Int.one_mul, Int.add_zero, Int.zero_add, PR] at p1 p2 p3 p4 p5 p6
  have q := k_r20_ok (z := z) (n := n) (k := k) (zr := zr) (zm := zm) (o0 := o0) (o1 := o1) (o2 := o2) (o3 := o3) (a := a) (i := i) (kd := kd) (fr := fr) (to := to) (nu := nu) (sg := sg) (w := w) (zr2 := zr2) (q3 p1) p2 p3 p4 p5 p6
  refine ⟨[], rfl, fOk_cons (p_put3 rfl (by decide) ?_) fOk_nil⟩ <;> simp only [List.map, xv, fev, fvl, gtI, Int.one_mul, Int.add_zero, Int.zero_add, List.append_nil]
  exact q
def r_r20_bad1 : eRul := (16, [xP 69 [xv 0, xv 1, ([], 20), xv 2, xv 3, xv 4, xv 5, xv 6, xv 7, xv 8, xv 9, xv 10, xv 11, xv 12, xv 13, xv 14, xv 15], xP 57 [xv 10]], 0, [xP 64 [xv 0, xv 1, ([(11, -1)], -1), ([], 1)]])
theorem r_r20_bad1_ok : ruOk r_r20_bad1 := by
  intro ρ hl0 hp
  obtain ⟨z, t0, rfl, hl1⟩ := len_inv hl0
  obtain ⟨n, t1, rfl, hl2⟩ := len_inv hl1
  obtain ⟨k, t2, rfl, hl3⟩ := len_inv hl2
  obtain ⟨zr, t3, rfl, hl4⟩ := len_inv hl3
  obtain ⟨zm, t4, rfl, hl5⟩ := len_inv hl4
  obtain ⟨o0, t5, rfl, hl6⟩ := len_inv hl5
  obtain ⟨o1, t6, rfl, hl7⟩ := len_inv hl6
  obtain ⟨o2, t7, rfl, hl8⟩ := len_inv hl7
  obtain ⟨o3, t8, rfl, hl9⟩ := len_inv hl8
  obtain ⟨u, t9, rfl, hl10⟩ := len_inv hl9
  obtain ⟨kd, t10, rfl, hl11⟩ := len_inv hl10
  obtain ⟨fr, t11, rfl, hl12⟩ := len_inv hl11
  obtain ⟨to, t12, rfl, hl13⟩ := len_inv hl12
  obtain ⟨nu, t13, rfl, hl14⟩ := len_inv hl13
  obtain ⟨sg, t14, rfl, hl15⟩ := len_inv hl14
  obtain ⟨w, t15, rfl, hl16⟩ := len_inv hl15
  have hl := List.eq_nil_of_length_eq_zero hl16
  subst hl
  have p1 := p_get3 (by decide) (fOk_hd hp)
  have p2 := p_get3 (by decide) (fOk_hd (fOk_tl hp))
  simp only [List.map, xv, fev, fvl, gtI, Int.one_mul, Int.add_zero, Int.zero_add] at p1 p2
  have q := k_r20_bad1 (z := z) (n := n) (k := k) (zr := zr) (zm := zm) (o0 := o0) (o1 := o1) (o2 := o2) (o3 := o3) (u := u) (kd := kd) (fr := fr) (to := to) (nu := nu) (sg := sg) (w := w) (q3 p1) p2
  refine ⟨[], rfl, fOk_cons (p_put3 rfl (by decide) ?_) fOk_nil⟩ <;> simp only [List.map, xv, fev, fvl, gtI, Int.one_mul, Int.add_zero, Int.zero_add, List.append_nil]
  exact q
def r_r20_bad3 : eRul := (16, [xP 69 [xv 0, xv 1, ([], 20), xv 2, xv 3, xv 4, xv 5, xv 6, xv 7, xv 8, xv 9, xv 10, xv 11, xv 12, xv 13, xv 14, xv 15], (.inl [[(3, 3)]], [xv 10]), xP 58 [xv 13, ([], 1), ([], 30), ([], 0)]], 0, [xP 64 [xv 0, xv 1, ([(11, -1)], -1), ([], 2)]])
theorem r_r20_bad3_ok : ruOk r_r20_bad3 := by
  intro ρ hl0 hp
  obtain ⟨z, t0, rfl, hl1⟩ := len_inv hl0
  obtain ⟨n, t1, rfl, hl2⟩ := len_inv hl1
  obtain ⟨k, t2, rfl, hl3⟩ := len_inv hl2
  obtain ⟨zr, t3, rfl, hl4⟩ := len_inv hl3
  obtain ⟨zm, t4, rfl, hl5⟩ := len_inv hl4
  obtain ⟨o0, t5, rfl, hl6⟩ := len_inv hl5
  obtain ⟨o1, t6, rfl, hl7⟩ := len_inv hl6
  obtain ⟨o2, t7, rfl, hl8⟩ := len_inv hl7
  obtain ⟨o3, t8, rfl, hl9⟩ := len_inv hl8
  obtain ⟨u, t9, rfl, hl10⟩ := len_inv hl9
  obtain ⟨kd, t10, rfl, hl11⟩ := len_inv hl10
  obtain ⟨fr, t11, rfl, hl12⟩ := len_inv hl11
  obtain ⟨to, t12, rfl, hl13⟩ := len_inv hl12
  obtain ⟨nu, t13, rfl, hl14⟩ := len_inv hl13
  obtain ⟨sg, t14, rfl, hl15⟩ := len_inv hl14
  obtain ⟨w, t15, rfl, hl16⟩ := len_inv hl15
  have hl := List.eq_nil_of_length_eq_zero hl16
  subst hl
  have p1 := p_get3 (by decide) (fOk_hd hp)
  have p2 := i_get (fOk_hd (fOk_tl hp))
  have p3 := p_get3 (by decide) (fOk_hd (fOk_tl (fOk_tl hp)))
  simp only [List.map, xv, fev, fvl, gtI, Int.one_mul, Int.add_zero, Int.zero_add] at p1 p2 p3
  have q := k_r20_bad3 (z := z) (n := n) (k := k) (zr := zr) (zm := zm) (o0 := o0) (o1 := o1) (o2 := o2) (o3 := o3) (u := u) (kd := kd) (fr := fr) (to := to) (nu := nu) (sg := sg) (w := w) (q3 p1) p2 p3
  refine ⟨[], rfl, fOk_cons (p_put3 rfl (by decide) ?_) fOk_nil⟩ <;> simp only [List.map, xv, fev, fvl, gtI, Int.one_mul, Int.add_zero, Int.zero_add, List.append_nil]
  exact q
def r_r30_ok : eRul := (15, [xP 69 [xv 0, xv 1, ([], 30), xv 2, xv 3, xv 4, xv 5, xv 6, xv 7, xv 8, ([], 0), xv 9, xv 10, xv 11, xv 12, xv 13, xv 14], xP 56 [xv 9, xv 13, ([], 59), ([], 1)]], 0, [xP 67 [xv 0, xv 1, ([], 0), xv 11, ([(2, 1)], 1), xv 3, xv 4, xv 5, xv 6, xv 7, xv 8, ([], 0)]])
theorem r_r30_ok_ok : ruOk r_r30_ok := by
  intro ρ hl0 hp
  obtain ⟨z, t0, rfl, hl1⟩ := len_inv hl0
  obtain ⟨n, t1, rfl, hl2⟩ := len_inv hl1
  obtain ⟨k, t2, rfl, hl3⟩ := len_inv hl2
  obtain ⟨zr, t3, rfl, hl4⟩ := len_inv hl3
  obtain ⟨zm, t4, rfl, hl5⟩ := len_inv hl4
  obtain ⟨o0, t5, rfl, hl6⟩ := len_inv hl5
  obtain ⟨o1, t6, rfl, hl7⟩ := len_inv hl6
  obtain ⟨o2, t7, rfl, hl8⟩ := len_inv hl7
  obtain ⟨o3, t8, rfl, hl9⟩ := len_inv hl8
  obtain ⟨kd, t9, rfl, hl10⟩ := len_inv hl9
  obtain ⟨fr, t10, rfl, hl11⟩ := len_inv hl10
  obtain ⟨to, t11, rfl, hl12⟩ := len_inv hl11
  obtain ⟨nu, t12, rfl, hl13⟩ := len_inv hl12
  obtain ⟨sg, t13, rfl, hl14⟩ := len_inv hl13
  obtain ⟨w, t14, rfl, hl15⟩ := len_inv hl14
  have hl := List.eq_nil_of_length_eq_zero hl15
  subst hl
  have p1 := p_get3 (by decide) (fOk_hd hp)
  have p2 := p_get3 (by decide) (fOk_hd (fOk_tl hp))
  simp only [List.map, xv, fev, fvl, gtI, Int.one_mul, Int.add_zero, Int.zero_add] at p1 p2
  have q := k_r30_ok (z := z) (n := n) (k := k) (zr := zr) (zm := zm) (o0 := o0) (o1 := o1) (o2 := o2) (o3 := o3) (kd := kd) (fr := fr) (to := to) (nu := nu) (sg := sg) (w := w) (q3 p1) p2
  refine ⟨[], rfl, fOk_cons (p_put3 rfl (by decide) ?_) fOk_nil⟩ <;> simp only [List.map, xv, fev, fvl, gtI, Int.one_mul, Int.add_zero, Int.zero_add, List.append_nil]
  exact q
def r_r30_bad : eRul := (15, [xP 69 [xv 0, xv 1, ([], 30), xv 2, xv 3, xv 4, xv 5, xv 6, xv 7, xv 8, ([], 0), xv 9, xv 10, xv 11, xv 12, xv 13, xv 14], xP 56 [xv 9, xv 13, ([], 59), ([], 0)]], 0, [xP 64 [xv 0, xv 1, ([(10, -1)], -1), ([], 1)]])
theorem r_r30_bad_ok : ruOk r_r30_bad := by
  intro ρ hl0 hp
  obtain ⟨z, t0, rfl, hl1⟩ := len_inv hl0
  obtain ⟨n, t1, rfl, hl2⟩ := len_inv hl1
  obtain ⟨k, t2, rfl, hl3⟩ := len_inv hl2
  obtain ⟨zr, t3, rfl, hl4⟩ := len_inv hl3
  obtain ⟨zm, t4, rfl, hl5⟩ := len_inv hl4
  obtain ⟨o0, t5, rfl, hl6⟩ := len_inv hl5
  obtain ⟨o1, t6, rfl, hl7⟩ := len_inv hl6
  obtain ⟨o2, t7, rfl, hl8⟩ := len_inv hl7
  obtain ⟨o3, t8, rfl, hl9⟩ := len_inv hl8
  obtain ⟨kd, t9, rfl, hl10⟩ := len_inv hl9
  obtain ⟨fr, t10, rfl, hl11⟩ := len_inv hl10
  obtain ⟨to, t11, rfl, hl12⟩ := len_inv hl11
  obtain ⟨nu, t12, rfl, hl13⟩ := len_inv hl12
  obtain ⟨sg, t13, rfl, hl14⟩ := len_inv hl13
  obtain ⟨w, t14, rfl, hl15⟩ := len_inv hl14
  have hl := List.eq_nil_of_length_eq_zero hl15
  subst hl
  have p1 := p_get3 (by decide) (fOk_hd hp)
  have p2 := p_get3 (by decide) (fOk_hd (fOk_tl hp))
  simp only [List.map, xv, fev, fvl, gtI, Int.one_mul, Int.add_zero, Int.zero_add] at p1 p2
  have q := k_r30_bad (z := z) (n := n) (k := k) (zr := zr) (zm := zm) (o0 := o0) (o1 := o1) (o2 := o2) (o3 := o3) (kd := kd) (fr := fr) (to := to) (nu := nu) (sg := sg) (w := w) (q3 p1) p2
  refine ⟨[], rfl, fOk_cons (p_put3 rfl (by decide) ?_) fOk_nil⟩ <;> simp only [List.map, xv, fev, fvl, gtI, Int.one_mul, Int.add_zero, Int.zero_add, List.append_nil]
  exact q
def r_r_ku : eRul := (15, [xP 69 [xv 0, xv 1, ([], 0), xv 2, xv 3, xv 4, xv 5, xv 6, xv 7, xv 8, ([], 0), xv 9, xv 10, xv 11, xv 12, xv 13, xv 14], (.inl [[(0, 940)]], [xv 1]), (.inl [[(-2147483648, 2147483647)]], [xv 2])], 0, [(.inl [[(0, 470)]], [xv 2])])
theorem r_r_ku_ok : ruOk r_r_ku := by
  intro ρ hl0 hp
  obtain ⟨z, t0, rfl, hl1⟩ := len_inv hl0
  obtain ⟨n, t1, rfl, hl2⟩ := len_inv hl1
  obtain ⟨k, t2, rfl, hl3⟩ := len_inv hl2
  obtain ⟨zr, t3, rfl, hl4⟩ := len_inv hl3
  obtain ⟨zm, t4, rfl, hl5⟩ := len_inv hl4
  obtain ⟨o0, t5, rfl, hl6⟩ := len_inv hl5
  obtain ⟨o1, t6, rfl, hl7⟩ := len_inv hl6
  obtain ⟨o2, t7, rfl, hl8⟩ := len_inv hl7
  obtain ⟨o3, t8, rfl, hl9⟩ := len_inv hl8
  obtain ⟨kd, t9, rfl, hl10⟩ := len_inv hl9
  obtain ⟨fr, t10, rfl, hl11⟩ := len_inv hl10
  obtain ⟨to, t11, rfl, hl12⟩ := len_inv hl11
  obtain ⟨nu, t12, rfl, hl13⟩ := len_inv hl12
  obtain ⟨sg, t13, rfl, hl14⟩ := len_inv hl13
  obtain ⟨w, t14, rfl, hl15⟩ := len_inv hl14
  have hl := List.eq_nil_of_length_eq_zero hl15
  subst hl
  have p1 := p_get3 (by decide) (fOk_hd hp)
  have p2 := i_get (fOk_hd (fOk_tl hp))
  have p3 := i_get (fOk_hd (fOk_tl (fOk_tl hp)))
  simp only [List.map, xv, fev, fvl, gtI, Int.one_mul, Int.add_zero, Int.zero_add] at p1 p2 p3
  have q := k_r_ku (z := z) (n := n) (k := k) (zr := zr) (zm := zm) (o0 := o0) (o1 := o1) (o2 := o2) (o3 := o3) (kd := kd) (fr := fr) (to := to) (nu := nu) (sg := sg) (w := w) (q3 p1) p2 p3
  refine ⟨[], rfl, fOk_cons (i_put rfl ?_ ?_) fOk_nil⟩ <;> simp only [List.map, xv, fev, fvl, gtI, Int.one_mul, Int.add_zero, Int.zero_add, List.append_nil]
  · exact q.1
  · exact q.2
end
