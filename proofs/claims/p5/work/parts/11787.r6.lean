noncomputable section
/-! T3: rules (printed by wip/v5/gen/rules4.py) -/
def r_ne_l : eRul := (2, [xG (([(0, 1), (1, -1)], 1))], 0, [xP 137 [xv 0, xv 1]])
theorem r_ne_l_ok : ruOk r_ne_l := by
  intro ρ hl0 hp
  obtain ⟨kw, t0, rfl, hl1⟩ := len_inv hl0
  obtain ⟨c, t1, rfl, hl2⟩ := len_inv hl1
  have hl := List.eq_nil_of_length_eq_zero hl2
  subst hl
  have p1 := gg_get (fOk_hd hp)
  simp only [List.map, xv, fev, fvl, gtI, Int.one_mul, Int.add_zero, Int.zero_add] at p1
  have q := k_ne_l (kw := kw) (c := c) p1
  refine ⟨[], rfl, fOk_cons (p_put3 rfl (by decide) ?_) fOk_nil⟩ <;> simp only [List.map, xv, fev, fvl, gtI, Int.one_mul, Int.add_zero, Int.zero_add, List.append_nil]
  exact q
def r_ne_g : eRul := (2, [xG (([(0, 1), (1, -1)], 1))], 0, [xP 137 [xv 1, xv 0]])
theorem r_ne_g_ok : ruOk r_ne_g := by
  intro ρ hl0 hp
  obtain ⟨c, t0, rfl, hl1⟩ := len_inv hl0
  obtain ⟨kw, t1, rfl, hl2⟩ := len_inv hl1
  have hl := List.eq_nil_of_length_eq_zero hl2
  subst hl
  have p1 := gg_get (fOk_hd hp)
  simp only [List.map, xv, fev, fvl, gtI, Int.one_mul, Int.add_zero, Int.zero_add] at p1
  have q := k_ne_g (c := c) (kw := kw) p1
  refine ⟨[], rfl, fOk_cons (p_put3 rfl (by decide) ?_) fOk_nil⟩ <;> simp only [List.map, xv, fev, fvl, gtI, Int.one_mul, Int.add_zero, Int.zero_add, List.append_nil]
  exact q
def r_nbg_a : eRul := (1, [xG (([(0, 1)], -14))], 0, [xP 148 [xv 0]])
theorem r_nbg_a_ok : ruOk r_nbg_a := by
  intro ρ hl0 hp
  obtain ⟨kw, t0, rfl, hl1⟩ := len_inv hl0
  have hl := List.eq_nil_of_length_eq_zero hl1
  subst hl
  have p1 := gg_get (fOk_hd hp)
  simp only [List.map, xv, fev, fvl, gtI, Int.one_mul, Int.add_zero, Int.zero_add] at p1
  have q := k_nbg_a (kw := kw) p1
  refine ⟨[], rfl, fOk_cons (p_put3 rfl (by decide) ?_) fOk_nil⟩ <;> simp only [List.map, xv, fev, fvl, gtI, Int.one_mul, Int.add_zero, Int.zero_add, List.append_nil]
  exact q
def r_nbg_b : eRul := (1, [xG (([(0, -1)], 24))], 0, [xP 148 [xv 0]])
theorem r_nbg_b_ok : ruOk r_nbg_b := by
  intro ρ hl0 hp
  obtain ⟨kw, t0, rfl, hl1⟩ := len_inv hl0
  have hl := List.eq_nil_of_length_eq_zero hl1
  subst hl
  have p1 := gg_get (fOk_hd hp)
  simp only [List.map, xv, fev, fvl, gtI, Int.one_mul, Int.add_zero, Int.zero_add] at p1
  have q := k_nbg_b (kw := kw) p1
  refine ⟨[], rfl, fOk_cons (p_put3 rfl (by decide) ?_) fOk_nil⟩ <;> simp only [List.map, xv, fev, fvl, gtI, Int.one_mul, Int.add_zero, Int.zero_add, List.append_nil]
  exact q
def r_sz_p : eRul := (4, [xG (([(0, 1), (1, -1)], -1)), xG (([(2, 1), (3, -1)], 1))], 0, [xP 146 [xv 0, xv 3, xv 1, xv 2]])
theorem r_sz_p_ok : ruOk r_sz_p := by
  intro ρ hl0 hp
  obtain ⟨a, t0, rfl, hl1⟩ := len_inv hl0
  obtain ⟨c, t1, rfl, hl2⟩ := len_inv hl1
  obtain ⟨d, t2, rfl, hl3⟩ := len_inv hl2
  obtain ⟨b, t3, rfl, hl4⟩ := len_inv hl3
  have hl := List.eq_nil_of_length_eq_zero hl4
  subst hl
  have p1 := gg_get (fOk_hd hp)
  have p2 := gg_get (fOk_hd (fOk_tl hp))
  simp only [List.map, xv, fev, fvl, gtI, Int.one_mul, Int.add_zero, Int.zero_add] at p1 p2
  have q := k_sz_p (a := a) (c := c) (d := d) (b := b) p1 p2
  refine ⟨[], rfl, fOk_cons (p_put3 rfl (by decide) ?_) fOk_nil⟩ <;> simp only [List.map, xv, fev, fvl, gtI, Int.one_mul, Int.add_zero, Int.zero_add, List.append_nil]
  exact q
def r_sz_n : eRul := (4, [xP 146 [xv 0, xv 1, xv 2, ([(3, 1)], 1)]], 0, [xP 146 [([(0, 1)], 1), xv 1, xv 2, xv 3]])
theorem r_sz_n_ok : ruOk r_sz_n := by
  intro ρ hl0 hp
  obtain ⟨a, t0, rfl, hl1⟩ := len_inv hl0
  obtain ⟨b, t1, rfl, hl2⟩ := len_inv hl1
  obtain ⟨c, t2, rfl, hl3⟩ := len_inv hl2
  obtain ⟨d, t3, rfl, hl4⟩ := len_inv hl3
  have hl := List.eq_nil_of_length_eq_zero hl4
  subst hl
  have p1 := p_get3 (by decide) (fOk_hd hp)
  simp only [List.map, xv, fev, fvl, gtI, Int.one_mul, Int.add_zero, Int.zero_add] at p1
  have q := k_sz_n (a := a) (b := b) (c := c) (d := d) p1
  refine ⟨[], rfl, fOk_cons (p_put3 rfl (by decide) ?_) fOk_nil⟩ <;> simp only [List.map, xv, fev, fvl, gtI, Int.one_mul, Int.add_zero, Int.zero_add, List.append_nil]
  exact q
def r_sz_b : eRul := (4, [xP 146 [xv 0, xv 1, xv 2, ([(3, 1)], 1)]], 0, [xP 146 [xv 0, xv 1, xv 2, xv 3]])
theorem r_sz_b_ok : ruOk r_sz_b := by
  intro ρ hl0 hp
  obtain ⟨a, t0, rfl, hl1⟩ := len_inv hl0
  obtain ⟨b, t1, rfl, hl2⟩ := len_inv hl1
  obtain ⟨c, t2, rfl, hl3⟩ := len_inv hl2
  obtain ⟨d, t3, rfl, hl4⟩ := len_inv hl3
  have hl := List.eq_nil_of_length_eq_zero hl4
  subst hl
  have p1 := p_get3 (by decide) (fOk_hd hp)
  simp only [List.map, xv, fev, fvl, gtI, Int.one_mul, Int.add_zero, Int.zero_add] at p1
  have q := k_sz_b (a := a) (b := b) (c := c) (d := d) p1
  refine ⟨[], rfl, fOk_cons (p_put3 rfl (by decide) ?_) fOk_nil⟩ <;> simp only [List.map, xv, fev, fvl, gtI, Int.one_mul, Int.add_zero, Int.zero_add, List.append_nil]
  exact q
def r_sz_t : eRul := (6, [xP 146 [xv 0, xv 1, xv 2, xv 3], xP 146 [xv 2, xv 3, xv 4, xv 5]], 0, [xP 146 [([(0, 1)], 1), xv 1, xv 4, xv 5]])
theorem r_sz_t_ok : ruOk r_sz_t := by
  intro ρ hl0 hp
  obtain ⟨a, t0, rfl, hl1⟩ := len_inv hl0
  obtain ⟨b, t1, rfl, hl2⟩ := len_inv hl1
  obtain ⟨e, t2, rfl, hl3⟩ := len_inv hl2
  obtain ⟨f, t3, rfl, hl4⟩ := len_inv hl3
  obtain ⟨c, t4, rfl, hl5⟩ := len_inv hl4
  obtain ⟨d, t5, rfl, hl6⟩ := len_inv hl5
  have hl := List.eq_nil_of_length_eq_zero hl6
  subst hl
  have p1 := p_get3 (by decide) (fOk_hd hp)
  have p2 := p_get3 (by decide) (fOk_hd (fOk_tl hp))
  simp only [List.map, xv, fev, fvl, gtI, Int.one_mul, Int.add_zero, Int.zero_add] at p1 p2
  have q := k_sz_t (a := a) (b := b) (e := e) (f := f) (c := c) (d := d) p1 p2
  refine ⟨[], rfl, fOk_cons (p_put3 rfl (by decide) ?_) fOk_nil⟩ <;> simp only [List.map, xv, fev, fvl, gtI, Int.one_mul, Int.add_zero, Int.zero_add, List.append_nil]
  exact q
def r_szp_0 : eRul := (2, [xG (xv 0), xG (([(1, -1)], 0))], 0, [xP 147 [xv 0, xv 1]])
theorem r_szp_0_ok : ruOk r_szp_0 := by
  intro ρ hl0 hp
  obtain ⟨a, t0, rfl, hl1⟩ := len_inv hl0
  obtain ⟨b, t1, rfl, hl2⟩ := len_inv hl1
  have hl := List.eq_nil_of_length_eq_zero hl2
  subst hl
  have p1 := gg_get (fOk_hd hp)
  have p2 := gg_get (fOk_hd (fOk_tl hp))
  simp only [List.map, xv, fev, fvl, gtI, Int.one_mul, Int.add_zero, Int.zero_add] at p1 p2
  have q := k_szp_0 (a := a) (b := b) p1 p2
  refine ⟨[], rfl, fOk_cons (p_put3 rfl (by decide) ?_) fOk_nil⟩ <;> simp only [List.map, xv, fev, fvl, gtI, Int.one_mul, Int.add_zero, Int.zero_add, List.append_nil]
  exact q
def r_szp_1 : eRul := (2, [xP 147 [xv 0, xv 1]], 0, [xP 147 [xv 0, ([(1, 1)], 1)]])
theorem r_szp_1_ok : ruOk r_szp_1 := by
  intro ρ hl0 hp
  obtain ⟨a, t0, rfl, hl1⟩ := len_inv hl0
  obtain ⟨b, t1, rfl, hl2⟩ := len_inv hl1
  have hl := List.eq_nil_of_length_eq_zero hl2
  subst hl
  have p1 := p_get3 (by decide) (fOk_hd hp)
  simp only [List.map, xv, fev, fvl, gtI, Int.one_mul, Int.add_zero, Int.zero_add] at p1
  have q := k_szp_1 (a := a) (b := b) p1
  refine ⟨[], rfl, fOk_cons (p_put3 rfl (by decide) ?_) fOk_nil⟩ <;> simp only [List.map, xv, fev, fvl, gtI, Int.one_mul, Int.add_zero, Int.zero_add, List.append_nil]
  exact q
def r_szp_t : eRul := (4, [xP 146 [xv 0, xv 1, xv 2, xv 3], xP 147 [xv 2, xv 3]], 0, [xP 147 [xv 0, xv 1]])
theorem r_szp_t_ok : ruOk r_szp_t := by
  intro ρ hl0 hp
  obtain ⟨a, t0, rfl, hl1⟩ := len_inv hl0
  obtain ⟨b, t1, rfl, hl2⟩ := len_inv hl1
  obtain ⟨c, t2, rfl, hl3⟩ := len_inv hl2
  obtain ⟨d, t3, rfl, hl4⟩ := len_inv hl3
  have hl := List.eq_nil_of_length_eq_zero hl4
  subst hl
  have p1 := p_get3 (by decide) (fOk_hd hp)
  have p2 := p_get3 (by decide) (fOk_hd (fOk_tl hp))
  simp only [List.map, xv, fev, fvl, gtI, Int.one_mul, Int.add_zero, Int.zero_add] at p1 p2
  have q := k_szp_t (a := a) (b := b) (c := c) (d := d) p1 p2
  refine ⟨[], rfl, fOk_cons (p_put3 rfl (by decide) ?_) fOk_nil⟩ <;> simp only [List.map, xv, fev, fvl, gtI, Int.one_mul, Int.add_zero, Int.zero_add, List.append_nil]
  exact q
def r_sz_u : eRul := (4, [xP 146 [xv 0, xv 1, xv 2, xv 3], xP 147 [xv 2, xv 3], xG (([(1, 1)], -20)), xG (([(0, -1)], 0))], 0, [(.inl [[(0, 39)]], [xv 0])])
theorem r_sz_u_ok : ruOk r_sz_u := by
  intro ρ hl0 hp
  obtain ⟨a, t0, rfl, hl1⟩ := len_inv hl0
  obtain ⟨b, t1, rfl, hl2⟩ := len_inv hl1
  obtain ⟨c, t2, rfl, hl3⟩ := len_inv hl2
  obtain ⟨d, t3, rfl, hl4⟩ := len_inv hl3
  have hl := List.eq_nil_of_length_eq_zero hl4
  subst hl
  have p1 := p_get3 (by decide) (fOk_hd hp)
  have p2 := p_get3 (by decide) (fOk_hd (fOk_tl hp))
  have p3 := gg_get (fOk_hd (fOk_tl (fOk_tl hp)))
  have p4 := gg_get (fOk_hd (fOk_tl (fOk_tl (fOk_tl hp))))
  simp only [List.map, xv, fev, fvl, gtI, Int.one_mul, Int.add_zero, Int.zero_add] at p1 p2 p3 p4
  have q := k_sz_u (a := a) (b := b) (c := c) (d := d) p1 p2 p3 p4
  refine ⟨[], rfl, fOk_cons (i_put rfl ?_ ?_) fOk_nil⟩ <;> simp only [List.map, xv, fev, fvl, gtI, Int.one_mul, Int.add_zero, Int.zero_add, List.append_nil]
  · exact q.1
  · exact q.2
def r_sz_v : eRul := (2, [xP 147 [xv 0, xv 1], xG (([(1, 1)], -19)), xG (([(0, -1)], 0))], 0, [(.inl [[(0, 39)]], [xv 0])])
theorem r_sz_v_ok : ruOk r_sz_v := by
  intro ρ hl0 hp
  obtain ⟨a, t0, rfl, hl1⟩ := len_inv hl0
  obtain ⟨b, t1, rfl, hl2⟩ := len_inv hl1
  have hl := List.eq_nil_of_length_eq_zero hl2
  subst hl
  have p1 := p_get3 (by decide) (fOk_hd hp)
  have p2 := gg_get (fOk_hd (fOk_tl hp))
  have p3 := gg_get (fOk_hd (fOk_tl (fOk_tl hp)))
  simp only [List.map, xv, fev, fvl, gtI, Int.one_mul, Int.add_zero, Int.zero_add] at p1 p2 p3
  have q := k_sz_v (a := a) (b := b) p1 p2 p3
  refine ⟨[], rfl, fOk_cons (i_put rfl ?_ ?_) fOk_nil⟩ <;> simp only [List.map, xv, fev, fvl, gtI, Int.one_mul, Int.add_zero, Int.zero_add, List.append_nil]
  · exact q.1
  · exact q.2
def r_topl : eRul := (2, [(.inl [[(1, 9)]], [xv 0]), xG (([(1, -1)], 0))], 0, [xP 136 [([(0, 1), (1, 16)], 0), xv 0]])
theorem r_topl_ok : ruOk r_topl := by
  intro ρ hl0 hp
  obtain ⟨b, t0, rfl, hl1⟩ := len_inv hl0
  obtain ⟨M, t1, rfl, hl2⟩ := len_inv hl1
  have hl := List.eq_nil_of_length_eq_zero hl2
  subst hl
  have p1 := i_get (fOk_hd hp)
  have p2 := gg_get (fOk_hd (fOk_tl hp))
  simp only [List.map, xv, fev, fvl, gtI, Int.one_mul, Int.add_zero, Int.zero_add] at p1 p2
  have q := k_topl (b := b) (M := M) p1 p2
  refine ⟨[], rfl, fOk_cons (p_put3 rfl (by decide) ?_) fOk_nil⟩ <;> simp only [List.map, xv, fev, fvl, gtI, Int.one_mul, Int.add_zero, Int.zero_add, List.append_nil]
  exact q
def r_topl_1 : eRul := (0, [], 0, [xP 136 [([], 1), ([], 1)]])
theorem r_topl_1_ok : ruOk r_topl_1 := by
  intro ρ hl0 hp
  have hl := List.eq_nil_of_length_eq_zero hl0
  subst hl
  have q := k_topl_1
  refine ⟨[], rfl, fOk_cons (p_put3 rfl (by decide) ?_) fOk_nil⟩ <;> simp only [List.map, xv, fev, fvl, gtI, Int.one_mul, Int.add_zero, Int.zero_add, List.append_nil]
  exact q
def r_nwd_0 : eRul := (2, [], 0, [xP 138 [xv 0, xv 1, ([], 15)]])
theorem r_nwd_0_ok : ruOk r_nwd_0 := by
  intro ρ hl0 hp
  obtain ⟨kd, t0, rfl, hl1⟩ := len_inv hl0
  obtain ⟨w, t1, rfl, hl2⟩ := len_inv hl1
  have hl := List.eq_nil_of_length_eq_zero hl2
  subst hl
  have q := k_nwd_0 (kd := kd) (w := w)
  refine ⟨[], rfl, fOk_cons (p_put3 rfl (by decide) ?_) fOk_nil⟩ <;> simp only [List.map, xv, fev, fvl, gtI, Int.one_mul, Int.add_zero, Int.zero_add, List.append_nil]
  exact q
def r_nwd_1 : eRul := (3, [xP 138 [xv 0, xv 1, xv 2], xP 76 [xv 0, xv 1, xv 2, ([], 0)]], 0, [xP 138 [xv 0, xv 1, ([(2, 1)], 1)]])
theorem r_nwd_1_ok : ruOk r_nwd_1 := by
  intro ρ hl0 hp
  obtain ⟨kd, t0, rfl, hl1⟩ := len_inv hl0
  obtain ⟨w, t1, rfl, hl2⟩ := len_inv hl1
  obtain ⟨k, t2, rfl, hl3⟩ := len_inv hl2
  have hl := List.eq_nil_of_length_eq_zero hl3
  subst hl
  have p1 := p_get3 (by decide) (fOk_hd hp)
  have p2 := p_get3 (by decide) (fOk_hd (fOk_tl hp))
  simp only [List.map, xv, fev, fvl, gtI, Int.one_mul, Int.add_zero, Int.zero_add] at p1 p2
  have q := k_nwd_1 (kd := kd) (w := w) (k := k) p1 p2
  refine ⟨[], rfl, fOk_cons (p_put3 rfl (by decide) ?_) fOk_nil⟩ <;> simp only [List.map, xv, fev, fvl, gtI, Int.one_mul, Int.add_zero, Int.zero_add, List.append_nil]
  exact q
def r_s_init : eRul := (6, [xG (([(0, -1)], 0))], 0, [xP 133 [xv 1, xv 0, ([], 0), ([], 0), ([], 0), ([], 1), ([], 1), xv 2, xv 3, xv 4, xv 5]])
theorem r_s_init_ok : ruOk r_s_init := by
  intro ρ hl0 hp
  obtain ⟨n, t0, rfl, hl1⟩ := len_inv hl0
  obtain ⟨z, t1, rfl, hl2⟩ := len_inv hl1
  obtain ⟨zn, t2, rfl, hl3⟩ := len_inv hl2
  obtain ⟨h, t3, rfl, hl4⟩ := len_inv hl3
  obtain ⟨r, t4, rfl, hl5⟩ := len_inv hl4
  obtain ⟨g, t5, rfl, hl6⟩ := len_inv hl5
  have hl := List.eq_nil_of_length_eq_zero hl6
  subst hl
  have p1 := gg_get (fOk_hd hp)
  simp only [List.map, xv, fev, fvl, gtI, Int.one_mul, Int.add_zero, Int.zero_add] at p1
  have q := k_s_init (n := n) (z := z) (zn := zn) (h := h) (r := r) (g := g) p1
  refine ⟨[], rfl, fOk_cons (p_put3 rfl (by decide) ?_) fOk_nil⟩ <;> simp only [List.map, xv, fev, fvl, gtI, Int.one_mul, Int.add_zero, Int.zero_add, List.append_nil]
  exact q
def r_s_tok : eRul := (17, [xP 133 [xv 0, xv 1, xv 2, xv 3, xv 4, xv 5, xv 6, xv 7, xv 8, xv 9, xv 10], xP 53 [xv 0, xv 1, ([], 200), xv 3, xv 11, xv 12, xv 13, xv 14, xv 15, xv 16]], 0, [xP 130 [xv 0, xv 1, xv 2, xv 4, xv 5, xv 6, xv 7, xv 8, xv 9, xv 10, xv 11, xv 12, xv 13, xv 14, xv 15, xv 16]])
theorem r_s_tok_ok : ruOk r_s_tok := by
  intro ρ hl0 hp
  obtain ⟨z, t0, rfl, hl1⟩ := len_inv hl0
  obtain ⟨n, t1, rfl, hl2⟩ := len_inv hl1
  obtain ⟨q, t2, rfl, hl3⟩ := len_inv hl2
  obtain ⟨p, t3, rfl, hl4⟩ := len_inv hl3
  obtain ⟨c, t4, rfl, hl5⟩ := len_inv hl4
  obtain ⟨w, t5, rfl, hl6⟩ := len_inv hl5
  obtain ⟨L, t6, rfl, hl7⟩ := len_inv hl6
  obtain ⟨zn, t7, rfl, hl8⟩ := len_inv hl7
  obtain ⟨h, t8, rfl, hl9⟩ := len_inv hl8
  obtain ⟨r, t9, rfl, hl10⟩ := len_inv hl9
  obtain ⟨g, t10, rfl, hl11⟩ := len_inv hl10
  obtain ⟨kd, t11, rfl, hl12⟩ := len_inv hl11
  obtain ⟨pl, t12, rfl, hl13⟩ := len_inv hl12
  obtain ⟨fi, t13, rfl, hl14⟩ := len_inv hl13
  obtain ⟨kw, t14, rfl, hl15⟩ := len_inv hl14
  obtain ⟨va, t15, rfl, hl16⟩ := len_inv hl15
  obtain ⟨wo, t16, rfl, hl17⟩ := len_inv hl16
  have hl := List.eq_nil_of_length_eq_zero hl17
  subst hl
  have p1 := p_get3 (by decide) (fOk_hd hp)
  have p2 := p_get3 (by decide) (fOk_hd (fOk_tl hp))
  simp only [List.map, xv, fev, fvl, gtI, Int.one_mul, Int.add_zero, Int.zero_add] at p1 p2
  have q := k_s_tok (z := z) (n := n) (q := q) (p := p) (c := c) (w := w) (L := L) (zn := zn) (h := h) (r := r) (g := g) (kd := kd) (pl := pl) (fi := fi) (kw := kw) (va := va) (wo := wo) p1 p2
  refine ⟨[], rfl, fOk_cons (p_put3 rfl (by decide) ?_) fOk_nil⟩ <;> simp only [List.map, xv, fev, fvl, gtI, Int.one_mul, Int.add_zero, Int.zero_add, List.append_nil]
  exact q
def r_s_br : eRul := (15, [xP 130 [xv 0, xv 1, ([], 0), xv 2, xv 3, xv 4, xv 5, xv 6, xv 7, xv 8, xv 9, xv 10, xv 11, xv 12, xv 13, xv 14], xP 56 [xv 9, xv 13, ([], 40), ([], 1)], xG (([(2, 1)], -19)), xG (([(3, 1)], -8))], 0, [xP 133 [xv 0, xv 1, ([], 0), xv 11, ([(2, 1)], 1), ([(3, 1)], 1), ([(3, 1), (4, 16)], 1), xv 5, xv 6, xv 7, xv 8]])
theorem r_s_br_ok : ruOk r_s_br := by
  intro ρ hl0 hp
  obtain ⟨z, t0, rfl, hl1⟩ := len_inv hl0
  obtain ⟨n, t1, rfl, hl2⟩ := len_inv hl1
  obtain ⟨c, t2, rfl, hl3⟩ := len_inv hl2
  obtain ⟨w, t3, rfl, hl4⟩ := len_inv hl3
  obtain ⟨L, t4, rfl, hl5⟩ := len_inv hl4
  obtain ⟨zn, t5, rfl, hl6⟩ := len_inv hl5
  obtain ⟨h, t6, rfl, hl7⟩ := len_inv hl6
  obtain ⟨r, t7, rfl, hl8⟩ := len_inv hl7
  obtain ⟨g, t8, rfl, hl9⟩ := len_inv hl8
  obtain ⟨kd, t9, rfl, hl10⟩ := len_inv hl9
  obtain ⟨pl, t10, rfl, hl11⟩ := len_inv hl10
  obtain ⟨fi, t11, rfl, hl12⟩ := len_inv hl11
  obtain ⟨kw, t12, rfl, hl13⟩ := len_inv hl12
  obtain ⟨va, t13, rfl, hl14⟩ := len_inv hl13
  obtain ⟨wo, t14, rfl, hl15⟩ := len_inv hl14
  have hl := List.eq_nil_of_length_eq_zero hl15
  subst hl
  have p1 := p_get3 (by decide) (fOk_hd hp)
  have p2 := p_get3 (by decide) (fOk_hd (fOk_tl hp))
  have p3 := gg_get (fOk_hd (fOk_tl (fOk_tl hp)))
  have p4 := gg_get (fOk_hd (fOk_tl (fOk_tl (fOk_tl hp))))
  simp only [List.map, xv, fev, fvl, gtI, Int.one_mul, Int.add_zero, Int.zero_add] at p1 p2 p3 p4
  have q := k_s_br (z := z) (n := n) (c := c) (w := w) (L := L) (zn := zn) (h := h) (r := r) (g := g) (kd := kd) (pl := pl) (fi := fi) (kw := kw) (va := va) (wo := wo) p1 p2 p3 p4
  refine ⟨[], rfl, fOk_cons (p_put3 rfl (by decide) ?_) fOk_nil⟩ <;> simp only [List.map, xv, fev, fvl, gtI, Int.one_mul, Int.add_zero, Int.zero_add, List.append_nil]
  exact q
def r_s_not : eRul := (15, [xP 130 [xv 0, xv 1, ([], 0), xv 2, xv 3, xv 4, xv 5, xv 6, xv 7, xv 8, xv 9, xv 10, xv 11, xv 12, xv 13, xv 14], (.inl [[(15, 15)]], [xv 12]), xG (([(2, 1)], -19)), xG (([(3, 1)], -8))], 0, [xP 133 [xv 0, xv 1, ([], 0), xv 11, ([(2, 1)], 1), ([(3, 1)], 1), xv 4, xv 5, xv 6, xv 7, xv 8]])
theorem r_s_not_ok : ruOk r_s_not := by
  intro ρ hl0 hp
  obtain ⟨z, t0, rfl, hl1⟩ := len_inv hl0
  obtain ⟨n, t1, rfl, hl2⟩ := len_inv hl1
  obtain ⟨c, t2, rfl, hl3⟩ := len_inv hl2
  obtain ⟨w, t3, rfl, hl4⟩ := len_inv hl3
  obtain ⟨L, t4, rfl, hl5⟩ := len_inv hl4
  obtain ⟨zn, t5, rfl, hl6⟩ := len_inv hl5
  obtain ⟨h, t6, rfl, hl7⟩ := len_inv hl6
  obtain ⟨r, t7, rfl, hl8⟩ := len_inv hl7
  obtain ⟨g, t8, rfl, hl9⟩ := len_inv hl8
  obtain ⟨kd, t9, rfl, hl10⟩ := len_inv hl9
  obtain ⟨pl, t10, rfl, hl11⟩ := len_inv hl10
  obtain ⟨fi, t11, rfl, hl12⟩ := len_inv hl11
  obtain ⟨kw, t12, rfl, hl13⟩ := len_inv hl12
  obtain ⟨va, t13, rfl, hl14⟩ := len_inv hl13
  obtain ⟨wo, t14, rfl, hl15⟩ := len_inv hl14
  have hl := List.eq_nil_of_length_eq_zero hl15
  subst hl
  have p1 := p_get3 (by decide) (fOk_hd hp)
  have p2 := i_get (fOk_hd (fOk_tl hp))
  have p3 := gg_get (fOk_hd (fOk_tl (fOk_tl hp)))
  have p4 := gg_get (fOk_hd (fOk_tl (fOk_tl (fOk_tl hp))))
  simp only [List.map, xv, fev, fvl, gtI, Int.one_mul, Int.add_zero, Int.zero_add] at p1 p2 p3 p4
  have q := k_s_not (z := z) (n := n) (c := c) (w := w) (L := L) (zn := zn) (h := h) (r := r) (g := g) (kd := kd) (pl := pl) (fi := fi) (kw := kw) (va := va) (wo := wo) p1 p2 p3 p4
  refine ⟨[], rfl, fOk_cons (p_put3 rfl (by decide) ?_) fOk_nil⟩ <;> simp only [List.map, xv, fev, fvl, gtI, Int.one_mul, Int.add_zero, Int.zero_add, List.append_nil]
  exact q
def r_s_pl : eRul := (15, [xP 130 [xv 0, xv 1, ([], 0), xv 2, xv 3, xv 4, xv 5, xv 6, xv 7, xv 8, xv 9, xv 10, xv 11, xv 12, xv 13, xv 14], (.inl [[(16, 17)]], [xv 12]), xG (([(2, 1)], -19)), xG (([(3, 1)], -8))], 0, [xP 133 [xv 0, xv 1, ([], 1), xv 11, ([(2, 1)], 1), ([], 0), xv 4, xv 5, xv 6, xv 7, xv 8]])
theorem r_s_pl_ok : ruOk r_s_pl := by
  intro ρ hl0 hp
  obtain ⟨z, t0, rfl, hl1⟩ := len_inv hl0
  obtain ⟨n, t1, rfl, hl2⟩ := len_inv hl1
  obtain ⟨c, t2, rfl, hl3⟩ := len_inv hl2
  obtain ⟨w, t3, rfl, hl4⟩ := len_inv hl3
  obtain ⟨L, t4, rfl, hl5⟩ := len_inv hl4
  obtain ⟨zn, t5, rfl, hl6⟩ := len_inv hl5
  obtain ⟨h, t6, rfl, hl7⟩ := len_inv hl6
  obtain ⟨r, t7, rfl, hl8⟩ := len_inv hl7
  obtain ⟨g, t8, rfl, hl9⟩ := len_inv hl8
  obtain ⟨kd, t9, rfl, hl10⟩ := len_inv hl9
  obtain ⟨pl, t10, rfl, hl11⟩ := len_inv hl10
  obtain ⟨fi, t11, rfl, hl12⟩ := len_inv hl11
  obtain ⟨kw, t12, rfl, hl13⟩ := len_inv hl12
  obtain ⟨va, t13, rfl, hl14⟩ := len_inv hl13
  obtain ⟨wo, t14, rfl, hl15⟩ := len_inv hl14
  have hl := List.eq_nil_of_length_eq_zero hl15
  subst hl
  have p1 := p_get3 (by decide) (fOk_hd hp)
  have p2 := i_get (fOk_hd (fOk_tl hp))
  have p3 := gg_get (fOk_hd (fOk_tl (fOk_tl hp)))
  have p4 := gg_get (fOk_hd (fOk_tl (fOk_tl (fOk_tl hp))))
  simp only [List.map, xv, fev, fvl, gtI, Int.one_mul, Int.add_zero, Int.zero_add] at p1 p2 p3 p4
  have q := k_s_pl (z := z) (n := n) (c := c) (w := w) (L := L) (zn := zn) (h := h) (r := r) (g := g) (kd := kd) (pl := pl) (fi := fi) (kw := kw) (va := va) (wo := wo) p1 p2 p3 p4
  refine ⟨[], rfl, fOk_cons (p_put3 rfl (by decide) ?_) fOk_nil⟩ <;> simp only [List.map, xv, fev, fvl, gtI, Int.one_mul, Int.add_zero, Int.zero_add, List.append_nil]
  exact q
def r_s_in : eRul := (15, [xP 130 [xv 0, xv 1, ([], 0), xv 2, xv 3, xv 4, xv 5, xv 6, xv 7, xv 8, xv 9, xv 10, xv 11, xv 12, xv 13, xv 14], (.inl [[(18, 18)]], [xv 12]), xG (([(2, 1)], -19)), xG (([(3, 1)], -8))], 0, [xP 133 [xv 0, xv 1, ([], 2), xv 11, ([(2, 1)], 1), ([], 0), xv 4, xv 5, xv 6, xv 7, xv 8]])
theorem r_s_in_ok : ruOk r_s_in := by
  intro ρ hl0 hp
  obtain ⟨z, t0, rfl, hl1⟩ := len_inv hl0
  obtain ⟨n, t1, rfl, hl2⟩ := len_inv hl1
  obtain ⟨c, t2, rfl, hl3⟩ := len_inv hl2
  obtain ⟨w, t3, rfl, hl4⟩ := len_inv hl3
  obtain ⟨L, t4, rfl, hl5⟩ := len_inv hl4
  obtain ⟨zn, t5, rfl, hl6⟩ := len_inv hl5
  obtain ⟨h, t6, rfl, hl7⟩ := len_inv hl6
  obtain ⟨r, t7, rfl, hl8⟩ := len_inv hl7
  obtain ⟨g, t8, rfl, hl9⟩ := len_inv hl8
  obtain ⟨kd, t9, rfl, hl10⟩ := len_inv hl9
  obtain ⟨pl, t10, rfl, hl11⟩ := len_inv hl10
  obtain ⟨fi, t11, rfl, hl12⟩ := len_inv hl11
  obtain ⟨kw, t12, rfl, hl13⟩ := len_inv hl12
  obtain ⟨va, t13, rfl, hl14⟩ := len_inv hl13
  obtain ⟨wo, t14, rfl, hl15⟩ := len_inv hl14
  have hl := List.eq_nil_of_length_eq_zero hl15
  subst hl
  have p1 := p_get3 (by decide) (fOk_hd hp)
  have p2 := i_get (fOk_hd (fOk_tl hp))
  have p3 := gg_get (fOk_hd (fOk_tl (fOk_tl hp)))
  have p4 := gg_get (fOk_hd (fOk_tl (fOk_tl (fOk_tl hp))))
  simp only [List.map, xv, fev, fvl, gtI, Int.one_mul, Int.add_zero, Int.zero_add] at p1 p2 p3 p4
  have q := k_s_in (z := z) (n := n) (c := c) (w := w) (L := L) (zn := zn) (h := h) (r := r) (g := g) (kd := kd) (pl := pl) (fi := fi) (kw := kw) (va := va) (wo := wo) p1 p2 p3 p4
  refine ⟨[], rfl, fOk_cons (p_put3 rfl (by decide) ?_) fOk_nil⟩ <;> simp only [List.map, xv, fev, fvl, gtI, Int.one_mul, Int.add_zero, Int.zero_add, List.append_nil]
  exact q
def r_s_has : eRul := (15, [xP 130 [xv 0, xv 1, ([], 0), xv 2, xv 3, xv 4, xv 5, xv 6, xv 7, xv 8, xv 9, xv 10, xv 11, xv 12, xv 13, xv 14], (.inl [[(19, 19)]], [xv 12]), xG (([(2, 1)], -19)), xG (([(3, 1)], -8))], 0, [xP 133 [xv 0, xv 1, ([], 3), xv 11, ([(2, 1)], 1), ([], 0), xv 4, xv 5, xv 6, xv 7, xv 8]])
theorem r_s_has_ok : ruOk r_s_has := by
  intro ρ hl0 hp
  obtain ⟨z, t0, rfl, hl1⟩ := len_inv hl0
  obtain ⟨n, t1, rfl, hl2⟩ := len_inv hl1
  obtain ⟨c, t2, rfl, hl3⟩ := len_inv hl2
  obtain ⟨w, t3, rfl, hl4⟩ := len_inv hl3
  obtain ⟨L, t4, rfl, hl5⟩ := len_inv hl4
  obtain ⟨zn, t5, rfl, hl6⟩ := len_inv hl5
  obtain ⟨h, t6, rfl, hl7⟩ := len_inv hl6
  obtain ⟨r, t7, rfl, hl8⟩ := len_inv hl7
  obtain ⟨g, t8, rfl, hl9⟩ := len_inv hl8
  obtain ⟨kd, t9, rfl, hl10⟩ := len_inv hl9
  obtain ⟨pl, t10, rfl, hl11⟩ := len_inv hl10
  obtain ⟨fi, t11, rfl, hl12⟩ := len_inv hl11
  obtain ⟨kw, t12, rfl, hl13⟩ := len_inv hl12
  obtain ⟨va, t13, rfl, hl14⟩ := len_inv hl13
  obtain ⟨wo, t14, rfl, hl15⟩ := len_inv hl14
  have hl := List.eq_nil_of_length_eq_zero hl15
  subst hl
  have p1 := p_get3 (by decide) (fOk_hd hp)
  have p2 := i_get (fOk_hd (fOk_tl hp))
  have p3 := gg_get (fOk_hd (fOk_tl (fOk_tl hp)))
  have p4 := gg_get (fOk_hd (fOk_tl (fOk_tl (fOk_tl hp))))
  simp only [List.map, xv, fev, fvl, gtI, Int.one_mul, Int.add_zero, Int.zero_add] at p1 p2 p3 p4
  have q := k_s_has (z := z) (n := n) (c := c) (w := w) (L := L) (zn := zn) (h := h) (r := r) (g := g) (kd := kd) (pl := pl) (fi := fi) (kw := kw) (va := va) (wo := wo) p1 p2 p3 p4
  refine ⟨[], rfl, fOk_cons (p_put3 rfl (by decide) ?_) fOk_nil⟩ <;> simp only [List.map, xv, fev, fvl, gtI, Int.one_mul, Int.add_zero, Int.zero_add, List.append_nil]
  exact q
def r_s_cmp : eRul := (15, [xP 130 [xv 0, xv 1, ([], 0), xv 2, xv 3, xv 4, xv 5, xv 6, xv 7, xv 8, xv 9, xv 10, xv 11, xv 12, xv 13, xv 14], (.inl [[(20, 23)]], [xv 12]), xG (([(2, 1)], -19)), xG (([(3, 1)], -8))], 0, [xP 133 [xv 0, xv 1, ([], 4), xv 11, ([(2, 1)], 1), ([], 0), xv 4, xv 5, xv 6, xv 7, xv 8]])
theorem r_s_cmp_ok : ruOk r_s_cmp := by
  intro ρ hl0 hp
  obtain ⟨z, t0, rfl, hl1⟩ := len_inv hl0
  obtain ⟨n, t1, rfl, hl2⟩ := len_inv hl1
  obtain ⟨c, t2, rfl, hl3⟩ := len_inv hl2
  obtain ⟨w, t3, rfl, hl4⟩ := len_inv hl3
  obtain ⟨L, t4, rfl, hl5⟩ := len_inv hl4
  obtain ⟨zn, t5, rfl, hl6⟩ := len_inv hl5
  obtain ⟨h, t6, rfl, hl7⟩ := len_inv hl6
  obtain ⟨r, t7, rfl, hl8⟩ := len_inv hl7
  obtain ⟨g, t8, rfl, hl9⟩ := len_inv hl8
  obtain ⟨kd, t9, rfl, hl10⟩ := len_inv hl9
  obtain ⟨pl, t10, rfl, hl11⟩ := len_inv hl10
  obtain ⟨fi, t11, rfl, hl12⟩ := len_inv hl11
  obtain ⟨kw, t12, rfl, hl13⟩ := len_inv hl12
  obtain ⟨va, t13, rfl, hl14⟩ := len_inv hl13
  obtain ⟨wo, t14, rfl, hl15⟩ := len_inv hl14
  have hl := List.eq_nil_of_length_eq_zero hl15
  subst hl
  have p1 := p_get3 (by decide) (fOk_hd hp)
  have p2 := i_get (fOk_hd (fOk_tl hp))
  have p3 := gg_get (fOk_hd (fOk_tl (fOk_tl hp)))
  have p4 := gg_get (fOk_hd (fOk_tl (fOk_tl (fOk_tl hp))))
  simp only [List.map, xv, fev, fvl, gtI, Int.one_mul, Int.add_zero, Int.zero_add] at p1 p2 p3 p4
  have q := k_s_cmp (z := z) (n := n) (c := c) (w := w) (L := L) (zn := zn) (h := h) (r := r) (g := g) (kd := kd) (pl := pl) (fi := fi) (kw := kw) (va := va) (wo := wo) p1 p2 p3 p4
  refine ⟨[], rfl, fOk_cons (p_put3 rfl (by decide) ?_) fOk_nil⟩ <;> simp only [List.map, xv, fev, fvl, gtI, Int.one_mul, Int.add_zero, Int.zero_add, List.append_nil]
  exact q
def r_s_many1a : eRul := (15, [xP 130 [xv 0, xv 1, ([], 0), xv 2, xv 3, xv 4, xv 5, xv 6, xv 7, xv 8, xv 9, xv 10, xv 11, xv 12, xv 13, xv 14], xP 56 [xv 9, xv 13, ([], 40), ([], 1)], xG (([(2, -1)], 20))], 0, [xP 134 [xv 0, xv 1, xv 5, xv 6, xv 7, xv 8, ([(10, -1)], -1), ([], 4)]])
theorem r_s_many1a_ok : ruOk r_s_many1a := by
  intro ρ hl0 hp
  obtain ⟨z, t0, rfl, hl1⟩ := len_inv hl0
  obtain ⟨n, t1, rfl, hl2⟩ := len_inv hl1
  obtain ⟨c, t2, rfl, hl3⟩ := len_inv hl2
  obtain ⟨w, t3, rfl, hl4⟩ := len_inv hl3
  obtain ⟨L, t4, rfl, hl5⟩ := len_inv hl4
  obtain ⟨zn, t5, rfl, hl6⟩ := len_inv hl5
  obtain ⟨h, t6, rfl, hl7⟩ := len_inv hl6
  obtain ⟨r, t7, rfl, hl8⟩ := len_inv hl7
  obtain ⟨g, t8, rfl, hl9⟩ := len_inv hl8
  obtain ⟨kd, t9, rfl, hl10⟩ := len_inv hl9
  obtain ⟨pl, t10, rfl, hl11⟩ := len_inv hl10
  obtain ⟨fi, t11, rfl, hl12⟩ := len_inv hl11
  obtain ⟨kw, t12, rfl, hl13⟩ := len_inv hl12
  obtain ⟨va, t13, rfl, hl14⟩ := len_inv hl13
  obtain ⟨wo, t14, rfl, hl15⟩ := len_inv hl14
  have hl := List.eq_nil_of_length_eq_zero hl15
  subst hl
  have p1 := p_get3 (by decide) (fOk_hd hp)
  have p2 := p_get3 (by decide) (fOk_hd (fOk_tl hp))
  have p3 := gg_get (fOk_hd (fOk_tl (fOk_tl hp)))
  simp only [List.map, xv, fev, fvl, gtI, Int.one_mul, Int.add_zero, Int.zero_add] at p1 p2 p3
  have q := k_s_many1a (z := z) (n := n) (c := c) (w := w) (L := L) (zn := zn) (h := h) (r := r) (g := g) (kd := kd) (pl := pl) (fi := fi) (kw := kw) (va := va) (wo := wo) p1 p2 p3
  refine ⟨[], rfl, fOk_cons (p_put3 rfl (by decide) ?_) fOk_nil⟩ <;> simp only [List.map, xv, fev, fvl, gtI, Int.one_mul, Int.add_zero, Int.zero_add, List.append_nil]
  exact q
def r_s_many2a : eRul := (15, [xP 130 [xv 0, xv 1, ([], 0), xv 2, xv 3, xv 4, xv 5, xv 6, xv 7, xv 8, xv 9, xv 10, xv 11, xv 12, xv 13, xv 14], (.inl [[(15, 23)]], [xv 12]), xG (([(2, -1)], 20))], 0, [xP 134 [xv 0, xv 1, xv 5, xv 6, xv 7, xv 8, ([(10, -1)], -1), ([], 4)]])
theorem r_s_many2a_ok : ruOk r_s_many2a := by
  intro ρ hl0 hp
  obtain ⟨z, t0, rfl, hl1⟩ := len_inv hl0
  obtain ⟨n, t1, rfl, hl2⟩ := len_inv hl1
  obtain ⟨c, t2, rfl, hl3⟩ := len_inv hl2
  obtain ⟨w, t3, rfl, hl4⟩ := len_inv hl3
  obtain ⟨L, t4, rfl, hl5⟩ := len_inv hl4
  obtain ⟨zn, t5, rfl, hl6⟩ := len_inv hl5
  obtain ⟨h, t6, rfl, hl7⟩ := len_inv hl6
  obtain ⟨r, t7, rfl, hl8⟩ := len_inv hl7
  obtain ⟨g, t8, rfl, hl9⟩ := len_inv hl8
  obtain ⟨kd, t9, rfl, hl10⟩ := len_inv hl9
  obtain ⟨pl, t10, rfl, hl11⟩ := len_inv hl10
  obtain ⟨fi, t11, rfl, hl12⟩ := len_inv hl11
  obtain ⟨kw, t12, rfl, hl13⟩ := len_inv hl12
  obtain ⟨va, t13, rfl, hl14⟩ := len_inv hl13
  obtain ⟨wo, t14, rfl, hl15⟩ := len_inv hl14
  have hl := List.eq_nil_of_length_eq_zero hl15
  subst hl
  have p1 := p_get3 (by decide) (fOk_hd hp)
  have p2 := i_get (fOk_hd (fOk_tl hp))
  have p3 := gg_get (fOk_hd (fOk_tl (fOk_tl hp)))
  simp only [List.map, xv, fev, fvl, gtI, Int.one_mul, Int.add_zero, Int.zero_add] at p1 p2 p3
  have q := k_s_many2a (z := z) (n := n) (c := c) (w := w) (L := L) (zn := zn) (h := h) (r := r) (g := g) (kd := kd) (pl := pl) (fi := fi) (kw := kw) (va := va) (wo := wo) p1 p2 p3
  refine ⟨[], rfl, fOk_cons (p_put3 rfl (by decide) ?_) fOk_nil⟩ <;> simp only [List.map, xv, fev, fvl, gtI, Int.one_mul, Int.add_zero, Int.zero_add, List.append_nil]
  exact q
def r_s_many1b : eRul := (15, [xP 130 [xv 0, xv 1, ([], 0), xv 2, xv 3, xv 4, xv 5, xv 6, xv 7, xv 8, xv 9, xv 10, xv 11, xv 12, xv 13, xv 14], xP 56 [xv 9, xv 13, ([], 40), ([], 1)], xG (([(3, -1)], 9))], 0, [xP 134 [xv 0, xv 1, xv 5, xv 6, xv 7, xv 8, ([(10, -1)], -1), ([], 4)]])
theorem r_s_many1b_ok : ruOk r_s_many1b := by
  intro ρ hl0 hp
  obtain ⟨z, t0, rfl, hl1⟩ := len_inv hl0
  obtain ⟨n, t1, rfl, hl2⟩ := len_inv hl1
  obtain ⟨c, t2, rfl, hl3⟩ := len_inv hl2
  obtain ⟨w, t3, rfl, hl4⟩ := len_inv hl3
  obtain ⟨L, t4, rfl, hl5⟩ := len_inv hl4
  obtain ⟨zn, t5, rfl, hl6⟩ := len_inv hl5
  obtain ⟨h, t6, rfl, hl7⟩ := len_inv hl6
  obtain ⟨r, t7, rfl, hl8⟩ := len_inv hl7
  obtain ⟨g, t8, rfl, hl9⟩ := len_inv hl8
  obtain ⟨kd, t9, rfl, hl10⟩ := len_inv hl9
  obtain ⟨pl, t10, rfl, hl11⟩ := len_inv hl10
  obtain ⟨fi, t11, rfl, hl12⟩ := len_inv hl11
  obtain ⟨kw, t12, rfl, hl13⟩ := len_inv hl12
  obtain ⟨va, t13, rfl, hl14⟩ := len_inv hl13
  obtain ⟨wo, t14, rfl, hl15⟩ := len_inv hl14
  have hl := List.eq_nil_of_length_eq_zero hl15
  subst hl
  have p1 := p_get3 (by decide) (fOk_hd hp)
  have p2 := p_get3 (by decide) (fOk_hd (fOk_tl hp))
  have p3 := gg_get (fOk_hd (fOk_tl (fOk_tl hp)))
  simp only [List.map, xv, fev, fvl, gtI, Int.one_mul, Int.add_zero, Int.zero_add] at p1 p2 p3
  have q := k_s_many1b (z := z) (n := n) (c := c) (w := w) (L := L) (zn := zn) (h := h) (r := r) (g := g) (kd := kd) (pl := pl) (fi := fi) (kw := kw) (va := va) (wo := wo) p1 p2 p3
  refine ⟨[], rfl, fOk_cons (p_put3 rfl (by decide) ?_) fOk_nil⟩ <;> simp only [List.map, xv, fev, fvl, gtI, Int.one_mul, Int.add_zero, Int.zero_add, List.append_nil]
  exact q
def r_s_many2b : eRul := (15, [xP 130 [xv 0, xv 1, ([], 0), xv 2, xv 3, xv 4, xv 5, xv 6, xv 7, xv 8, xv 9, xv 10, xv 11, xv 12, xv 13, xv 14], (.inl [[(15, 23)]], [xv 12]), xG (([(3, -1)], 9))], 0, [xP 134 [xv 0, xv 1, xv 5, xv 6, xv 7, xv 8, ([(10, -1)], -1), ([], 4)]])
theorem r_s_many2b_ok : ruOk r_s_many2b := by
  intro ρ hl0 hp
  obtain ⟨z, t0, rfl, hl1⟩ := len_inv hl0
  obtain ⟨n, t1, rfl, hl2⟩ := len_inv hl1
  obtain ⟨c, t2, rfl, hl3⟩ := len_inv hl2
  obtain ⟨w, t3, rfl, hl4⟩ := len_inv hl3
  obtain ⟨L, t4, rfl, hl5⟩ := len_inv hl4
  obtain ⟨zn, t5, rfl, hl6⟩ := len_inv hl5
  obtain ⟨h, t6, rfl, hl7⟩ := len_inv hl6
  obtain ⟨r, t7, rfl, hl8⟩ := len_inv hl7
  obtain ⟨g, t8, rfl, hl9⟩ := len_inv hl8
  obtain ⟨kd, t9, rfl, hl10⟩ := len_inv hl9
  obtain ⟨pl, t10, rfl, hl11⟩ := len_inv hl10
  obtain ⟨fi, t11, rfl, hl12⟩ := len_inv hl11
  obtain ⟨kw, t12, rfl, hl13⟩ := len_inv hl12
  obtain ⟨va, t13, rfl, hl14⟩ := len_inv hl13
  obtain ⟨wo, t14, rfl, hl15⟩ := len_inv hl14
  have hl := List.eq_nil_of_length_eq_zero hl15
  subst hl
  have p1 := p_get3 (by decide) (fOk_hd hp)
  have p2 := i_get (fOk_hd (fOk_tl hp))
  have p3 := gg_get (fOk_hd (fOk_tl (fOk_tl hp)))
  simp only [List.map, xv, fev, fvl, gtI, Int.one_mul, Int.add_zero, Int.zero_add] at p1 p2 p3
  have q := k_s_many2b (z := z) (n := n) (c := c) (w := w) (L := L) (zn := zn) (h := h) (r := r) (g := g) (kd := kd) (pl := pl) (fi := fi) (kw := kw) (va := va) (wo := wo) p1 p2 p3
  refine ⟨[], rfl, fOk_cons (p_put3 rfl (by decide) ?_) fOk_nil⟩ <;> simp only [List.map, xv, fev, fvl, gtI, Int.one_mul, Int.add_zero, Int.zero_add, List.append_nil]
  exact q
def r_s_bad0 : eRul := (15, [xP 130 [xv 0, xv 1, ([], 0), xv 2, xv 3, xv 4, xv 5, xv 6, xv 7, xv 8, xv 9, xv 10, xv 11, xv 12, xv 13, xv 14], xP 56 [xv 9, xv 13, ([], 40), ([], 0)], xP 148 [xv 12]], 0, [xP 134 [xv 0, xv 1, xv 5, xv 6, xv 7, xv 8, ([(10, -1)], -1), ([], 1)]])
theorem r_s_bad0_ok : ruOk r_s_bad0 := by
  intro ρ hl0 hp
  obtain ⟨z, t0, rfl, hl1⟩ := len_inv hl0
  obtain ⟨n, t1, rfl, hl2⟩ := len_inv hl1
  obtain ⟨c, t2, rfl, hl3⟩ := len_inv hl2
  obtain ⟨w, t3, rfl, hl4⟩ := len_inv hl3
  obtain ⟨L, t4, rfl, hl5⟩ := len_inv hl4
  obtain ⟨zn, t5, rfl, hl6⟩ := len_inv hl5
  obtain ⟨h, t6, rfl, hl7⟩ := len_inv hl6
  obtain ⟨r, t7, rfl, hl8⟩ := len_inv hl7
  obtain ⟨g, t8, rfl, hl9⟩ := len_inv hl8
  obtain ⟨kd, t9, rfl, hl10⟩ := len_inv hl9
  obtain ⟨pl, t10, rfl, hl11⟩ := len_inv hl10
  obtain ⟨fi, t11, rfl, hl12⟩ := len_inv hl11
  obtain ⟨kw, t12, rfl, hl13⟩ := len_inv hl12
  obtain ⟨va, t13, rfl, hl14⟩ := len_inv hl13
  obtain ⟨wo, t14, rfl, hl15⟩ := len_inv hl14
  have hl := List.eq_nil_of_length_eq_zero hl15
  subst hl
  have p1 := p_get3 (by decide) (fOk_hd hp)
  have p2 := p_get3 (by decide) (fOk_hd (fOk_tl hp))
  have p3 := p_get3 (by decide) (fOk_hd (fOk_tl (fOk_tl hp)))
  simp only [List.map, xv, fev, fvl, gtI, Int.one_mul, Int.add_zero, Int.zero_add] at p1 p2 p3
  have q := k_s_bad0 (z := z) (n := n) (c := c) (w := w) (L := L) (zn := zn) (h := h) (r := r) (g := g) (kd := kd) (pl := pl) (fi := fi) (kw := kw) (va := va) (wo := wo) p1 p2 p3
  refine ⟨[], rfl, fOk_cons (p_put3 rfl (by decide) ?_) fOk_nil⟩ <;> simp only [List.map, xv, fev, fvl, gtI, Int.one_mul, Int.add_zero, Int.zero_add, List.append_nil]
  exact q
def r_s_op : eRul := (16, [xP 130 [xv 0, xv 1, ([], 1), xv 2, xv 3, xv 4, xv 5, xv 6, xv 7, xv 8, xv 9, xv 10, xv 11, xv 12, xv 13, xv 14], (.inl [[(13, 14)]], [xv 12]), xP 136 [xv 4, xv 15]], 0, [xP 133 [xv 0, xv 1, ([], 0), xv 11, xv 2, xv 15, xv 4, xv 5, xv 6, xv 7, xv 8]])
theorem r_s_op_ok : ruOk r_s_op := by
  intro ρ hl0 hp
  obtain ⟨z, t0, rfl, hl1⟩ := len_inv hl0
  obtain ⟨n, t1, rfl, hl2⟩ := len_inv hl1
  obtain ⟨c, t2, rfl, hl3⟩ := len_inv hl2
  obtain ⟨w, t3, rfl, hl4⟩ := len_inv hl3
  obtain ⟨L, t4, rfl, hl5⟩ := len_inv hl4
  obtain ⟨zn, t5, rfl, hl6⟩ := len_inv hl5
  obtain ⟨h, t6, rfl, hl7⟩ := len_inv hl6
  obtain ⟨r, t7, rfl, hl8⟩ := len_inv hl7
  obtain ⟨g, t8, rfl, hl9⟩ := len_inv hl8
  obtain ⟨kd, t9, rfl, hl10⟩ := len_inv hl9
  obtain ⟨pl, t10, rfl, hl11⟩ := len_inv hl10
  obtain ⟨fi, t11, rfl, hl12⟩ := len_inv hl11
  obtain ⟨kw, t12, rfl, hl13⟩ := len_inv hl12
  obtain ⟨va, t13, rfl, hl14⟩ := len_inv hl13
  obtain ⟨wo, t14, rfl, hl15⟩ := len_inv hl14
  obtain ⟨b, t15, rfl, hl16⟩ := len_inv hl15
  have hl := List.eq_nil_of_length_eq_zero hl16
  subst hl
  have p1 := p_get3 (by decide) (fOk_hd hp)
  have p2 := i_get (fOk_hd (fOk_tl hp))
  have p3 := p_get3 (by decide) (fOk_hd (fOk_tl (fOk_tl hp)))
  simp only [List.map, xv, fev, fvl, gtI, Int.one_mul, Int.add_zero, Int.zero_add] at p1 p2 p3
  have q := k_s_op (z := z) (n := n) (c := c) (w := w) (L := L) (zn := zn) (h := h) (r := r) (g := g) (kd := kd) (pl := pl) (fi := fi) (kw := kw) (va := va) (wo := wo) (b := b) p1 p2 p3
  refine ⟨[], rfl, fOk_cons (p_put3 rfl (by decide) ?_) fOk_nil⟩ <;> simp only [List.map, xv, fev, fvl, gtI, Int.one_mul, Int.add_zero, Int.zero_add, List.append_nil]
  exact q
def r_s_cl : eRul := (16, [xP 130 [xv 0, xv 1, ([], 1), xv 2, xv 3, ([(4, 16), (5, 1)], 0), xv 6, xv 7, xv 8, xv 9, xv 10, xv 11, xv 12, xv 13, xv 14, xv 15], xP 56 [xv 10, xv 14, ([], 41), ([], 1)], (.inl [[(1, 9)]], [xv 5]), xG (([(4, -1)], 1))], 0, [xP 133 [xv 0, xv 1, ([], 1), xv 12, xv 2, ([], 0), xv 4, xv 6, xv 7, xv 8, xv 9]])
theorem r_s_cl_ok : ruOk r_s_cl := by
  intro ρ hl0 hp
  obtain ⟨z, t0, rfl, hl1⟩ := len_inv hl0
  obtain ⟨n, t1, rfl, hl2⟩ := len_inv hl1
  obtain ⟨c, t2, rfl, hl3⟩ := len_inv hl2
  obtain ⟨w, t3, rfl, hl4⟩ := len_inv hl3
  obtain ⟨L, t4, rfl, hl5⟩ := len_inv hl4
  obtain ⟨b, t5, rfl, hl6⟩ := len_inv hl5
  obtain ⟨zn, t6, rfl, hl7⟩ := len_inv hl6
  obtain ⟨h, t7, rfl, hl8⟩ := len_inv hl7
  obtain ⟨r, t8, rfl, hl9⟩ := len_inv hl8
  obtain ⟨g, t9, rfl, hl10⟩ := len_inv hl9
  obtain ⟨kd, t10, rfl, hl11⟩ := len_inv hl10
  obtain ⟨pl, t11, rfl, hl12⟩ := len_inv hl11
  obtain ⟨fi, t12, rfl, hl13⟩ := len_inv hl12
  obtain ⟨kw, t13, rfl, hl14⟩ := len_inv hl13
  obtain ⟨va, t14, rfl, hl15⟩ := len_inv hl14
  obtain ⟨wo, t15, rfl, hl16⟩ := len_inv hl15
  have hl := List.eq_nil_of_length_eq_zero hl16
  subst hl
  have p1 := p_get3 (by decide) (fOk_hd hp)
  have p2 := p_get3 (by decide) (fOk_hd (fOk_tl hp))
  have p3 := i_get (fOk_hd (fOk_tl (fOk_tl hp)))
  have p4 := gg_get (fOk_hd (fOk_tl (fOk_tl (fOk_tl hp))))
  simp only [List.map, xv, fev, fvl, gtI, Int.one_mul, Int.add_zero, Int.zero_add] at p1 p2 p3 p4
  have q := k_s_cl (z := z) (n := n) (c := c) (w := w) (L := L) (b := b) (zn := zn) (h := h) (r := r) (g := g) (kd := kd) (pl := pl) (fi := fi) (kw := kw) (va := va) (wo := wo) p1 p2 p3 p4
  refine ⟨[], rfl, fOk_cons (p_put3 rfl (by decide) ?_) fOk_nil⟩ <;> simp only [List.map, xv, fev, fvl, gtI, Int.one_mul, Int.add_zero, Int.zero_add, List.append_nil]
  exact q
def r_s_cl_bad : eRul := (15, [xP 130 [xv 0, xv 1, ([], 1), xv 2, xv 3, xv 4, xv 5, xv 6, xv 7, xv 8, xv 9, xv 10, xv 11, xv 12, xv 13, xv 14], xG (([(4, -1)], 16)), xP 56 [xv 9, xv 13, ([], 41), ([], 0)], xP 137 [xv 12, ([], 13)], xP 137 [xv 12, ([], 14)]], 0, [xP 134 [xv 0, xv 1, xv 5, xv 6, xv 7, xv 8, ([(10, -1)], -1), ([], 1)]])
theorem r_s_cl_bad_ok : ruOk r_s_cl_bad := by
  intro ρ hl0 hp
  obtain ⟨z, t0, rfl, hl1⟩ := len_inv hl0
  obtain ⟨n, t1, rfl, hl2⟩ := len_inv hl1
  obtain ⟨c, t2, rfl, hl3⟩ := len_inv hl2
  obtain ⟨w, t3, rfl, hl4⟩ := len_inv hl3
  obtain ⟨L, t4, rfl, hl5⟩ := len_inv hl4
  obtain ⟨zn, t5, rfl, hl6⟩ := len_inv hl5
  obtain ⟨h, t6, rfl, hl7⟩ := len_inv hl6
  obtain ⟨r, t7, rfl, hl8⟩ := len_inv hl7
  obtain ⟨g, t8, rfl, hl9⟩ := len_inv hl8
  obtain ⟨kd, t9, rfl, hl10⟩ := len_inv hl9
  obtain ⟨pl, t10, rfl, hl11⟩ := len_inv hl10
  obtain ⟨fi, t11, rfl, hl12⟩ := len_inv hl11
  obtain ⟨kw, t12, rfl, hl13⟩ := len_inv hl12
  obtain ⟨va, t13, rfl, hl14⟩ := len_inv hl13
  obtain ⟨wo, t14, rfl, hl15⟩ := len_inv hl14
  have hl := List.eq_nil_of_length_eq_zero hl15
  subst hl
  have p1 := p_get3 (by decide) (fOk_hd hp)
  have p2 := gg_get (fOk_hd (fOk_tl hp))
  have p3 := p_get3 (by decide) (fOk_hd (fOk_tl (fOk_tl hp)))
  have p4 := p_get3 (by decide) (fOk_hd (fOk_tl (fOk_tl (fOk_tl hp))))
  have p5 := p_get3 (by decide) (fOk_hd (fOk_tl (fOk_tl (fOk_tl (fOk_tl hp)))))
  simp only [List.map, xv, fev, fvl, gtI, Int.one_mul, Int.add_zero, Int.zero_add] at p1 p2 p3 p4 p5
  have q := k_s_cl_bad (z := z) (n := n) (c := c) (w := w) (L := L) (zn := zn) (h := h) (r := r) (g := g) (kd := kd) (pl := pl) (fi := fi) (kw := kw) (va := va) (wo := wo) p1 p2 p3 p4 p5
  refine ⟨[], rfl, fOk_cons (p_put3 rfl (by decide) ?_) fOk_nil⟩ <;> simp only [List.map, xv, fev, fvl, gtI, Int.one_mul, Int.add_zero, Int.zero_add, List.append_nil]
  exact q
def r_s_end : eRul := (14, [xP 130 [xv 0, xv 1, ([], 1), xv 2, xv 3, ([], 1), xv 4, xv 5, xv 6, xv 7, xv 8, xv 9, xv 10, xv 11, xv 12, xv 13], (.inl [[(1, 1)]], [xv 8])], 0, [xP 134 [xv 0, xv 1, xv 4, xv 5, xv 6, xv 7, xv 2, ([], 0)]])
theorem r_s_end_ok : ruOk r_s_end := by
  intro ρ hl0 hp
  obtain ⟨z, t0, rfl, hl1⟩ := len_inv hl0
  obtain ⟨n, t1, rfl, hl2⟩ := len_inv hl1
  obtain ⟨c, t2, rfl, hl3⟩ := len_inv hl2
  obtain ⟨w, t3, rfl, hl4⟩ := len_inv hl3
  obtain ⟨zn, t4, rfl, hl5⟩ := len_inv hl4
  obtain ⟨h, t5, rfl, hl6⟩ := len_inv hl5
  obtain ⟨r, t6, rfl, hl7⟩ := len_inv hl6
  obtain ⟨g, t7, rfl, hl8⟩ := len_inv hl7
  obtain ⟨kd, t8, rfl, hl9⟩ := len_inv hl8
  obtain ⟨pl, t9, rfl, hl10⟩ := len_inv hl9
  obtain ⟨fi, t10, rfl, hl11⟩ := len_inv hl10
  obtain ⟨kw, t11, rfl, hl12⟩ := len_inv hl11
  obtain ⟨va, t12, rfl, hl13⟩ := len_inv hl12
  obtain ⟨wo, t13, rfl, hl14⟩ := len_inv hl13
  have hl := List.eq_nil_of_length_eq_zero hl14
  subst hl
  have p1 := p_get3 (by decide) (fOk_hd hp)
  have p2 := i_get (fOk_hd (fOk_tl hp))
  simp only [List.map, xv, fev, fvl, gtI, Int.one_mul, Int.add_zero, Int.zero_add] at p1 p2
  have q := k_s_end (z := z) (n := n) (c := c) (w := w) (zn := zn) (h := h) (r := r) (g := g) (kd := kd) (pl := pl) (fi := fi) (kw := kw) (va := va) (wo := wo) p1 p2
  refine ⟨[], rfl, fOk_cons (p_put3 rfl (by decide) ?_) fOk_nil⟩ <;> simp only [List.map, xv, fev, fvl, gtI, Int.one_mul, Int.add_zero, Int.zero_add, List.append_nil]
  exact q
def r_s_end_bad : eRul := (14, [xP 130 [xv 0, xv 1, ([], 1), xv 2, xv 3, ([], 1), xv 4, xv 5, xv 6, xv 7, xv 8, xv 9, xv 10, xv 11, xv 12, xv 13], xP 85 [xv 8], xP 137 [xv 11, ([], 13)], xP 137 [xv 11, ([], 14)]], 0, [xP 134 [xv 0, xv 1, xv 4, xv 5, xv 6, xv 7, ([(9, -1)], -1), ([], 1)]])
theorem r_s_end_bad_ok : ruOk r_s_end_bad := by
  intro ρ hl0 hp
  obtain ⟨z, t0, rfl, hl1⟩ := len_inv hl0
  obtain ⟨n, t1, rfl, hl2⟩ := len_inv hl1
  obtain ⟨c, t2, rfl, hl3⟩ := len_inv hl2
  obtain ⟨w, t3, rfl, hl4⟩ := len_inv hl3
  obtain ⟨zn, t4, rfl, hl5⟩ := len_inv hl4
  obtain ⟨h, t5, rfl, hl6⟩ := len_inv hl5
  obtain ⟨r, t6, rfl, hl7⟩ := len_inv hl6
  obtain ⟨g, t7, rfl, hl8⟩ := len_inv hl7
  obtain ⟨kd, t8, rfl, hl9⟩ := len_inv hl8
  obtain ⟨pl, t9, rfl, hl10⟩ := len_inv hl9
  obtain ⟨fi, t10, rfl, hl11⟩ := len_inv hl10
  obtain ⟨kw, t11, rfl, hl12⟩ := len_inv hl11
  obtain ⟨va, t12, rfl, hl13⟩ := len_inv hl12
  obtain ⟨wo, t13, rfl, hl14⟩ := len_inv hl13
  have hl := List.eq_nil_of_length_eq_zero hl14
  subst hl
  have p1 := p_get3 (by decide) (fOk_hd hp)
  have p2 := p_get3 (by decide) (fOk_hd (fOk_tl hp))
  have p3 := p_get3 (by decide) (fOk_hd (fOk_tl (fOk_tl hp)))
  have p4 := p_get3 (by decide) (fOk_hd (fOk_tl (fOk_tl (fOk_tl hp))))
  simp only [List.map, xv, fev, fvl, gtI, Int.one_mul, Int.add_zero, Int.zero_add] at p1 p2 p3 p4
  have q := k_s_end_bad (z := z) (n := n) (c := c) (w := w) (zn := zn) (h := h) (r := r) (g := g) (kd := kd) (pl := pl) (fi := fi) (kw := kw) (va := va) (wo := wo) p1 p2 p3 p4
  refine ⟨[], rfl, fOk_cons (p_put3 rfl (by decide) ?_) fOk_nil⟩ <;> simp only [List.map, xv, fev, fvl, gtI, Int.one_mul, Int.add_zero, Int.zero_add, List.append_nil]
  exact q
def r_s_n2 : eRul := (16, [xP 130 [xv 0, xv 1, ([], 2), xv 2, xv 3, xv 4, xv 5, xv 6, xv 7, xv 8, xv 9, xv 10, xv 11, xv 12, xv 13, xv 14], xP 55 [xv 9, xv 12, ([], 1)], xP 61 [xv 5, ([], 0), xv 6, xv 14, xv 15], xG (([(15, -1)], 0))], 0, [xP 133 [xv 0, xv 1, ([], 1), xv 11, xv 2, ([], 0), xv 4, xv 5, xv 6, xv 7, xv 8]])
theorem r_s_n2_ok : ruOk r_s_n2 := by
  intro ρ hl0 hp
  obtain ⟨z, t0, rfl, hl1⟩ := len_inv hl0
  obtain ⟨n, t1, rfl, hl2⟩ := len_inv hl1
  obtain ⟨c, t2, rfl, hl3⟩ := len_inv hl2
  obtain ⟨w, t3, rfl, hl4⟩ := len_inv hl3
  obtain ⟨L, t4, rfl, hl5⟩ := len_inv hl4
  obtain ⟨zn, t5, rfl, hl6⟩ := len_inv hl5
  obtain ⟨h, t6, rfl, hl7⟩ := len_inv hl6
  obtain ⟨r, t7, rfl, hl8⟩ := len_inv hl7
  obtain ⟨g, t8, rfl, hl9⟩ := len_inv hl8
  obtain ⟨kd, t9, rfl, hl10⟩ := len_inv hl9
  obtain ⟨pl, t10, rfl, hl11⟩ := len_inv hl10
  obtain ⟨fi, t11, rfl, hl12⟩ := len_inv hl11
  obtain ⟨kw, t12, rfl, hl13⟩ := len_inv hl12
  obtain ⟨va, t13, rfl, hl14⟩ := len_inv hl13
  obtain ⟨wo, t14, rfl, hl15⟩ := len_inv hl14
  obtain ⟨i, t15, rfl, hl16⟩ := len_inv hl15
  have hl := List.eq_nil_of_length_eq_zero hl16
  subst hl
  have p1 := p_get3 (by decide) (fOk_hd hp)
  have p2 := p_get3 (by decide) (fOk_hd (fOk_tl hp))
  have p3 := p_get3 (by decide) (fOk_hd (fOk_tl (fOk_tl hp)))
  have p4 := gg_get (fOk_hd (fOk_tl (fOk_tl (fOk_tl hp))))
  simp only [List.map, xv, fev, fvl, gtI, Int.one_mul, Int.add_zero, Int.zero_add] at p1 p2 p3 p4
  have q := k_s_n2 (z := z) (n := n) (c := c) (w := w) (L := L) (zn := zn) (h := h) (r := r) (g := g) (kd := kd) (pl := pl) (fi := fi) (kw := kw) (va := va) (wo := wo) (i := i) p1 p2 p3 p4
  refine ⟨[], rfl, fOk_cons (p_put3 rfl (by decide) ?_) fOk_nil⟩ <;> simp only [List.map, xv, fev, fvl, gtI, Int.one_mul, Int.add_zero, Int.zero_add, List.append_nil]
  exact q
def r_s_n2_1 : eRul := (15, [xP 130 [xv 0, xv 1, ([], 2), xv 2, xv 3, xv 4, xv 5, xv 6, xv 7, xv 8, xv 9, xv 10, xv 11, xv 12, xv 13, xv 14], xP 55 [xv 9, xv 12, ([], 0)]], 0, [xP 134 [xv 0, xv 1, xv 5, xv 6, xv 7, xv 8, ([(10, -1)], -1), ([], 1)]])
theorem r_s_n2_1_ok : ruOk r_s_n2_1 := by
  intro ρ hl0 hp
  obtain ⟨z, t0, rfl, hl1⟩ := len_inv hl0
  obtain ⟨n, t1, rfl, hl2⟩ := len_inv hl1
  obtain ⟨c, t2, rfl, hl3⟩ := len_inv hl2
  obtain ⟨w, t3, rfl, hl4⟩ := len_inv hl3
  obtain ⟨L, t4, rfl, hl5⟩ := len_inv hl4
  obtain ⟨zn, t5, rfl, hl6⟩ := len_inv hl5
  obtain ⟨h, t6, rfl, hl7⟩ := len_inv hl6
  obtain ⟨r, t7, rfl, hl8⟩ := len_inv hl7
  obtain ⟨g, t8, rfl, hl9⟩ := len_inv hl8
  obtain ⟨kd, t9, rfl, hl10⟩ := len_inv hl9
  obtain ⟨pl, t10, rfl, hl11⟩ := len_inv hl10
  obtain ⟨fi, t11, rfl, hl12⟩ := len_inv hl11
  obtain ⟨kw, t12, rfl, hl13⟩ := len_inv hl12
  obtain ⟨va, t13, rfl, hl14⟩ := len_inv hl13
  obtain ⟨wo, t14, rfl, hl15⟩ := len_inv hl14
  have hl := List.eq_nil_of_length_eq_zero hl15
  subst hl
  have p1 := p_get3 (by decide) (fOk_hd hp)
  have p2 := p_get3 (by decide) (fOk_hd (fOk_tl hp))
  simp only [List.map, xv, fev, fvl, gtI, Int.one_mul, Int.add_zero, Int.zero_add] at p1 p2
  have q := k_s_n2_1 (z := z) (n := n) (c := c) (w := w) (L := L) (zn := zn) (h := h) (r := r) (g := g) (kd := kd) (pl := pl) (fi := fi) (kw := kw) (va := va) (wo := wo) p1 p2
  refine ⟨[], rfl, fOk_cons (p_put3 rfl (by decide) ?_) fOk_nil⟩ <;> simp only [List.map, xv, fev, fvl, gtI, Int.one_mul, Int.add_zero, Int.zero_add, List.append_nil]
  exact q
def r_s_n2_3 : eRul := (15, [xP 130 [xv 0, xv 1, ([], 2), xv 2, xv 3, xv 4, xv 5, xv 6, xv 7, xv 8, xv 9, xv 10, xv 11, xv 12, xv 13, xv 14], xP 55 [xv 9, xv 12, ([], 1)], xP 61 [xv 5, ([], 0), xv 6, xv 14, ([], -1)]], 0, [xP 134 [xv 0, xv 1, xv 5, xv 6, xv 7, xv 8, ([(10, -1)], -1), ([], 3)]])
theorem r_s_n2_3_ok : ruOk r_s_n2_3 := by
  intro ρ hl0 hp
  obtain ⟨z, t0, rfl, hl1⟩ := len_inv hl0
  obtain ⟨n, t1, rfl, hl2⟩ := len_inv hl1
  obtain ⟨c, t2, rfl, hl3⟩ := len_inv hl2
  obtain ⟨w, t3, rfl, hl4⟩ := len_inv hl3
  obtain ⟨L, t4, rfl, hl5⟩ := len_inv hl4
  obtain ⟨zn, t5, rfl, hl6⟩ := len_inv hl5
  obtain ⟨h, t6, rfl, hl7⟩ := len_inv hl6
  obtain ⟨r, t7, rfl, hl8⟩ := len_inv hl7
  obtain ⟨g, t8, rfl, hl9⟩ := len_inv hl8
  obtain ⟨kd, t9, rfl, hl10⟩ := len_inv hl9
  obtain ⟨pl, t10, rfl, hl11⟩ := len_inv hl10
  obtain ⟨fi, t11, rfl, hl12⟩ := len_inv hl11
  obtain ⟨kw, t12, rfl, hl13⟩ := len_inv hl12
  obtain ⟨va, t13, rfl, hl14⟩ := len_inv hl13
  obtain ⟨wo, t14, rfl, hl15⟩ := len_inv hl14
  have hl := List.eq_nil_of_length_eq_zero hl15
  subst hl
  have p1 := p_get3 (by decide) (fOk_hd hp)
  have p2 := p_get3 (by decide) (fOk_hd (fOk_tl hp))
  have p3 := p_get3 (by decide) (fOk_hd (fOk_tl (fOk_tl hp)))
  simp only [List.map, xv, fev, fvl, gtI, Int.one_mul, Int.add_zero, Int.zero_add] at p1 p2 p3
  have q := k_s_n2_3 (z := z) (n := n) (c := c) (w := w) (L := L) (zn := zn) (h := h) (r := r) (g := g) (kd := kd) (pl := pl) (fi := fi) (kw := kw) (va := va) (wo := wo) p1 p2 p3
  refine ⟨[], rfl, fOk_cons (p_put3 rfl (by decide) ?_) fOk_nil⟩ <;> simp only [List.map, xv, fev, fvl, gtI, Int.one_mul, Int.add_zero, Int.zero_add, List.append_nil]
  exact q
def r_s_n3 : eRul := (16, [xP 130 [xv 0, xv 1, ([], 3), xv 2, xv 3, xv 4, xv 5, xv 6, xv 7, xv 8, xv 9, xv 10, xv 11, xv 12, xv 13, xv 14], xP 55 [xv 9, xv 12, ([], 1)], xP 61 [xv 5, ([], 13), xv 8, xv 14, xv 15], xG (([(15, -1)], 0))], 0, [xP 133 [xv 0, xv 1, ([], 1), xv 11, xv 2, ([], 0), xv 4, xv 5, xv 6, xv 7, xv 8]])
theorem r_s_n3_ok : ruOk r_s_n3 := by
  intro ρ hl0 hp
  obtain ⟨z, t0, rfl, hl1⟩ := len_inv hl0
  obtain ⟨n, t1, rfl, hl2⟩ := len_inv hl1
  obtain ⟨c, t2, rfl, hl3⟩ := len_inv hl2
  obtain ⟨w, t3, rfl, hl4⟩ := len_inv hl3
  obtain ⟨L, t4, rfl, hl5⟩ := len_inv hl4
  obtain ⟨zn, t5, rfl, hl6⟩ := len_inv hl5
  obtain ⟨h, t6, rfl, hl7⟩ := len_inv hl6
  obtain ⟨r, t7, rfl, hl8⟩ := len_inv hl7
  obtain ⟨g, t8, rfl, hl9⟩ := len_inv hl8
  obtain ⟨kd, t9, rfl, hl10⟩ := len_inv hl9
  obtain ⟨pl, t10, rfl, hl11⟩ := len_inv hl10
  obtain ⟨fi, t11, rfl, hl12⟩ := len_inv hl11
  obtain ⟨kw, t12, rfl, hl13⟩ := len_inv hl12
  obtain ⟨va, t13, rfl, hl14⟩ := len_inv hl13
  obtain ⟨wo, t14, rfl, hl15⟩ := len_inv hl14
  obtain ⟨i, t15, rfl, hl16⟩ := len_inv hl15
  have hl := List.eq_nil_of_length_eq_zero hl16
  subst hl
  have p1 := p_get3 (by decide) (fOk_hd hp)
  have p2 := p_get3 (by decide) (fOk_hd (fOk_tl hp))
  have p3 := p_get3 (by decide) (fOk_hd (fOk_tl (fOk_tl hp)))
  have p4 := gg_get (fOk_hd (fOk_tl (fOk_tl (fOk_tl hp))))
  simp only [List.map, xv, fev, fvl, gtI, Int.one_mul, Int.add_zero, Int.zero_add] at p1 p2 p3 p4
  have q := k_s_n3 (z := z) (n := n) (c := c) (w := w) (L := L) (zn := zn) (h := h) (r := r) (g := g) (kd := kd) (pl := pl) (fi := fi) (kw := kw) (va := va) (wo := wo) (i := i) p1 p2 p3 p4
  refine ⟨[], rfl, fOk_cons (p_put3 rfl (by decide) ?_) fOk_nil⟩ <;> simp only [List.map, xv, fev, fvl, gtI, Int.one_mul, Int.add_zero, Int.zero_add, List.append_nil]
  exact q
def r_s_n3_1 : eRul := (15, [xP 130 [xv 0, xv 1, ([], 3), xv 2, xv 3, xv 4, xv 5, xv 6, xv 7, xv 8, xv 9, xv 10, xv 11, xv 12, xv 13, xv 14], xP 55 [xv 9, xv 12, ([], 0)]], 0, [xP 134 [xv 0, xv 1, xv 5, xv 6, xv 7, xv 8, ([(10, -1)], -1), ([], 1)]])
theorem r_s_n3_1_ok : ruOk r_s_n3_1 := by
  intro ρ hl0 hp
  obtain ⟨z, t0, rfl, hl1⟩ := len_inv hl0
  obtain ⟨n, t1, rfl, hl2⟩ := len_inv hl1
  obtain ⟨c, t2, rfl, hl3⟩ := len_inv hl2
  obtain ⟨w, t3, rfl, hl4⟩ := len_inv hl3
  obtain ⟨L, t4, rfl, hl5⟩ := len_inv hl4
  obtain ⟨zn, t5, rfl, hl6⟩ := len_inv hl5
  obtain ⟨h, t6, rfl, hl7⟩ := len_inv hl6
  obtain ⟨r, t7, rfl, hl8⟩ := len_inv hl7
  obtain ⟨g, t8, rfl, hl9⟩ := len_inv hl8
  obtain ⟨kd, t9, rfl, hl10⟩ := len_inv hl9
  obtain ⟨pl, t10, rfl, hl11⟩ := len_inv hl10
  obtain ⟨fi, t11, rfl, hl12⟩ := len_inv hl11
  obtain ⟨kw, t12, rfl, hl13⟩ := len_inv hl12
  obtain ⟨va, t13, rfl, hl14⟩ := len_inv hl13
  obtain ⟨wo, t14, rfl, hl15⟩ := len_inv hl14
  have hl := List.eq_nil_of_length_eq_zero hl15
  subst hl
  have p1 := p_get3 (by decide) (fOk_hd hp)
  have p2 := p_get3 (by decide) (fOk_hd (fOk_tl hp))
  simp only [List.map, xv, fev, fvl, gtI, Int.one_mul, Int.add_zero, Int.zero_add] at p1 p2
  have q := k_s_n3_1 (z := z) (n := n) (c := c) (w := w) (L := L) (zn := zn) (h := h) (r := r) (g := g) (kd := kd) (pl := pl) (fi := fi) (kw := kw) (va := va) (wo := wo) p1 p2
  refine ⟨[], rfl, fOk_cons (p_put3 rfl (by decide) ?_) fOk_nil⟩ <;> simp only [List.map, xv, fev, fvl, gtI, Int.one_mul, Int.add_zero, Int.zero_add, List.append_nil]
  exact q
def r_s_n3_3 : eRul := (15, [xP 130 [xv 0, xv 1, ([], 3), xv 2, xv 3, xv 4, xv 5, xv 6, xv 7, xv 8, xv 9, xv 10, xv 11, xv 12, xv 13, xv 14], xP 55 [xv 9, xv 12, ([], 1)], xP 61 [xv 5, ([], 13), xv 8, xv 14, ([], -1)]], 0, [xP 134 [xv 0, xv 1, xv 5, xv 6, xv 7, xv 8, ([(10, -1)], -1), ([], 3)]])
theorem r_s_n3_3_ok : ruOk r_s_n3_3 := by
  intro ρ hl0 hp
  obtain ⟨z, t0, rfl, hl1⟩ := len_inv hl0
  obtain ⟨n, t1, rfl, hl2⟩ := len_inv hl1
  obtain ⟨c, t2, rfl, hl3⟩ := len_inv hl2
  obtain ⟨w, t3, rfl, hl4⟩ := len_inv hl3
  obtain ⟨L, t4, rfl, hl5⟩ := len_inv hl4
  obtain ⟨zn, t5, rfl, hl6⟩ := len_inv hl5
  obtain ⟨h, t6, rfl, hl7⟩ := len_inv hl6
  obtain ⟨r, t7, rfl, hl8⟩ := len_inv hl7
  obtain ⟨g, t8, rfl, hl9⟩ := len_inv hl8
  obtain ⟨kd, t9, rfl, hl10⟩ := len_inv hl9
  obtain ⟨pl, t10, rfl, hl11⟩ := len_inv hl10
  obtain ⟨fi, t11, rfl, hl12⟩ := len_inv hl11
  obtain ⟨kw, t12, rfl, hl13⟩ := len_inv hl12
  obtain ⟨va, t13, rfl, hl14⟩ := len_inv hl13
  obtain ⟨wo, t14, rfl, hl15⟩ := len_inv hl14
  have hl := List.eq_nil_of_length_eq_zero hl15
  subst hl
  have p1 := p_get3 (by decide) (fOk_hd hp)
  have p2 := p_get3 (by decide) (fOk_hd (fOk_tl hp))
  have p3 := p_get3 (by decide) (fOk_hd (fOk_tl (fOk_tl hp)))
  simp only [List.map, xv, fev, fvl, gtI, Int.one_mul, Int.add_zero, Int.zero_add] at p1 p2 p3
  have q := k_s_n3_3 (z := z) (n := n) (c := c) (w := w) (L := L) (zn := zn) (h := h) (r := r) (g := g) (kd := kd) (pl := pl) (fi := fi) (kw := kw) (va := va) (wo := wo) p1 p2 p3
  refine ⟨[], rfl, fOk_cons (p_put3 rfl (by decide) ?_) fOk_nil⟩ <;> simp only [List.map, xv, fev, fvl, gtI, Int.one_mul, Int.add_zero, Int.zero_add, List.append_nil]
  exact q
def r_s_sg : eRul := (16, [xP 130 [xv 0, xv 1, ([], 4), xv 2, xv 3, xv 4, xv 5, xv 6, xv 7, xv 8, xv 9, xv 10, xv 11, xv 12, xv 13, xv 14], xP 56 [xv 9, xv 13, xv 15, ([], 1)], (.inl [[(60, 62)]], [xv 15])], 0, [xP 133 [xv 0, xv 1, ([], 5), xv 11, xv 2, ([], 0), xv 4, xv 5, xv 6, xv 7, xv 8]])
theorem r_s_sg_ok : ruOk r_s_sg := by
  intro ρ hl0 hp
  obtain ⟨z, t0, rfl, hl1⟩ := len_inv hl0
  obtain ⟨n, t1, rfl, hl2⟩ := len_inv hl1
  obtain ⟨c, t2, rfl, hl3⟩ := len_inv hl2
  obtain ⟨w, t3, rfl, hl4⟩ := len_inv hl3
  obtain ⟨L, t4, rfl, hl5⟩ := len_inv hl4
  obtain ⟨zn, t5, rfl, hl6⟩ := len_inv hl5
  obtain ⟨h, t6, rfl, hl7⟩ := len_inv hl6
  obtain ⟨r, t7, rfl, hl8⟩ := len_inv hl7
  obtain ⟨g, t8, rfl, hl9⟩ := len_inv hl8
  obtain ⟨kd, t9, rfl, hl10⟩ := len_inv hl9
  obtain ⟨pl, t10, rfl, hl11⟩ := len_inv hl10
  obtain ⟨fi, t11, rfl, hl12⟩ := len_inv hl11
  obtain ⟨kw, t12, rfl, hl13⟩ := len_inv hl12
  obtain ⟨va, t13, rfl, hl14⟩ := len_inv hl13
  obtain ⟨wo, t14, rfl, hl15⟩ := len_inv hl14
  obtain ⟨x, t15, rfl, hl16⟩ := len_inv hl15
  have hl := List.eq_nil_of_length_eq_zero hl16
  subst hl
  have p1 := p_get3 (by decide) (fOk_hd hp)
  have p2 := p_get3 (by decide) (fOk_hd (fOk_tl hp))
  have p3 := i_get (fOk_hd (fOk_tl (fOk_tl hp)))
  simp only [List.map, xv, fev, fvl, gtI, Int.one_mul, Int.add_zero, Int.zero_add] at p1 p2 p3
  have q := k_s_sg (z := z) (n := n) (c := c) (w := w) (L := L) (zn := zn) (h := h) (r := r) (g := g) (kd := kd) (pl := pl) (fi := fi) (kw := kw) (va := va) (wo := wo) (x := x) p1 p2 p3
  refine ⟨[], rfl, fOk_cons (p_put3 rfl (by decide) ?_) fOk_nil⟩ <;> simp only [List.map, xv, fev, fvl, gtI, Int.one_mul, Int.add_zero, Int.zero_add, List.append_nil]
  exact q
def r_s_sg_bad : eRul := (15, [xP 130 [xv 0, xv 1, ([], 4), xv 2, xv 3, xv 4, xv 5, xv 6, xv 7, xv 8, xv 9, xv 10, xv 11, xv 12, xv 13, xv 14], xP 56 [xv 9, xv 13, ([], 60), ([], 0)], xP 56 [xv 9, xv 13, ([], 61), ([], 0)], xP 56 [xv 9, xv 13, ([], 62), ([], 0)]], 0, [xP 134 [xv 0, xv 1, xv 5, xv 6, xv 7, xv 8, ([(10, -1)], -1), ([], 1)]])
theorem r_s_sg_bad_ok : ruOk r_s_sg_bad := by
  intro ρ hl0 hp
  obtain ⟨z, t0, rfl, hl1⟩ := len_inv hl0
  obtain ⟨n, t1, rfl, hl2⟩ := len_inv hl1
  obtain ⟨c, t2, rfl, hl3⟩ := len_inv hl2
  obtain ⟨w, t3, rfl, hl4⟩ := len_inv hl3
  obtain ⟨L, t4, rfl, hl5⟩ := len_inv hl4
  obtain ⟨zn, t5, rfl, hl6⟩ := len_inv hl5
  obtain ⟨h, t6, rfl, hl7⟩ := len_inv hl6
  obtain ⟨r, t7, rfl, hl8⟩ := len_inv hl7
  obtain ⟨g, t8, rfl, hl9⟩ := len_inv hl8
  obtain ⟨kd, t9, rfl, hl10⟩ := len_inv hl9
  obtain ⟨pl, t10, rfl, hl11⟩ := len_inv hl10
  obtain ⟨fi, t11, rfl, hl12⟩ := len_inv hl11
  obtain ⟨kw, t12, rfl, hl13⟩ := len_inv hl12
  obtain ⟨va, t13, rfl, hl14⟩ := len_inv hl13
  obtain ⟨wo, t14, rfl, hl15⟩ := len_inv hl14
  have hl := List.eq_nil_of_length_eq_zero hl15
  subst hl
  have p1 := p_get3 (by decide) (fOk_hd hp)
  have p2 := p_get3 (by decide) (fOk_hd (fOk_tl hp))
  have p3 := p_get3 (by decide) (fOk_hd (fOk_tl (fOk_tl hp)))
  have p4 := p_get3 (by decide) (fOk_hd (fOk_tl (fOk_tl (fOk_tl hp))))
  simp only [List.map, xv, fev, fvl, gtI, Int.one_mul, Int.add_zero, Int.zero_add] at p1 p2 p3 p4
  have q := k_s_sg_bad (z := z) (n := n) (c := c) (w := w) (L := L) (zn := zn) (h := h) (r := r) (g := g) (kd := kd) (pl := pl) (fi := fi) (kw := kw) (va := va) (wo := wo) p1 p2 p3 p4
  refine ⟨[], rfl, fOk_cons (p_put3 rfl (by decide) ?_) fOk_nil⟩ <;> simp only [List.map, xv, fev, fvl, gtI, Int.one_mul, Int.add_zero, Int.zero_add, List.append_nil]
  exact q
def r_s_nu : eRul := (15, [xP 130 [xv 0, xv 1, ([], 5), xv 2, xv 3, xv 4, xv 5, xv 6, xv 7, xv 8, xv 9, xv 10, xv 11, xv 12, xv 13, xv 14], (.inl [[(3, 3)]], [xv 9])], 0, [xP 133 [xv 0, xv 1, ([], 1), xv 11, xv 2, ([], 0), xv 4, xv 5, xv 6, xv 7, xv 8]])
theorem r_s_nu_ok : ruOk r_s_nu := by
  intro ρ hl0 hp
  obtain ⟨z, t0, rfl, hl1⟩ := len_inv hl0
  obtain ⟨n, t1, rfl, hl2⟩ := len_inv hl1
  obtain ⟨c, t2, rfl, hl3⟩ := len_inv hl2
  obtain ⟨w, t3, rfl, hl4⟩ := len_inv hl3
  obtain ⟨L, t4, rfl, hl5⟩ := len_inv hl4
  obtain ⟨zn, t5, rfl, hl6⟩ := len_inv hl5
  obtain ⟨h, t6, rfl, hl7⟩ := len_inv hl6
  obtain ⟨r, t7, rfl, hl8⟩ := len_inv hl7
  obtain ⟨g, t8, rfl, hl9⟩ := len_inv hl8
  obtain ⟨kd, t9, rfl, hl10⟩ := len_inv hl9
  obtain ⟨pl, t10, rfl, hl11⟩ := len_inv hl10
  obtain ⟨fi, t11, rfl, hl12⟩ := len_inv hl11
  obtain ⟨kw, t12, rfl, hl13⟩ := len_inv hl12
  obtain ⟨va, t13, rfl, hl14⟩ := len_inv hl13
  obtain ⟨wo, t14, rfl, hl15⟩ := len_inv hl14
  have hl := List.eq_nil_of_length_eq_zero hl15
  subst hl
  have p1 := p_get3 (by decide) (fOk_hd hp)
  have p2 := i_get (fOk_hd (fOk_tl hp))
  simp only [List.map, xv, fev, fvl, gtI, Int.one_mul, Int.add_zero, Int.zero_add] at p1 p2
  have q := k_s_nu (z := z) (n := n) (c := c) (w := w) (L := L) (zn := zn) (h := h) (r := r) (g := g) (kd := kd) (pl := pl) (fi := fi) (kw := kw) (va := va) (wo := wo) p1 p2
  refine ⟨[], rfl, fOk_cons (p_put3 rfl (by decide) ?_) fOk_nil⟩ <;> simp only [List.map, xv, fev, fvl, gtI, Int.one_mul, Int.add_zero, Int.zero_add, List.append_nil]
  exact q
def r_s_nu_bad : eRul := (15, [xP 130 [xv 0, xv 1, ([], 5), xv 2, xv 3, xv 4, xv 5, xv 6, xv 7, xv 8, xv 9, xv 10, xv 11, xv 12, xv 13, xv 14], xP 57 [xv 9]], 0, [xP 134 [xv 0, xv 1, xv 5, xv 6, xv 7, xv 8, ([(10, -1)], -1), ([], 1)]])
theorem r_s_nu_bad_ok : ruOk r_s_nu_bad := by
  intro ρ hl0 hp
  obtain ⟨z, t0, rfl, hl1⟩ := len_inv hl0
  obtain ⟨n, t1, rfl, hl2⟩ := len_inv hl1
  obtain ⟨c, t2, rfl, hl3⟩ := len_inv hl2
  obtain ⟨w, t3, rfl, hl4⟩ := len_inv hl3
  obtain ⟨L, t4, rfl, hl5⟩ := len_inv hl4
  obtain ⟨zn, t5, rfl, hl6⟩ := len_inv hl5
  obtain ⟨h, t6, rfl, hl7⟩ := len_inv hl6
  obtain ⟨r, t7, rfl, hl8⟩ := len_inv hl7
  obtain ⟨g, t8, rfl, hl9⟩ := len_inv hl8
  obtain ⟨kd, t9, rfl, hl10⟩ := len_inv hl9
  obtain ⟨pl, t10, rfl, hl11⟩ := len_inv hl10
  obtain ⟨fi, t11, rfl, hl12⟩ := len_inv hl11
  obtain ⟨kw, t12, rfl, hl13⟩ := len_inv hl12
  obtain ⟨va, t13, rfl, hl14⟩ := len_inv hl13
  obtain ⟨wo, t14, rfl, hl15⟩ := len_inv hl14
  have hl := List.eq_nil_of_length_eq_zero hl15
  subst hl
  have p1 := p_get3 (by decide) (fOk_hd hp)
  have p2 := p_get3 (by decide) (fOk_hd (fOk_tl hp))
  simp only [List.map, xv, fev, fvl, gtI, Int.one_mul, Int.add_zero, Int.zero_add] at p1 p2
  have q := k_s_nu_bad (z := z) (n := n) (c := c) (w := w) (L := L) (zn := zn) (h := h) (r := r) (g := g) (kd := kd) (pl := pl) (fi := fi) (kw := kw) (va := va) (wo := wo) p1 p2
  refine ⟨[], rfl, fOk_cons (p_put3 rfl (by decide) ?_) fOk_nil⟩ <;> simp only [List.map, xv, fev, fvl, gtI, Int.one_mul, Int.add_zero, Int.zero_add, List.append_nil]
  exact q
def r_t_init : eRul := (4, [xG (([(0, -1)], 0))], 0, [xP 132 [xv 1, xv 0, ([], 0), ([], 0), ([], 0), ([], 1), ([], 1), xv 2, xv 3]])
theorem r_t_init_ok : ruOk r_t_init := by
  intro ρ hl0 hp
  obtain ⟨n, t0, rfl, hl1⟩ := len_inv hl0
  obtain ⟨z, t1, rfl, hl2⟩ := len_inv hl1
  obtain ⟨zm, t2, rfl, hl3⟩ := len_inv hl2
  obtain ⟨zr, t3, rfl, hl4⟩ := len_inv hl3
  have hl := List.eq_nil_of_length_eq_zero hl4
  subst hl
  have p1 := gg_get (fOk_hd hp)
  simp only [List.map, xv, fev, fvl, gtI, Int.one_mul, Int.add_zero, Int.zero_add] at p1
  have q := k_t_init (n := n) (z := z) (zm := zm) (zr := zr) p1
  refine ⟨[], rfl, fOk_cons (p_put3 rfl (by decide) ?_) fOk_nil⟩ <;> simp only [List.map, xv, fev, fvl, gtI, Int.one_mul, Int.add_zero, Int.zero_add, List.append_nil]
  exact q
def r_t_tok : eRul := (15, [xP 132 [xv 0, xv 1, xv 2, xv 3, xv 4, xv 5, xv 6, xv 7, xv 8], xP 54 [xv 0, xv 1, ([], 200), xv 3, xv 9, xv 10, xv 11, xv 12, xv 13, xv 14]], 0, [xP 131 [xv 0, xv 1, xv 2, xv 4, xv 5, xv 6, xv 7, xv 8, xv 9, xv 10, xv 11, xv 12, xv 13, xv 14]])
theorem r_t_tok_ok : ruOk r_t_tok := by
  intro ρ hl0 hp
  obtain ⟨z, t0, rfl, hl1⟩ := len_inv hl0
  obtain ⟨n, t1, rfl, hl2⟩ := len_inv hl1
  obtain ⟨q, t2, rfl, hl3⟩ := len_inv hl2
  obtain ⟨p, t3, rfl, hl4⟩ := len_inv hl3
  obtain ⟨c, t4, rfl, hl5⟩ := len_inv hl4
  obtain ⟨w, t5, rfl, hl6⟩ := len_inv hl5
  obtain ⟨L, t6, rfl, hl7⟩ := len_inv hl6
  obtain ⟨zm, t7, rfl, hl8⟩ := len_inv hl7
  obtain ⟨zr, t8, rfl, hl9⟩ := len_inv hl8
  obtain ⟨kd, t9, rfl, hl10⟩ := len_inv hl9
  obtain ⟨fr, t10, rfl, hl11⟩ := len_inv hl10
  obtain ⟨to, t11, rfl, hl12⟩ := len_inv hl11
  obtain ⟨nu, t12, rfl, hl13⟩ := len_inv hl12
  obtain ⟨sg, t13, rfl, hl14⟩ := len_inv hl13
  obtain ⟨wo, t14, rfl, hl15⟩ := len_inv hl14
  have hl := List.eq_nil_of_length_eq_zero hl15
  subst hl
  have p1 := p_get3 (by decide) (fOk_hd hp)
  have p2 := p_get3 (by decide) (fOk_hd (fOk_tl hp))
  simp only [List.map, xv, fev, fvl, gtI, Int.one_mul, Int.add_zero, Int.zero_add] at p1 p2
  have q := k_t_tok (z := z) (n := n) (q := q) (p := p) (c := c) (w := w) (L := L) (zm := zm) (zr := zr) (kd := kd) (fr := fr) (to := to) (nu := nu) (sg := sg) (wo := wo) p1 p2
  refine ⟨[], rfl, fOk_cons (p_put3 rfl (by decide) ?_) fOk_nil⟩ <;> simp only [List.map, xv, fev, fvl, gtI, Int.one_mul, Int.add_zero, Int.zero_add, List.append_nil]
  exact q
def r_t_br : eRul := (13, [xP 131 [xv 0, xv 1, ([], 0), xv 2, xv 3, xv 4, xv 5, xv 6, xv 7, xv 8, xv 9, xv 10, xv 11, xv 12], xP 56 [xv 7, xv 11, ([], 40), ([], 1)], xG (([(2, 1)], -19)), xG (([(3, 1)], -8))], 0, [xP 132 [xv 0, xv 1, ([], 0), xv 9, ([(2, 1)], 1), ([(3, 1)], 1), ([(3, 1), (4, 16)], 1), xv 5, xv 6]])
theorem r_t_br_ok : ruOk r_t_br := by
  intro ρ hl0 hp
  obtain ⟨z, t0, rfl, hl1⟩ := len_inv hl0
  obtain ⟨n, t1, rfl, hl2⟩ := len_inv hl1
  obtain ⟨c, t2, rfl, hl3⟩ := len_inv hl2
  obtain ⟨w, t3, rfl, hl4⟩ := len_inv hl3
  obtain ⟨L, t4, rfl, hl5⟩ := len_inv hl4
  obtain ⟨zm, t5, rfl, hl6⟩ := len_inv hl5
  obtain ⟨zr, t6, rfl, hl7⟩ := len_inv hl6
  obtain ⟨kd, t7, rfl, hl8⟩ := len_inv hl7
  obtain ⟨fr, t8, rfl, hl9⟩ := len_inv hl8
  obtain ⟨to, t9, rfl, hl10⟩ := len_inv hl9
  obtain ⟨nu, t10, rfl, hl11⟩ := len_inv hl10
  obtain ⟨sg, t11, rfl, hl12⟩ := len_inv hl11
  obtain ⟨wo, t12, rfl, hl13⟩ := len_inv hl12
  have hl := List.eq_nil_of_length_eq_zero hl13
  subst hl
  have p1 := p_get3 (by decide) (fOk_hd hp)
  have p2 := p_get3 (by decide) (fOk_hd (fOk_tl hp))
  have p3 := gg_get (fOk_hd (fOk_tl (fOk_tl hp)))
  have p4 := gg_get (fOk_hd (fOk_tl (fOk_tl (fOk_tl hp))))
  simp only [List.map, xv, fev, fvl, gtI, Int.one_mul, Int.add_zero, Int.zero_add] at p1 p2 p3 p4
  have q := k_t_br (z := z) (n := n) (c := c) (w := w) (L := L) (zm := zm) (zr := zr) (kd := kd) (fr := fr) (to := to) (nu := nu) (sg := sg) (wo := wo) p1 p2 p3 p4
  refine ⟨[], rfl, fOk_cons (p_put3 rfl (by decide) ?_) fOk_nil⟩ <;> simp only [List.map, xv, fev, fvl, gtI, Int.one_mul, Int.add_zero, Int.zero_add, List.append_nil]
  exact q
def r_t_not : eRul := (14, [xP 131 [xv 0, xv 1, ([], 0), xv 2, xv 3, xv 4, xv 5, xv 6, xv 7, xv 8, xv 9, xv 10, xv 11, xv 12], xP 76 [xv 7, xv 12, xv 13, ([], 1)], (.inl [[(15, 15)]], [xv 13]), xG (([(2, 1)], -19)), xG (([(3, 1)], -8))], 0, [xP 132 [xv 0, xv 1, ([], 0), xv 9, ([(2, 1)], 1), ([(3, 1)], 1), xv 4, xv 5, xv 6]])
theorem r_t_not_ok : ruOk r_t_not := by
  intro ρ hl0 hp
  obtain ⟨z, t0, rfl, hl1⟩ := len_inv hl0
  obtain ⟨n, t1, rfl, hl2⟩ := len_inv hl1
  obtain ⟨c, t2, rfl, hl3⟩ := len_inv hl2
  obtain ⟨w, t3, rfl, hl4⟩ := len_inv hl3
  obtain ⟨L, t4, rfl, hl5⟩ := len_inv hl4
  obtain ⟨zm, t5, rfl, hl6⟩ := len_inv hl5
  obtain ⟨zr, t6, rfl, hl7⟩ := len_inv hl6
  obtain ⟨kd, t7, rfl, hl8⟩ := len_inv hl7
  obtain ⟨fr, t8, rfl, hl9⟩ := len_inv hl8
  obtain ⟨to, t9, rfl, hl10⟩ := len_inv hl9
  obtain ⟨nu, t10, rfl, hl11⟩ := len_inv hl10
  obtain ⟨sg, t11, rfl, hl12⟩ := len_inv hl11
  obtain ⟨wo, t12, rfl, hl13⟩ := len_inv hl12
  obtain ⟨k, t13, rfl, hl14⟩ := len_inv hl13
  have hl := List.eq_nil_of_length_eq_zero hl14
  subst hl
  have p1 := p_get3 (by decide) (fOk_hd hp)
  have p2 := p_get3 (by decide) (fOk_hd (fOk_tl hp))
  have p3 := i_get (fOk_hd (fOk_tl (fOk_tl hp)))
  have p4 := gg_get (fOk_hd (fOk_tl (fOk_tl (fOk_tl hp))))
  have p5 := gg_get (fOk_hd (fOk_tl (fOk_tl (fOk_tl (fOk_tl hp)))))
  simp only [List.map, xv, fev, fvl, gtI, Int.one_mul, Int.add_zero, Int.zero_add] at p1 p2 p3 p4 p5
  have q := k_t_not (z := z) (n := n) (c := c) (w := w) (L := L) (zm := zm) (zr := zr) (kd := kd) (fr := fr) (to := to) (nu := nu) (sg := sg) (wo := wo) (k := k) p1 p2 p3 p4 p5
  refine ⟨[], rfl, fOk_cons (p_put3 rfl (by decide) ?_) fOk_nil⟩ <;> simp only [List.map, xv, fev, fvl, gtI, Int.one_mul, Int.add_zero, Int.zero_add, List.append_nil]
  exact q
def r_t_pl : eRul := (14, [xP 131 [xv 0, xv 1, ([], 0), xv 2, xv 3, xv 4, xv 5, xv 6, xv 7, xv 8, xv 9, xv 10, xv 11, xv 12], xP 76 [xv 7, xv 12, xv 13, ([], 1)], (.inl [[(16, 17)]], [xv 13]), xG (([(2, 1)], -19)), xG (([(3, 1)], -8))], 0, [xP 132 [xv 0, xv 1, ([], 1), xv 9, ([(2, 1)], 1), ([], 0), xv 4, xv 5, xv 6]])
theorem r_t_pl_ok : ruOk r_t_pl := by
  intro ρ hl0 hp
  obtain ⟨z, t0, rfl, hl1⟩ := len_inv hl0
  obtain ⟨n, t1, rfl, hl2⟩ := len_inv hl1
  obtain ⟨c, t2, rfl, hl3⟩ := len_inv hl2
  obtain ⟨w, t3, rfl, hl4⟩ := len_inv hl3
  obtain ⟨L, t4, rfl, hl5⟩ := len_inv hl4
  obtain ⟨zm, t5, rfl, hl6⟩ := len_inv hl5
  obtain ⟨zr, t6, rfl, hl7⟩ := len_inv hl6
  obtain ⟨kd, t7, rfl, hl8⟩ := len_inv hl7
  obtain ⟨fr, t8, rfl, hl9⟩ := len_inv hl8
  obtain ⟨to, t9, rfl, hl10⟩ := len_inv hl9
  obtain ⟨nu, t10, rfl, hl11⟩ := len_inv hl10
  obtain ⟨sg, t11, rfl, hl12⟩ := len_inv hl11
  obtain ⟨wo, t12, rfl, hl13⟩ := len_inv hl12
  obtain ⟨k, t13, rfl, hl14⟩ := len_inv hl13
  have hl := List.eq_nil_of_length_eq_zero hl14
  subst hl
  have p1 := p_get3 (by decide) (fOk_hd hp)
  have p2 := p_get3 (by decide) (fOk_hd (fOk_tl hp))
  have p3 := i_get (fOk_hd (fOk_tl (fOk_tl hp)))
  have p4 := gg_get (fOk_hd (fOk_tl (fOk_tl (fOk_tl hp))))
  have p5 := gg_get (fOk_hd (fOk_tl (fOk_tl (fOk_tl (fOk_tl hp)))))
  simp only [List.map, xv, fev, fvl, gtI, Int.one_mul, Int.add_zero, Int.zero_add] at p1 p2 p3 p4 p5
  have q := k_t_pl (z := z) (n := n) (c := c) (w := w) (L := L) (zm := zm) (zr := zr) (kd := kd) (fr := fr) (to := to) (nu := nu) (sg := sg) (wo := wo) (k := k) p1 p2 p3 p4 p5
  refine ⟨[], rfl, fOk_cons (p_put3 rfl (by decide) ?_) fOk_nil⟩ <;> simp only [List.map, xv, fev, fvl, gtI, Int.one_mul, Int.add_zero, Int.zero_add, List.append_nil]
  exact q
def r_t_in : eRul := (14, [xP 131 [xv 0, xv 1, ([], 0), xv 2, xv 3, xv 4, xv 5, xv 6, xv 7, xv 8, xv 9, xv 10, xv 11, xv 12], xP 76 [xv 7, xv 12, xv 13, ([], 1)], (.inl [[(18, 18)]], [xv 13]), xG (([(2, 1)], -19)), xG (([(3, 1)], -8))], 0, [xP 132 [xv 0, xv 1, ([], 2), xv 9, ([(2, 1)], 1), ([], 0), xv 4, xv 5, xv 6]])
theorem r_t_in_ok : ruOk r_t_in := by
  intro ρ hl0 hp
  obtain ⟨z, t0, rfl, hl1⟩ := len_inv hl0
  obtain ⟨n, t1, rfl, hl2⟩ := len_inv hl1
  obtain ⟨c, t2, rfl, hl3⟩ := len_inv hl2
  obtain ⟨w, t3, rfl, hl4⟩ := len_inv hl3
  obtain ⟨L, t4, rfl, hl5⟩ := len_inv hl4
  obtain ⟨zm, t5, rfl, hl6⟩ := len_inv hl5
  obtain ⟨zr, t6, rfl, hl7⟩ := len_inv hl6
  obtain ⟨kd, t7, rfl, hl8⟩ := len_inv hl7
  obtain ⟨fr, t8, rfl, hl9⟩ := len_inv hl8
  obtain ⟨to, t9, rfl, hl10⟩ := len_inv hl9
  obtain ⟨nu, t10, rfl, hl11⟩ := len_inv hl10
  obtain ⟨sg, t11, rfl, hl12⟩ := len_inv hl11
  obtain ⟨wo, t12, rfl, hl13⟩ := len_inv hl12
  obtain ⟨k, t13, rfl, hl14⟩ := len_inv hl13
  have hl := List.eq_nil_of_length_eq_zero hl14
  subst hl
  have p1 := p_get3 (by decide) (fOk_hd hp)
  have p2 := p_get3 (by decide) (fOk_hd (fOk_tl hp))
  have p3 := i_get (fOk_hd (fOk_tl (fOk_tl hp)))
  have p4 := gg_get (fOk_hd (fOk_tl (fOk_tl (fOk_tl hp))))
  have p5 := gg_get (fOk_hd (fOk_tl (fOk_tl (fOk_tl (fOk_tl hp)))))
  simp only [List.map, xv, fev, fvl, gtI, Int.one_mul, Int.add_zero, Int.zero_add] at p1 p2 p3 p4 p5
  have q := k_t_in (z := z) (n := n) (c := c) (w := w) (L := L) (zm := zm) (zr := zr) (kd := kd) (fr := fr) (to := to) (nu := nu) (sg := sg) (wo := wo) (k := k) p1 p2 p3 p4 p5
  refine ⟨[], rfl, fOk_cons (p_put3 rfl (by decide) ?_) fOk_nil⟩ <;> simp only [List.map, xv, fev, fvl, gtI, Int.one_mul, Int.add_zero, Int.zero_add, List.append_nil]
  exact q
def r_t_has : eRul := (14, [xP 131 [xv 0, xv 1, ([], 0), xv 2, xv 3, xv 4, xv 5, xv 6, xv 7, xv 8, xv 9, xv 10, xv 11, xv 12], xP 76 [xv 7, xv 12, xv 13, ([], 1)], (.inl [[(19, 19)]], [xv 13]), xG (([(2, 1)], -19)), xG (([(3, 1)], -8))], 0, [xP 132 [xv 0, xv 1, ([], 3), xv 9, ([(2, 1)], 1), ([], 0), xv 4, xv 5, xv 6]])
theorem r_t_has_ok : ruOk r_t_has := by
  intro ρ hl0 hp
  obtain ⟨z, t0, rfl, hl1⟩ := len_inv hl0
  obtain ⟨n, t1, rfl, hl2⟩ := len_inv hl1
  obtain ⟨c, t2, rfl, hl3⟩ := len_inv hl2
  obtain ⟨w, t3, rfl, hl4⟩ := len_inv hl3
  obtain ⟨L, t4, rfl, hl5⟩ := len_inv hl4
  obtain ⟨zm, t5, rfl, hl6⟩ := len_inv hl5
  obtain ⟨zr, t6, rfl, hl7⟩ := len_inv hl6
  obtain ⟨kd, t7, rfl, hl8⟩ := len_inv hl7
  obtain ⟨fr, t8, rfl, hl9⟩ := len_inv hl8
  obtain ⟨to, t9, rfl, hl10⟩ := len_inv hl9
  obtain ⟨nu, t10, rfl, hl11⟩ := len_inv hl10
  obtain ⟨sg, t11, rfl, hl12⟩ := len_inv hl11
  obtain ⟨wo, t12, rfl, hl13⟩ := len_inv hl12
  obtain ⟨k, t13, rfl, hl14⟩ := len_inv hl13
  have hl := List.eq_nil_of_length_eq_zero hl14
  subst hl
  have p1 := p_get3 (by decide) (fOk_hd hp)
  have p2 := p_get3 (by decide) (fOk_hd (fOk_tl hp))
  have p3 := i_get (fOk_hd (fOk_tl (fOk_tl hp)))
  have p4 := gg_get (fOk_hd (fOk_tl (fOk_tl (fOk_tl hp))))
  have p5 := gg_get (fOk_hd (fOk_tl (fOk_tl (fOk_tl (fOk_tl hp)))))
  simp only [List.map, xv, fev, fvl, gtI, Int.one_mul, Int.add_zero, Int.zero_add] at p1 p2 p3 p4 p5
  have q := k_t_has (z := z) (n := n) (c := c) (w := w) (L := L) (zm := zm) (zr := zr) (kd := kd) (fr := fr) (to := to) (nu := nu) (sg := sg) (wo := wo) (k := k) p1 p2 p3 p4 p5
  refine ⟨[], rfl, fOk_cons (p_put3 rfl (by decide) ?_) fOk_nil⟩ <;> simp only [List.map, xv, fev, fvl, gtI, Int.one_mul, Int.add_zero, Int.zero_add, List.append_nil]
  exact q
def r_t_cmp : eRul := (14, [xP 131 [xv 0, xv 1, ([], 0), xv 2, xv 3, xv 4, xv 5, xv 6, xv 7, xv 8, xv 9, xv 10, xv 11, xv 12], xP 76 [xv 7, xv 12, xv 13, ([], 1)], (.inl [[(20, 23)]], [xv 13]), xG (([(2, 1)], -19)), xG (([(3, 1)], -8))], 0, [xP 132 [xv 0, xv 1, ([], 4), xv 9, ([(2, 1)], 1), ([], 0), xv 4, xv 5, xv 6]])
theorem r_t_cmp_ok : ruOk r_t_cmp := by
  intro ρ hl0 hp
  obtain ⟨z, t0, rfl, hl1⟩ := len_inv hl0
  obtain ⟨n, t1, rfl, hl2⟩ := len_inv hl1
  obtain ⟨c, t2, rfl, hl3⟩ := len_inv hl2
  obtain ⟨w, t3, rfl, hl4⟩ := len_inv hl3
  obtain ⟨L, t4, rfl, hl5⟩ := len_inv hl4
  obtain ⟨zm, t5, rfl, hl6⟩ := len_inv hl5
  obtain ⟨zr, t6, rfl, hl7⟩ := len_inv hl6
  obtain ⟨kd, t7, rfl, hl8⟩ := len_inv hl7
  obtain ⟨fr, t8, rfl, hl9⟩ := len_inv hl8
  obtain ⟨to, t9, rfl, hl10⟩ := len_inv hl9
  obtain ⟨nu, t10, rfl, hl11⟩ := len_inv hl10
  obtain ⟨sg, t11, rfl, hl12⟩ := len_inv hl11
  obtain ⟨wo, t12, rfl, hl13⟩ := len_inv hl12
  obtain ⟨k, t13, rfl, hl14⟩ := len_inv hl13
  have hl := List.eq_nil_of_length_eq_zero hl14
  subst hl
  have p1 := p_get3 (by decide) (fOk_hd hp)
  have p2 := p_get3 (by decide) (fOk_hd (fOk_tl hp))
  have p3 := i_get (fOk_hd (fOk_tl (fOk_tl hp)))
  have p4 := gg_get (fOk_hd (fOk_tl (fOk_tl (fOk_tl hp))))
  have p5 := gg_get (fOk_hd (fOk_tl (fOk_tl (fOk_tl (fOk_tl hp)))))
  simp only [List.map, xv, fev, fvl, gtI, Int.one_mul, Int.add_zero, Int.zero_add] at p1 p2 p3 p4 p5
  have q := k_t_cmp (z := z) (n := n) (c := c) (w := w) (L := L) (zm := zm) (zr := zr) (kd := kd) (fr := fr) (to := to) (nu := nu) (sg := sg) (wo := wo) (k := k) p1 p2 p3 p4 p5
  refine ⟨[], rfl, fOk_cons (p_put3 rfl (by decide) ?_) fOk_nil⟩ <;> simp only [List.map, xv, fev, fvl, gtI, Int.one_mul, Int.add_zero, Int.zero_add, List.append_nil]
  exact q
def r_t_many1a : eRul := (13, [xP 131 [xv 0, xv 1, ([], 0), xv 2, xv 3, xv 4, xv 5, xv 6, xv 7, xv 8, xv 9, xv 10, xv 11, xv 12], xP 56 [xv 7, xv 11, ([], 40), ([], 1)], xG (([(2, -1)], 20))], 0, [xP 135 [xv 0, xv 1, xv 5, xv 6, ([(8, -1)], -1), ([], 4)]])
theorem r_t_many1a_ok : ruOk r_t_many1a := by
  intro ρ hl0 hp
  obtain ⟨z, t0, rfl, hl1⟩ := len_inv hl0
  obtain ⟨n, t1, rfl, hl2⟩ := len_inv hl1
  obtain ⟨c, t2, rfl, hl3⟩ := len_inv hl2
  obtain ⟨w, t3, rfl, hl4⟩ := len_inv hl3
  obtain ⟨L, t4, rfl, hl5⟩ := len_inv hl4
  obtain ⟨zm, t5, rfl, hl6⟩ := len_inv hl5
  obtain ⟨zr, t6, rfl, hl7⟩ := len_inv hl6
  obtain ⟨kd, t7, rfl, hl8⟩ := len_inv hl7
  obtain ⟨fr, t8, rfl, hl9⟩ := len_inv hl8
  obtain ⟨to, t9, rfl, hl10⟩ := len_inv hl9
  obtain ⟨nu, t10, rfl, hl11⟩ := len_inv hl10
  obtain ⟨sg, t11, rfl, hl12⟩ := len_inv hl11
  obtain ⟨wo, t12, rfl, hl13⟩ := len_inv hl12
  have hl := List.eq_nil_of_length_eq_zero hl13
  subst hl
  have p1 := p_get3 (by decide) (fOk_hd hp)
  have p2 := p_get3 (by decide) (fOk_hd (fOk_tl hp))
  have p3 := gg_get (fOk_hd (fOk_tl (fOk_tl hp)))
  simp only [List.map, xv, fev, fvl, gtI, Int.one_mul, Int.add_zero, Int.zero_add] at p1 p2 p3
  have q := k_t_many1a (z := z) (n := n) (c := c) (w := w) (L := L) (zm := zm) (zr := zr) (kd := kd) (fr := fr) (to := to) (nu := nu) (sg := sg) (wo := wo) p1 p2 p3
  refine ⟨[], rfl, fOk_cons (p_put3 rfl (by decide) ?_) fOk_nil⟩ <;> simp only [List.map, xv, fev, fvl, gtI, Int.one_mul, Int.add_zero, Int.zero_add, List.append_nil]
  exact q
def r_t_many2a : eRul := (14, [xP 131 [xv 0, xv 1, ([], 0), xv 2, xv 3, xv 4, xv 5, xv 6, xv 7, xv 8, xv 9, xv 10, xv 11, xv 12], xP 76 [xv 7, xv 12, xv 13, ([], 1)], (.inl [[(15, 23)]], [xv 13]), xG (([(2, -1)], 20))], 0, [xP 135 [xv 0, xv 1, xv 5, xv 6, ([(8, -1)], -1), ([], 4)]])
theorem r_t_many2a_ok : ruOk r_t_many2a := by
  intro ρ hl0 hp
  obtain ⟨z, t0, rfl, hl1⟩ := len_inv hl0
  obtain ⟨n, t1, rfl, hl2⟩ := len_inv hl1
  obtain ⟨c, t2, rfl, hl3⟩ := len_inv hl2
  obtain ⟨w, t3, rfl, hl4⟩ := len_inv hl3
  obtain ⟨L, t4, rfl, hl5⟩ := len_inv hl4
  obtain ⟨zm, t5, rfl, hl6⟩ := len_inv hl5
  obtain ⟨zr, t6, rfl, hl7⟩ := len_inv hl6
  obtain ⟨kd, t7, rfl, hl8⟩ := len_inv hl7
  obtain ⟨fr, t8, rfl, hl9⟩ := len_inv hl8
  obtain ⟨to, t9, rfl, hl10⟩ := len_inv hl9
  obtain ⟨nu, t10, rfl, hl11⟩ := len_inv hl10
  obtain ⟨sg, t11, rfl, hl12⟩ := len_inv hl11
  obtain ⟨wo, t12, rfl, hl13⟩ := len_inv hl12
  obtain ⟨k, t13, rfl, hl14⟩ := len_inv hl13
  have hl := List.eq_nil_of_length_eq_zero hl14
  subst hl
  have p1 := p_get3 (by decide) (fOk_hd hp)
  have p2 := p_get3 (by decide) (fOk_hd (fOk_tl hp))
  have p3 := i_get (fOk_hd (fOk_tl (fOk_tl hp)))
  have p4 := gg_get (fOk_hd (fOk_tl (fOk_tl (fOk_tl hp))))
  simp only [List.map, xv, fev, fvl, gtI, Int.one_mul, Int.add_zero, Int.zero_add] at p1 p2 p3 p4
  have q := k_t_many2a (z := z) (n := n) (c := c) (w := w) (L := L) (zm := zm) (zr := zr) (kd := kd) (fr := fr) (to := to) (nu := nu) (sg := sg) (wo := wo) (k := k) p1 p2 p3 p4
  refine ⟨[], rfl, fOk_cons (p_put3 rfl (by decide) ?_) fOk_nil⟩ <;> simp only [List.map, xv, fev, fvl, gtI, Int.one_mul, Int.add_zero, Int.zero_add, List.append_nil]
  exact q
def r_t_many1b : eRul := (13, [xP 131 [xv 0, xv 1, ([], 0), xv 2, xv 3, xv 4, xv 5, xv 6, xv 7, xv 8, xv 9, xv 10, xv 11, xv 12], xP 56 [xv 7, xv 11, ([], 40), ([], 1)], xG (([(3, -1)], 9))], 0, [xP 135 [xv 0, xv 1, xv 5, xv 6, ([(8, -1)], -1), ([], 4)]])
theorem r_t_many1b_ok : ruOk r_t_many1b := by
  intro ρ hl0 hp
  obtain ⟨z, t0, rfl, hl1⟩ := len_inv hl0
  obtain ⟨n, t1, rfl, hl2⟩ := len_inv hl1
  obtain ⟨c, t2, rfl, hl3⟩ := len_inv hl2
  obtain ⟨w, t3, rfl, hl4⟩ := len_inv hl3
  obtain ⟨L, t4, rfl, hl5⟩ := len_inv hl4
  obtain ⟨zm, t5, rfl, hl6⟩ := len_inv hl5
  obtain ⟨zr, t6, rfl, hl7⟩ := len_inv hl6
  obtain ⟨kd, t7, rfl, hl8⟩ := len_inv hl7
  obtain ⟨fr, t8, rfl, hl9⟩ := len_inv hl8
  obtain ⟨to, t9, rfl, hl10⟩ := len_inv hl9
  obtain ⟨nu, t10, rfl, hl11⟩ := len_inv hl10
  obtain ⟨sg, t11, rfl, hl12⟩ := len_inv hl11
  obtain ⟨wo, t12, rfl, hl13⟩ := len_inv hl12
  have hl := List.eq_nil_of_length_eq_zero hl13
  subst hl
  have p1 := p_get3 (by decide) (fOk_hd hp)
  have p2 := p_get3 (by decide) (fOk_hd (fOk_tl hp))
  have p3 := gg_get (fOk_hd (fOk_tl (fOk_tl hp)))
  simp only [List.map, xv, fev, fvl, gtI, Int.one_mul, Int.add_zero, Int.zero_add] at p1 p2 p3
  have q := k_t_many1b (z := z) (n := n) (c := c) (w := w) (L := L) (zm := zm) (zr := zr) (kd := kd) (fr := fr) (to := to) (nu := nu) (sg := sg) (wo := wo) p1 p2 p3
  refine ⟨[], rfl, fOk_cons (p_put3 rfl (by decide) ?_) fOk_nil⟩ <;> simp only [List.map, xv, fev, fvl, gtI, Int.one_mul, Int.add_zero, Int.zero_add, List.append_nil]
  exact q
def r_t_many2b : eRul := (14, [xP 131 [xv 0, xv 1, ([], 0), xv 2, xv 3, xv 4, xv 5, xv 6, xv 7, xv 8, xv 9, xv 10, xv 11, xv 12], xP 76 [xv 7, xv 12, xv 13, ([], 1)], (.inl [[(15, 23)]], [xv 13]), xG (([(3, -1)], 9))], 0, [xP 135 [xv 0, xv 1, xv 5, xv 6, ([(8, -1)], -1), ([], 4)]])
theorem r_t_many2b_ok : ruOk r_t_many2b := by
  intro ρ hl0 hp
  obtain ⟨z, t0, rfl, hl1⟩ := len_inv hl0
  obtain ⟨n, t1, rfl, hl2⟩ := len_inv hl1
  obtain ⟨c, t2, rfl, hl3⟩ := len_inv hl2
  obtain ⟨w, t3, rfl, hl4⟩ := len_inv hl3
  obtain ⟨L, t4, rfl, hl5⟩ := len_inv hl4
  obtain ⟨zm, t5, rfl, hl6⟩ := len_inv hl5
  obtain ⟨zr, t6, rfl, hl7⟩ := len_inv hl6
  obtain ⟨kd, t7, rfl, hl8⟩ := len_inv hl7
  obtain ⟨fr, t8, rfl, hl9⟩ := len_inv hl8
  obtain ⟨to, t9, rfl, hl10⟩ := len_inv hl9
  obtain ⟨nu, t10, rfl, hl11⟩ := len_inv hl10
  obtain ⟨sg, t11, rfl, hl12⟩ := len_inv hl11
  obtain ⟨wo, t12, rfl, hl13⟩ := len_inv hl12
  obtain ⟨k, t13, rfl, hl14⟩ := len_inv hl13
  have hl := List.eq_nil_of_length_eq_zero hl14
  subst hl
  have p1 := p_get3 (by decide) (fOk_hd hp)
  have p2 := p_get3 (by decide) (fOk_hd (fOk_tl hp))
  have p3 := i_get (fOk_hd (fOk_tl (fOk_tl hp)))
  have p4 := gg_get (fOk_hd (fOk_tl (fOk_tl (fOk_tl hp))))
  simp only [List.map, xv, fev, fvl, gtI, Int.one_mul, Int.add_zero, Int.zero_add] at p1 p2 p3 p4
  have q := k_t_many2b (z := z) (n := n) (c := c) (w := w) (L := L) (zm := zm) (zr := zr) (kd := kd) (fr := fr) (to := to) (nu := nu) (sg := sg) (wo := wo) (k := k) p1 p2 p3 p4
  refine ⟨[], rfl, fOk_cons (p_put3 rfl (by decide) ?_) fOk_nil⟩ <;> simp only [List.map, xv, fev, fvl, gtI, Int.one_mul, Int.add_zero, Int.zero_add, List.append_nil]
  exact q
def r_t_bad0 : eRul := (14, [xP 131 [xv 0, xv 1, ([], 0), xv 2, xv 3, xv 4, xv 5, xv 6, xv 7, xv 8, xv 9, xv 10, xv 11, xv 12], xP 56 [xv 7, xv 11, ([], 40), ([], 0)], xP 138 [xv 7, xv 12, xv 13], xG (([(13, -1)], 24))], 0, [xP 135 [xv 0, xv 1, xv 5, xv 6, ([(8, -1)], -1), ([], 1)]])
theorem r_t_bad0_ok : ruOk r_t_bad0 := by
  intro ρ hl0 hp
  obtain ⟨z, t0, rfl, hl1⟩ := len_inv hl0
  obtain ⟨n, t1, rfl, hl2⟩ := len_inv hl1
  obtain ⟨c, t2, rfl, hl3⟩ := len_inv hl2
  obtain ⟨w, t3, rfl, hl4⟩ := len_inv hl3
  obtain ⟨L, t4, rfl, hl5⟩ := len_inv hl4
  obtain ⟨zm, t5, rfl, hl6⟩ := len_inv hl5
  obtain ⟨zr, t6, rfl, hl7⟩ := len_inv hl6
  obtain ⟨kd, t7, rfl, hl8⟩ := len_inv hl7
  obtain ⟨fr, t8, rfl, hl9⟩ := len_inv hl8
  obtain ⟨to, t9, rfl, hl10⟩ := len_inv hl9
  obtain ⟨nu, t10, rfl, hl11⟩ := len_inv hl10
  obtain ⟨sg, t11, rfl, hl12⟩ := len_inv hl11
  obtain ⟨wo, t12, rfl, hl13⟩ := len_inv hl12
  obtain ⟨k, t13, rfl, hl14⟩ := len_inv hl13
  have hl := List.eq_nil_of_length_eq_zero hl14
  subst hl
  have p1 := p_get3 (by decide) (fOk_hd hp)
  have p2 := p_get3 (by decide) (fOk_hd (fOk_tl hp))
  have p3 := p_get3 (by decide) (fOk_hd (fOk_tl (fOk_tl hp)))
  have p4 := gg_get (fOk_hd (fOk_tl (fOk_tl (fOk_tl hp))))
  simp only [List.map, xv, fev, fvl, gtI, Int.one_mul, Int.add_zero, Int.zero_add] at p1 p2 p3 p4
  have q := k_t_bad0 (z := z) (n := n) (c := c) (w := w) (L := L) (zm := zm) (zr := zr) (kd := kd) (fr := fr) (to := to) (nu := nu) (sg := sg) (wo := wo) (k := k) p1 p2 p3 p4
  refine ⟨[], rfl, fOk_cons (p_put3 rfl (by decide) ?_) fOk_nil⟩ <;> simp only [List.map, xv, fev, fvl, gtI, Int.one_mul, Int.add_zero, Int.zero_add, List.append_nil]
  exact q
def r_t_op13 : eRul := (14, [xP 131 [xv 0, xv 1, ([], 1), xv 2, xv 3, xv 4, xv 5, xv 6, xv 7, xv 8, xv 9, xv 10, xv 11, xv 12], xP 76 [xv 7, xv 12, ([], 13), ([], 1)], xP 136 [xv 4, xv 13]], 0, [xP 132 [xv 0, xv 1, ([], 0), xv 9, xv 2, xv 13, xv 4, xv 5, xv 6]])
theorem r_t_op13_ok : ruOk r_t_op13 := by
  intro ρ hl0 hp
  obtain ⟨z, t0, rfl, hl1⟩ := len_inv hl0
  obtain ⟨n, t1, rfl, hl2⟩ := len_inv hl1
  obtain ⟨c, t2, rfl, hl3⟩ := len_inv hl2
  obtain ⟨w, t3, rfl, hl4⟩ := len_inv hl3
  obtain ⟨L, t4, rfl, hl5⟩ := len_inv hl4
  obtain ⟨zm, t5, rfl, hl6⟩ := len_inv hl5
  obtain ⟨zr, t6, rfl, hl7⟩ := len_inv hl6
  obtain ⟨kd, t7, rfl, hl8⟩ := len_inv hl7
  obtain ⟨fr, t8, rfl, hl9⟩ := len_inv hl8
  obtain ⟨to, t9, rfl, hl10⟩ := len_inv hl9
  obtain ⟨nu, t10, rfl, hl11⟩ := len_inv hl10
  obtain ⟨sg, t11, rfl, hl12⟩ := len_inv hl11
  obtain ⟨wo, t12, rfl, hl13⟩ := len_inv hl12
  obtain ⟨b, t13, rfl, hl14⟩ := len_inv hl13
  have hl := List.eq_nil_of_length_eq_zero hl14
  subst hl
  have p1 := p_get3 (by decide) (fOk_hd hp)
  have p2 := p_get3 (by decide) (fOk_hd (fOk_tl hp))
  have p3 := p_get3 (by decide) (fOk_hd (fOk_tl (fOk_tl hp)))
  simp only [List.map, xv, fev, fvl, gtI, Int.one_mul, Int.add_zero, Int.zero_add] at p1 p2 p3
  have q := k_t_op13 (z := z) (n := n) (c := c) (w := w) (L := L) (zm := zm) (zr := zr) (kd := kd) (fr := fr) (to := to) (nu := nu) (sg := sg) (wo := wo) (b := b) p1 p2 p3
  refine ⟨[], rfl, fOk_cons (p_put3 rfl (by decide) ?_) fOk_nil⟩ <;> simp only [List.map, xv, fev, fvl, gtI, Int.one_mul, Int.add_zero, Int.zero_add, List.append_nil]
  exact q
def r_t_op14 : eRul := (14, [xP 131 [xv 0, xv 1, ([], 1), xv 2, xv 3, xv 4, xv 5, xv 6, xv 7, xv 8, xv 9, xv 10, xv 11, xv 12], xP 76 [xv 7, xv 12, ([], 14), ([], 1)], xP 136 [xv 4, xv 13]], 0, [xP 132 [xv 0, xv 1, ([], 0), xv 9, xv 2, xv 13, xv 4, xv 5, xv 6]])
theorem r_t_op14_ok : ruOk r_t_op14 := by
  intro ρ hl0 hp
  obtain ⟨z, t0, rfl, hl1⟩ := len_inv hl0
  obtain ⟨n, t1, rfl, hl2⟩ := len_inv hl1
  obtain ⟨c, t2, rfl, hl3⟩ := len_inv hl2
  obtain ⟨w, t3, rfl, hl4⟩ := len_inv hl3
  obtain ⟨L, t4, rfl, hl5⟩ := len_inv hl4
  obtain ⟨zm, t5, rfl, hl6⟩ := len_inv hl5
  obtain ⟨zr, t6, rfl, hl7⟩ := len_inv hl6
  obtain ⟨kd, t7, rfl, hl8⟩ := len_inv hl7
  obtain ⟨fr, t8, rfl, hl9⟩ := len_inv hl8
  obtain ⟨to, t9, rfl, hl10⟩ := len_inv hl9
  obtain ⟨nu, t10, rfl, hl11⟩ := len_inv hl10
  obtain ⟨sg, t11, rfl, hl12⟩ := len_inv hl11
  obtain ⟨wo, t12, rfl, hl13⟩ := len_inv hl12
  obtain ⟨b, t13, rfl, hl14⟩ := len_inv hl13
  have hl := List.eq_nil_of_length_eq_zero hl14
  subst hl
  have p1 := p_get3 (by decide) (fOk_hd hp)
  have p2 := p_get3 (by decide) (fOk_hd (fOk_tl hp))
  have p3 := p_get3 (by decide) (fOk_hd (fOk_tl (fOk_tl hp)))
  simp only [List.map, xv, fev, fvl, gtI, Int.one_mul, Int.add_zero, Int.zero_add] at p1 p2 p3
  have q := k_t_op14 (z := z) (n := n) (c := c) (w := w) (L := L) (zm := zm) (zr := zr) (kd := kd) (fr := fr) (to := to) (nu := nu) (sg := sg) (wo := wo) (b := b) p1 p2 p3
  refine ⟨[], rfl, fOk_cons (p_put3 rfl (by decide) ?_) fOk_nil⟩ <;> simp only [List.map, xv, fev, fvl, gtI, Int.one_mul, Int.add_zero, Int.zero_add, List.append_nil]
  exact q
def r_t_cl : eRul := (14, [xP 131 [xv 0, xv 1, ([], 1), xv 2, xv 3, ([(4, 16), (5, 1)], 0), xv 6, xv 7, xv 8, xv 9, xv 10, xv 11, xv 12, xv 13], xP 56 [xv 8, xv 12, ([], 41), ([], 1)], (.inl [[(1, 9)]], [xv 5]), xG (([(4, -1)], 1))], 0, [xP 132 [xv 0, xv 1, ([], 1), xv 10, xv 2, ([], 0), xv 4, xv 6, xv 7]])
theorem r_t_cl_ok : ruOk r_t_cl := by
  intro ρ hl0 hp
  obtain ⟨z, t0, rfl, hl1⟩ := len_inv hl0
  obtain ⟨n, t1, rfl, hl2⟩ := len_inv hl1
  obtain ⟨c, t2, rfl, hl3⟩ := len_inv hl2
  obtain ⟨w, t3, rfl, hl4⟩ := len_inv hl3
  obtain ⟨L, t4, rfl, hl5⟩ := len_inv hl4
  obtain ⟨b, t5, rfl, hl6⟩ := len_inv hl5
  obtain ⟨zm, t6, rfl, hl7⟩ := len_inv hl6
  obtain ⟨zr, t7, rfl, hl8⟩ := len_inv hl7
  obtain ⟨kd, t8, rfl, hl9⟩ := len_inv hl8
  obtain ⟨fr, t9, rfl, hl10⟩ := len_inv hl9
  obtain ⟨to, t10, rfl, hl11⟩ := len_inv hl10
  obtain ⟨nu, t11, rfl, hl12⟩ := len_inv hl11
  obtain ⟨sg, t12, rfl, hl13⟩ := len_inv hl12
  obtain ⟨wo, t13, rfl, hl14⟩ := len_inv hl13
  have hl := List.eq_nil_of_length_eq_zero hl14
  subst hl
  have p1 := p_get3 (by decide) (fOk_hd hp)
  have p2 := p_get3 (by decide) (fOk_hd (fOk_tl hp))
  have p3 := i_get (fOk_hd (fOk_tl (fOk_tl hp)))
  have p4 := gg_get (fOk_hd (fOk_tl (fOk_tl (fOk_tl hp))))
  simp only [List.map, xv, fev, fvl, gtI, Int.one_mul, Int.add_zero, Int.zero_add] at p1 p2 p3 p4
  have q := k_t_cl (z := z) (n := n) (c := c) (w := w) (L := L) (b := b) (zm := zm) (zr := zr) (kd := kd) (fr := fr) (to := to) (nu := nu) (sg := sg) (wo := wo) p1 p2 p3 p4
  refine ⟨[], rfl, fOk_cons (p_put3 rfl (by decide) ?_) fOk_nil⟩ <;> simp only [List.map, xv, fev, fvl, gtI, Int.one_mul, Int.add_zero, Int.zero_add, List.append_nil]
  exact q
def r_t_cl_bad : eRul := (13, [xP 131 [xv 0, xv 1, ([], 1), xv 2, xv 3, xv 4, xv 5, xv 6, xv 7, xv 8, xv 9, xv 10, xv 11, xv 12], xG (([(4, -1)], 16)), xP 56 [xv 7, xv 11, ([], 41), ([], 0)], xP 76 [xv 7, xv 12, ([], 13), ([], 0)], xP 76 [xv 7, xv 12, ([], 14), ([], 0)]], 0, [xP 135 [xv 0, xv 1, xv 5, xv 6, ([(8, -1)], -1), ([], 1)]])
theorem r_t_cl_bad_ok : ruOk r_t_cl_bad := by
  intro ρ hl0 hp
  obtain ⟨z, t0, rfl, hl1⟩ := len_inv hl0
  obtain ⟨n, t1, rfl, hl2⟩ := len_inv hl1
  obtain ⟨c, t2, rfl, hl3⟩ := len_inv hl2
  obtain ⟨w, t3, rfl, hl4⟩ := len_inv hl3
  obtain ⟨L, t4, rfl, hl5⟩ := len_inv hl4
  obtain ⟨zm, t5, rfl, hl6⟩ := len_inv hl5
  obtain ⟨zr, t6, rfl, hl7⟩ := len_inv hl6
  obtain ⟨kd, t7, rfl, hl8⟩ := len_inv hl7
  obtain ⟨fr, t8, rfl, hl9⟩ := len_inv hl8
  obtain ⟨to, t9, rfl, hl10⟩ := len_inv hl9
  obtain ⟨nu, t10, rfl, hl11⟩ := len_inv hl10
  obtain ⟨sg, t11, rfl, hl12⟩ := len_inv hl11
  obtain ⟨wo, t12, rfl, hl13⟩ := len_inv hl12
  have hl := List.eq_nil_of_length_eq_zero hl13
  subst hl
  have p1 := p_get3 (by decide) (fOk_hd hp)
  have p2 := gg_get (fOk_hd (fOk_tl hp))
  have p3 := p_get3 (by decide) (fOk_hd (fOk_tl (fOk_tl hp)))
  have p4 := p_get3 (by decide) (fOk_hd (fOk_tl (fOk_tl (fOk_tl hp))))
  have p5 := p_get3 (by decide) (fOk_hd (fOk_tl (fOk_tl (fOk_tl (fOk_tl hp)))))
  simp only [List.map, xv, fev, fvl, gtI, Int.one_mul, Int.add_zero, Int.zero_add] at p1 p2 p3 p4 p5
  have q := k_t_cl_bad (z := z) (n := n) (c := c) (w := w) (L := L) (zm := zm) (zr := zr) (kd := kd) (fr := fr) (to := to) (nu := nu) (sg := sg) (wo := wo) p1 p2 p3 p4 p5
  refine ⟨[], rfl, fOk_cons (p_put3 rfl (by decide) ?_) fOk_nil⟩ <;> simp only [List.map, xv, fev, fvl, gtI, Int.one_mul, Int.add_zero, Int.zero_add, List.append_nil]
  exact q
def r_t_end : eRul := (12, [xP 131 [xv 0, xv 1, ([], 1), xv 2, xv 3, ([], 1), xv 4, xv 5, xv 6, xv 7, xv 8, xv 9, xv 10, xv 11], (.inl [[(0, 0)]], [xv 6])], 0, [xP 135 [xv 0, xv 1, xv 4, xv 5, xv 2, ([], 0)]])
theorem r_t_end_ok : ruOk r_t_end := by
  intro ρ hl0 hp
  obtain ⟨z, t0, rfl, hl1⟩ := len_inv hl0
  obtain ⟨n, t1, rfl, hl2⟩ := len_inv hl1
  obtain ⟨c, t2, rfl, hl3⟩ := len_inv hl2
  obtain ⟨w, t3, rfl, hl4⟩ := len_inv hl3
  obtain ⟨zm, t4, rfl, hl5⟩ := len_inv hl4
  obtain ⟨zr, t5, rfl, hl6⟩ := len_inv hl5
  obtain ⟨kd, t6, rfl, hl7⟩ := len_inv hl6
  obtain ⟨fr, t7, rfl, hl8⟩ := len_inv hl7
  obtain ⟨to, t8, rfl, hl9⟩ := len_inv hl8
  obtain ⟨nu, t9, rfl, hl10⟩ := len_inv hl9
  obtain ⟨sg, t10, rfl, hl11⟩ := len_inv hl10
  obtain ⟨wo, t11, rfl, hl12⟩ := len_inv hl11
  have hl := List.eq_nil_of_length_eq_zero hl12
  subst hl
  have p1 := p_get3 (by decide) (fOk_hd hp)
  have p2 := i_get (fOk_hd (fOk_tl hp))
  simp only [List.map, xv, fev, fvl, gtI, Int.one_mul, Int.add_zero, Int.zero_add] at p1 p2
  have q := k_t_end (z := z) (n := n) (c := c) (w := w) (zm := zm) (zr := zr) (kd := kd) (fr := fr) (to := to) (nu := nu) (sg := sg) (wo := wo) p1 p2
  refine ⟨[], rfl, fOk_cons (p_put3 rfl (by decide) ?_) fOk_nil⟩ <;> simp only [List.map, xv, fev, fvl, gtI, Int.one_mul, Int.add_zero, Int.zero_add, List.append_nil]
  exact q
def r_t_end_bad : eRul := (12, [xP 131 [xv 0, xv 1, ([], 1), xv 2, xv 3, ([], 1), xv 4, xv 5, xv 6, xv 7, xv 8, xv 9, xv 10, xv 11], xP 97 [xv 6], xP 76 [xv 6, xv 11, ([], 13), ([], 0)], xP 76 [xv 6, xv 11, ([], 14), ([], 0)]], 0, [xP 135 [xv 0, xv 1, xv 4, xv 5, ([(7, -1)], -1), ([], 1)]])
theorem r_t_end_bad_ok : ruOk r_t_end_bad := by
  intro ρ hl0 hp
  obtain ⟨z, t0, rfl, hl1⟩ := len_inv hl0
  obtain ⟨n, t1, rfl, hl2⟩ := len_inv hl1
  obtain ⟨c, t2, rfl, hl3⟩ := len_inv hl2
  obtain ⟨w, t3, rfl, hl4⟩ := len_inv hl3
  obtain ⟨zm, t4, rfl, hl5⟩ := len_inv hl4
  obtain ⟨zr, t5, rfl, hl6⟩ := len_inv hl5
  obtain ⟨kd, t6, rfl, hl7⟩ := len_inv hl6
  obtain ⟨fr, t7, rfl, hl8⟩ := len_inv hl7
  obtain ⟨to, t8, rfl, hl9⟩ := len_inv hl8
  obtain ⟨nu, t9, rfl, hl10⟩ := len_inv hl9
  obtain ⟨sg, t10, rfl, hl11⟩ := len_inv hl10
  obtain ⟨wo, t11, rfl, hl12⟩ := len_inv hl11
  have hl := List.eq_nil_of_length_eq_zero hl12
  subst hl
  have p1 := p_get3 (by decide) (fOk_hd hp)
  have p2 := p_get3 (by decide) (fOk_hd (fOk_tl hp))
  have p3 := p_get3 (by decide) (fOk_hd (fOk_tl (fOk_tl hp)))
  have p4 := p_get3 (by decide) (fOk_hd (fOk_tl (fOk_tl (fOk_tl hp))))
  simp only [List.map, xv, fev, fvl, gtI, Int.one_mul, Int.add_zero, Int.zero_add] at p1 p2 p3 p4
  have q := k_t_end_bad (z := z) (n := n) (c := c) (w := w) (zm := zm) (zr := zr) (kd := kd) (fr := fr) (to := to) (nu := nu) (sg := sg) (wo := wo) p1 p2 p3 p4
  refine ⟨[], rfl, fOk_cons (p_put3 rfl (by decide) ?_) fOk_nil⟩ <;> simp only [List.map, xv, fev, fvl, gtI, Int.one_mul, Int.add_zero, Int.zero_add, List.append_nil]
  exact q
def r_t_n2 : eRul := (14, [xP 131 [xv 0, xv 1, ([], 2), xv 2, xv 3, xv 4, xv 5, xv 6, xv 7, xv 8, xv 9, xv 10, xv 11, xv 12], xP 79 [xv 7, xv 12, ([], 1)], xP 96 [xv 5, xv 6, ([], 0), ([], 0), xv 12, xv 13], xG (([(13, -1)], 0))], 0, [xP 132 [xv 0, xv 1, ([], 1), xv 9, xv 2, ([], 0), xv 4, xv 5, xv 6]])
theorem r_t_n2_ok : ruOk r_t_n2 := by
  intro ρ hl0 hp
  obtain ⟨z, t0, rfl, hl1⟩ := len_inv hl0
  obtain ⟨n, t1, rfl, hl2⟩ := len_inv hl1
  obtain ⟨c, t2, rfl, hl3⟩ := len_inv hl2
  obtain ⟨w, t3, rfl, hl4⟩ := len_inv hl3
  obtain ⟨L, t4, rfl, hl5⟩ := len_inv hl4
  obtain ⟨zm, t5, rfl, hl6⟩ := len_inv hl5
  obtain ⟨zr, t6, rfl, hl7⟩ := len_inv hl6
  obtain ⟨kd, t7, rfl, hl8⟩ := len_inv hl7
  obtain ⟨fr, t8, rfl, hl9⟩ := len_inv hl8
  obtain ⟨to, t9, rfl, hl10⟩ := len_inv hl9
  obtain ⟨nu, t10, rfl, hl11⟩ := len_inv hl10
  obtain ⟨sg, t11, rfl, hl12⟩ := len_inv hl11
  obtain ⟨wo, t12, rfl, hl13⟩ := len_inv hl12
  obtain ⟨i, t13, rfl, hl14⟩ := len_inv hl13
  have hl := List.eq_nil_of_length_eq_zero hl14
  subst hl
  have p1 := p_get3 (by decide) (fOk_hd hp)
  have p2 := p_get3 (by decide) (fOk_hd (fOk_tl hp))
  have p3 := p_get3 (by decide) (fOk_hd (fOk_tl (fOk_tl hp)))
  have p4 := gg_get (fOk_hd (fOk_tl (fOk_tl (fOk_tl hp))))
  simp only [List.map, xv, fev, fvl, gtI, Int.one_mul, Int.add_zero, Int.zero_add] at p1 p2 p3 p4
  have q := k_t_n2 (z := z) (n := n) (c := c) (w := w) (L := L) (zm := zm) (zr := zr) (kd := kd) (fr := fr) (to := to) (nu := nu) (sg := sg) (wo := wo) (i := i) p1 p2 p3 p4
  refine ⟨[], rfl, fOk_cons (p_put3 rfl (by decide) ?_) fOk_nil⟩ <;> simp only [List.map, xv, fev, fvl, gtI, Int.one_mul, Int.add_zero, Int.zero_add, List.append_nil]
  exact q
def r_t_n2_1 : eRul := (13, [xP 131 [xv 0, xv 1, ([], 2), xv 2, xv 3, xv 4, xv 5, xv 6, xv 7, xv 8, xv 9, xv 10, xv 11, xv 12], xP 79 [xv 7, xv 12, ([], 0)]], 0, [xP 135 [xv 0, xv 1, xv 5, xv 6, ([(8, -1)], -1), ([], 1)]])
theorem r_t_n2_1_ok : ruOk r_t_n2_1 := by
  intro ρ hl0 hp
  obtain ⟨z, t0, rfl, hl1⟩ := len_inv hl0
  obtain ⟨n, t1, rfl, hl2⟩ := len_inv hl1
  obtain ⟨c, t2, rfl, hl3⟩ := len_inv hl2
  obtain ⟨w, t3, rfl, hl4⟩ := len_inv hl3
  obtain ⟨L, t4, rfl, hl5⟩ := len_inv hl4
  obtain ⟨zm, t5, rfl, hl6⟩ := len_inv hl5
  obtain ⟨zr, t6, rfl, hl7⟩ := len_inv hl6
  obtain ⟨kd, t7, rfl, hl8⟩ := len_inv hl7
  obtain ⟨fr, t8, rfl, hl9⟩ := len_inv hl8
  obtain ⟨to, t9, rfl, hl10⟩ := len_inv hl9
  obtain ⟨nu, t10, rfl, hl11⟩ := len_inv hl10
  obtain ⟨sg, t11, rfl, hl12⟩ := len_inv hl11
  obtain ⟨wo, t12, rfl, hl13⟩ := len_inv hl12
  have hl := List.eq_nil_of_length_eq_zero hl13
  subst hl
  have p1 := p_get3 (by decide) (fOk_hd hp)
  have p2 := p_get3 (by decide) (fOk_hd (fOk_tl hp))
  simp only [List.map, xv, fev, fvl, gtI, Int.one_mul, Int.add_zero, Int.zero_add] at p1 p2
  have q := k_t_n2_1 (z := z) (n := n) (c := c) (w := w) (L := L) (zm := zm) (zr := zr) (kd := kd) (fr := fr) (to := to) (nu := nu) (sg := sg) (wo := wo) p1 p2
  refine ⟨[], rfl, fOk_cons (p_put3 rfl (by decide) ?_) fOk_nil⟩ <;> simp only [List.map, xv, fev, fvl, gtI, Int.one_mul, Int.add_zero, Int.zero_add, List.append_nil]
  exact q
def r_t_n2_3 : eRul := (13, [xP 131 [xv 0, xv 1, ([], 2), xv 2, xv 3, xv 4, xv 5, xv 6, xv 7, xv 8, xv 9, xv 10, xv 11, xv 12], xP 79 [xv 7, xv 12, ([], 1)], xP 96 [xv 5, xv 6, ([], 0), ([], 0), xv 12, ([], -1)]], 0, [xP 135 [xv 0, xv 1, xv 5, xv 6, ([(8, -1)], -1), ([], 3)]])
theorem r_t_n2_3_ok : ruOk r_t_n2_3 := by
  intro ρ hl0 hp
  obtain ⟨z, t0, rfl, hl1⟩ := len_inv hl0
  obtain ⟨n, t1, rfl, hl2⟩ := len_inv hl1
  obtain ⟨c, t2, rfl, hl3⟩ := len_inv hl2
  obtain ⟨w, t3, rfl, hl4⟩ := len_inv hl3
  obtain ⟨L, t4, rfl, hl5⟩ := len_inv hl4
  obtain ⟨zm, t5, rfl, hl6⟩ := len_inv hl5
  obtain ⟨zr, t6, rfl, hl7⟩ := len_inv hl6
  obtain ⟨kd, t7, rfl, hl8⟩ := len_inv hl7
  obtain ⟨fr, t8, rfl, hl9⟩ := len_inv hl8
  obtain ⟨to, t9, rfl, hl10⟩ := len_inv hl9
  obtain ⟨nu, t10, rfl, hl11⟩ := len_inv hl10
  obtain ⟨sg, t11, rfl, hl12⟩ := len_inv hl11
  obtain ⟨wo, t12, rfl, hl13⟩ := len_inv hl12
  have hl := List.eq_nil_of_length_eq_zero hl13
  subst hl
  have p1 := p_get3 (by decide) (fOk_hd hp)
  have p2 := p_get3 (by decide) (fOk_hd (fOk_tl hp))
  have p3 := p_get3 (by decide) (fOk_hd (fOk_tl (fOk_tl hp)))
  simp only [List.map, xv, fev, fvl, gtI, Int.one_mul, Int.add_zero, Int.zero_add] at p1 p2 p3
  have q := k_t_n2_3 (z := z) (n := n) (c := c) (w := w) (L := L) (zm := zm) (zr := zr) (kd := kd) (fr := fr) (to := to) (nu := nu) (sg := sg) (wo := wo) p1 p2 p3
  refine ⟨[], rfl, fOk_cons (p_put3 rfl (by decide) ?_) fOk_nil⟩ <;> simp only [List.map, xv, fev, fvl, gtI, Int.one_mul, Int.add_zero, Int.zero_add, List.append_nil]
  exact q
def r_t_n3 : eRul := (14, [xP 131 [xv 0, xv 1, ([], 3), xv 2, xv 3, xv 4, xv 5, xv 6, xv 7, xv 8, xv 9, xv 10, xv 11, xv 12], xP 79 [xv 7, xv 12, ([], 1)], xP 96 [xv 5, xv 6, ([], 13), ([], 2), xv 12, xv 13], xG (([(13, -1)], 0))], 0, [xP 132 [xv 0, xv 1, ([], 1), xv 9, xv 2, ([], 0), xv 4, xv 5, xv 6]])
theorem r_t_n3_ok : ruOk r_t_n3 := by
  intro ρ hl0 hp
  obtain ⟨z, t0, rfl, hl1⟩ := len_inv hl0
  obtain ⟨n, t1, rfl, hl2⟩ := len_inv hl1
  obtain ⟨c, t2, rfl, hl3⟩ := len_inv hl2
  obtain ⟨w, t3, rfl, hl4⟩ := len_inv hl3
  obtain ⟨L, t4, rfl, hl5⟩ := len_inv hl4
  obtain ⟨zm, t5, rfl, hl6⟩ := len_inv hl5
  obtain ⟨zr, t6, rfl, hl7⟩ := len_inv hl6
  obtain ⟨kd, t7, rfl, hl8⟩ := len_inv hl7
  obtain ⟨fr, t8, rfl, hl9⟩ := len_inv hl8
  obtain ⟨to, t9, rfl, hl10⟩ := len_inv hl9
  obtain ⟨nu, t10, rfl, hl11⟩ := len_inv hl10
  obtain ⟨sg, t11, rfl, hl12⟩ := len_inv hl11
  obtain ⟨wo, t12, rfl, hl13⟩ := len_inv hl12
  obtain ⟨i, t13, rfl, hl14⟩ := len_inv hl13
  have hl := List.eq_nil_of_length_eq_zero hl14
  subst hl
  have p1 := p_get3 (by decide) (fOk_hd hp)
  have p2 := p_get3 (by decide) (fOk_hd (fOk_tl hp))
  have p3 := p_get3 (by decide) (fOk_hd (fOk_tl (fOk_tl hp)))
  have p4 := gg_get (fOk_hd (fOk_tl (fOk_tl (fOk_tl hp))))
  simp only [List.map, xv, fev, fvl, gtI, Int.one_mul, Int.add_zero, Int.zero_add] at p1 p2 p3 p4
  have q := k_t_n3 (z := z) (n := n) (c := c) (w := w) (L := L) (zm := zm) (zr := zr) (kd := kd) (fr := fr) (to := to) (nu := nu) (sg := sg) (wo := wo) (i := i) p1 p2 p3 p4
  refine ⟨[], rfl, fOk_cons (p_put3 rfl (by decide) ?_) fOk_nil⟩ <;> simp only [List.map, xv, fev, fvl, gtI, Int.one_mul, Int.add_zero, Int.zero_add, List.append_nil]
  exact q
def r_t_n3_1 : eRul := (13, [xP 131 [xv 0, xv 1, ([], 3), xv 2, xv 3, xv 4, xv 5, xv 6, xv 7, xv 8, xv 9, xv 10, xv 11, xv 12], xP 79 [xv 7, xv 12, ([], 0)]], 0, [xP 135 [xv 0, xv 1, xv 5, xv 6, ([(8, -1)], -1), ([], 1)]])
theorem r_t_n3_1_ok : ruOk r_t_n3_1 := by
  intro ρ hl0 hp
  obtain ⟨z, t0, rfl, hl1⟩ := len_inv hl0
  obtain ⟨n, t1, rfl, hl2⟩ := len_inv hl1
  obtain ⟨c, t2, rfl, hl3⟩ := len_inv hl2
  obtain ⟨w, t3, rfl, hl4⟩ := len_inv hl3
  obtain ⟨L, t4, rfl, hl5⟩ := len_inv hl4
  obtain ⟨zm, t5, rfl, hl6⟩ := len_inv hl5
  obtain ⟨zr, t6, rfl, hl7⟩ := len_inv hl6
  obtain ⟨kd, t7, rfl, hl8⟩ := len_inv hl7
  obtain ⟨fr, t8, rfl, hl9⟩ := len_inv hl8
  obtain ⟨to, t9, rfl, hl10⟩ := len_inv hl9
  obtain ⟨nu, t10, rfl, hl11⟩ := len_inv hl10
  obtain ⟨sg, t11, rfl, hl12⟩ := len_inv hl11
  obtain ⟨wo, t12, rfl, hl13⟩ := len_inv hl12
  have hl := List.eq_nil_of_length_eq_zero hl13
  subst hl
  have p1 := p_get3 (by decide) (fOk_hd hp)
  have p2 := p_get3 (by decide) (fOk_hd (fOk_tl hp))
  simp only [List.map, xv, fev, fvl, gtI, Int.one_mul, Int.add_zero, Int.zero_add] at p1 p2
  have q := k_t_n3_1 (z := z) (n := n) (c := c) (w := w) (L := L) (zm := zm) (zr := zr) (kd := kd) (fr := fr) (to := to) (nu := nu) (sg := sg) (wo := wo) p1 p2
  refine ⟨[], rfl, fOk_cons (p_put3 rfl (by decide) ?_) fOk_nil⟩ <;> simp only [List.map, xv, fev, fvl, gtI, Int.one_mul, Int.add_zero, Int.zero_add, List.append_nil]
  exact q
def r_t_n3_3 : eRul := (13, [xP 131 [xv 0, xv 1, ([], 3), xv 2, xv 3, xv 4, xv 5, xv 6, xv 7, xv 8, xv 9, xv 10, xv 11, xv 12], xP 79 [xv 7, xv 12, ([], 1)], xP 96 [xv 5, xv 6, ([], 13), ([], 2), xv 12, ([], -1)]], 0, [xP 135 [xv 0, xv 1, xv 5, xv 6, ([(8, -1)], -1), ([], 3)]])
theorem r_t_n3_3_ok : ruOk r_t_n3_3 := by
  intro ρ hl0 hp
  obtain ⟨z, t0, rfl, hl1⟩ := len_inv hl0
  obtain ⟨n, t1, rfl, hl2⟩ := len_inv hl1
  obtain ⟨c, t2, rfl, hl3⟩ := len_inv hl2
  obtain ⟨w, t3, rfl, hl4⟩ := len_inv hl3
  obtain ⟨L, t4, rfl, hl5⟩ := len_inv hl4
  obtain ⟨zm, t5, rfl, hl6⟩ := len_inv hl5
  obtain ⟨zr, t6, rfl, hl7⟩ := len_inv hl6
  obtain ⟨kd, t7, rfl, hl8⟩ := len_inv hl7
  obtain ⟨fr, t8, rfl, hl9⟩ := len_inv hl8
  obtain ⟨to, t9, rfl, hl10⟩ := len_inv hl9
  obtain ⟨nu, t10, rfl, hl11⟩ := len_inv hl10
  obtain ⟨sg, t11, rfl, hl12⟩ := len_inv hl11
  obtain ⟨wo, t12, rfl, hl13⟩ := len_inv hl12
  have hl := List.eq_nil_of_length_eq_zero hl13
  subst hl
  have p1 := p_get3 (by decide) (fOk_hd hp)
  have p2 := p_get3 (by decide) (fOk_hd (fOk_tl hp))
  have p3 := p_get3 (by decide) (fOk_hd (fOk_tl (fOk_tl hp)))
  simp only [List.map, xv, fev, fvl, gtI, Int.one_mul, Int.add_zero, Int.zero_add] at p1 p2 p3
  have q := k_t_n3_3 (z := z) (n := n) (c := c) (w := w) (L := L) (zm := zm) (zr := zr) (kd := kd) (fr := fr) (to := to) (nu := nu) (sg := sg) (wo := wo) p1 p2 p3
  refine ⟨[], rfl, fOk_cons (p_put3 rfl (by decide) ?_) fOk_nil⟩ <;> simp only [List.map, xv, fev, fvl, gtI, Int.one_mul, Int.add_zero, Int.zero_add, List.append_nil]
  exact q
def r_t_sg : eRul := (14, [xP 131 [xv 0, xv 1, ([], 4), xv 2, xv 3, xv 4, xv 5, xv 6, xv 7, xv 8, xv 9, xv 10, xv 11, xv 12], xP 56 [xv 7, xv 11, xv 13, ([], 1)], (.inl [[(60, 62)]], [xv 13])], 0, [xP 132 [xv 0, xv 1, ([], 5), xv 9, xv 2, ([], 0), xv 4, xv 5, xv 6]])
theorem r_t_sg_ok : ruOk r_t_sg := by
  intro ρ hl0 hp
  obtain ⟨z, t0, rfl, hl1⟩ := len_inv hl0
  obtain ⟨n, t1, rfl, hl2⟩ := len_inv hl1
  obtain ⟨c, t2, rfl, hl3⟩ := len_inv hl2
  obtain ⟨w, t3, rfl, hl4⟩ := len_inv hl3
  obtain ⟨L, t4, rfl, hl5⟩ := len_inv hl4
  obtain ⟨zm, t5, rfl, hl6⟩ := len_inv hl5
  obtain ⟨zr, t6, rfl, hl7⟩ := len_inv hl6
  obtain ⟨kd, t7, rfl, hl8⟩ := len_inv hl7
  obtain ⟨fr, t8, rfl, hl9⟩ := len_inv hl8
  obtain ⟨to, t9, rfl, hl10⟩ := len_inv hl9
  obtain ⟨nu, t10, rfl, hl11⟩ := len_inv hl10
  obtain ⟨sg, t11, rfl, hl12⟩ := len_inv hl11
  obtain ⟨wo, t12, rfl, hl13⟩ := len_inv hl12
  obtain ⟨x, t13, rfl, hl14⟩ := len_inv hl13
  have hl := List.eq_nil_of_length_eq_zero hl14
  subst hl
  have p1 := p_get3 (by decide) (fOk_hd hp)
  have p2 := p_get3 (by decide) (fOk_hd (fOk_tl hp))
  have p3 := i_get (fOk_hd (fOk_tl (fOk_tl hp)))
  simp only [List.map, xv, fev, fvl, gtI, Int.one_mul, Int.add_zero, Int.zero_add] at p1 p2 p3
  have q := k_t_sg (z := z) (n := n) (c := c) (w := w) (L := L) (zm := zm) (zr := zr) (kd := kd) (fr := fr) (to := to) (nu := nu) (sg := sg) (wo := wo) (x := x) p1 p2 p3
  refine ⟨[], rfl, fOk_cons (p_put3 rfl (by decide) ?_) fOk_nil⟩ <;> simp only [List.map, xv, fev, fvl, gtI, Int.one_mul, Int.add_zero, Int.zero_add, List.append_nil]
  exact q
def r_t_sg_bad : eRul := (13, [xP 131 [xv 0, xv 1, ([], 4), xv 2, xv 3, xv 4, xv 5, xv 6, xv 7, xv 8, xv 9, xv 10, xv 11, xv 12], xP 56 [xv 7, xv 11, ([], 60), ([], 0)], xP 56 [xv 7, xv 11, ([], 61), ([], 0)], xP 56 [xv 7, xv 11, ([], 62), ([], 0)]], 0, [xP 135 [xv 0, xv 1, xv 5, xv 6, ([(8, -1)], -1), ([], 1)]])
theorem r_t_sg_bad_ok : ruOk r_t_sg_bad := by
  intro ρ hl0 hp
  obtain ⟨z, t0, rfl, hl1⟩ := len_inv hl0
  obtain ⟨n, t1, rfl, hl2⟩ := len_inv hl1
  obtain ⟨c, t2, rfl, hl3⟩ := len_inv hl2
  obtain ⟨w, t3, rfl, hl4⟩ := len_inv hl3
  obtain ⟨L, t4, rfl, hl5⟩ := len_inv hl4
  obtain ⟨zm, t5, rfl, hl6⟩ := len_inv hl5
  obtain ⟨zr, t6, rfl, hl7⟩ := len_inv hl6
  obtain ⟨kd, t7, rfl, hl8⟩ := len_inv hl7
  obtain ⟨fr, t8, rfl, hl9⟩ := len_inv hl8
  obtain ⟨to, t9, rfl, hl10⟩ := len_inv hl9
  obtain ⟨nu, t10, rfl, hl11⟩ := len_inv hl10
  obtain ⟨sg, t11, rfl, hl12⟩ := len_inv hl11
  obtain ⟨wo, t12, rfl, hl13⟩ := len_inv hl12
  have hl := List.eq_nil_of_length_eq_zero hl13
  subst hl
  have p1 := p_get3 (by decide) (fOk_hd hp)
  have p2 := p_get3 (by decide) (fOk_hd (fOk_tl hp))
  have p3 := p_get3 (by decide) (fOk_hd (fOk_tl (fOk_tl hp)))
  have p4 := p_get3 (by decide) (fOk_hd (fOk_tl (fOk_tl (fOk_tl hp))))
  simp only [List.map, xv, fev, fvl, gtI, Int.one_mul, Int.add_zero, Int.zero_add] at p1 p2 p3 p4
  have q := k_t_sg_bad (z := z) (n := n) (c := c) (w := w) (L := L) (zm := zm) (zr := zr) (kd := kd) (fr := fr) (to := to) (nu := nu) (sg := sg) (wo := wo) p1 p2 p3 p4
  refine ⟨[], rfl, fOk_cons (p_put3 rfl (by decide) ?_) fOk_nil⟩ <;> simp only [List.map, xv, fev, fvl, gtI, Int.one_mul, Int.add_zero, Int.zero_add, List.append_nil]
  exact q
def r_t_nu : eRul := (13, [xP 131 [xv 0, xv 1, ([], 5), xv 2, xv 3, xv 4, xv 5, xv 6, xv 7, xv 8, xv 9, xv 10, xv 11, xv 12], (.inl [[(3, 3)]], [xv 7])], 0, [xP 132 [xv 0, xv 1, ([], 1), xv 9, xv 2, ([], 0), xv 4, xv 5, xv 6]])
theorem r_t_nu_ok : ruOk r_t_nu := by
  intro ρ hl0 hp
  obtain ⟨z, t0, rfl, hl1⟩ := len_inv hl0
  obtain ⟨n, t1, rfl, hl2⟩ := len_inv hl1
  obtain ⟨c, t2, rfl, hl3⟩ := len_inv hl2
  obtain ⟨w, t3, rfl, hl4⟩ := len_inv hl3
  obtain ⟨L, t4, rfl, hl5⟩ := len_inv hl4
  obtain ⟨zm, t5, rfl, hl6⟩ := len_inv hl5
  obtain ⟨zr, t6, rfl, hl7⟩ := len_inv hl6
  obtain ⟨kd, t7, rfl, hl8⟩ := len_inv hl7
  obtain ⟨fr, t8, rfl, hl9⟩ := len_inv hl8
  obtain ⟨to, t9, rfl, hl10⟩ := len_inv hl9
  obtain ⟨nu, t10, rfl, hl11⟩ := len_inv hl10
  obtain ⟨sg, t11, rfl, hl12⟩ := len_inv hl11
  obtain ⟨wo, t12, rfl, hl13⟩ := len_inv hl12
  have hl := List.eq_nil_of_length_eq_zero hl13
  subst hl
  have p1 := p_get3 (by decide) (fOk_hd hp)
  have p2 := i_get (fOk_hd (fOk_tl hp))
  simp only [List.map, xv, fev, fvl, gtI, Int.one_mul, Int.add_zero, Int.zero_add] at p1 p2
  have q := k_t_nu (z := z) (n := n) (c := c) (w := w) (L := L) (zm := zm) (zr := zr) (kd := kd) (fr := fr) (to := to) (nu := nu) (sg := sg) (wo := wo) p1 p2
  refine ⟨[], rfl, fOk_cons (p_put3 rfl (by decide) ?_) fOk_nil⟩ <;> simp only [List.map, xv, fev, fvl, gtI, Int.one_mul, Int.add_zero, Int.zero_add, List.append_nil]
  exact q
def r_t_nu_bad : eRul := (13, [xP 131 [xv 0, xv 1, ([], 5), xv 2, xv 3, xv 4, xv 5, xv 6, xv 7, xv 8, xv 9, xv 10, xv 11, xv 12], xP 57 [xv 7]], 0, [xP 135 [xv 0, xv 1, xv 5, xv 6, ([(8, -1)], -1), ([], 1)]])
theorem r_t_nu_bad_ok : ruOk r_t_nu_bad := by
  intro ρ hl0 hp
  obtain ⟨z, t0, rfl, hl1⟩ := len_inv hl0
  obtain ⟨n, t1, rfl, hl2⟩ := len_inv hl1
  obtain ⟨c, t2, rfl, hl3⟩ := len_inv hl2
  obtain ⟨w, t3, rfl, hl4⟩ := len_inv hl3
  obtain ⟨L, t4, rfl, hl5⟩ := len_inv hl4
  obtain ⟨zm, t5, rfl, hl6⟩ := len_inv hl5
  obtain ⟨zr, t6, rfl, hl7⟩ := len_inv hl6
  obtain ⟨kd, t7, rfl, hl8⟩ := len_inv hl7
  obtain ⟨fr, t8, rfl, hl9⟩ := len_inv hl8
  obtain ⟨to, t9, rfl, hl10⟩ := len_inv hl9
  obtain ⟨nu, t10, rfl, hl11⟩ := len_inv hl10
  obtain ⟨sg, t11, rfl, hl12⟩ := len_inv hl11
  obtain ⟨wo, t12, rfl, hl13⟩ := len_inv hl12
  have hl := List.eq_nil_of_length_eq_zero hl13
  subst hl
  have p1 := p_get3 (by decide) (fOk_hd hp)
  have p2 := p_get3 (by decide) (fOk_hd (fOk_tl hp))
  simp only [List.map, xv, fev, fvl, gtI, Int.one_mul, Int.add_zero, Int.zero_add] at p1 p2
  have q := k_t_nu_bad (z := z) (n := n) (c := c) (w := w) (L := L) (zm := zm) (zr := zr) (kd := kd) (fr := fr) (to := to) (nu := nu) (sg := sg) (wo := wo) p1 p2
  refine ⟨[], rfl, fOk_cons (p_put3 rfl (by decide) ?_) fOk_nil⟩ <;> simp only [List.map, xv, fev, fvl, gtI, Int.one_mul, Int.add_zero, Int.zero_add, List.append_nil]
  exact q
def r_t_nu_x : eRul := (13, [xP 131 [xv 0, xv 1, ([], 5), xv 2, xv 3, xv 4, xv 5, xv 6, xv 7, xv 8, xv 9, xv 10, xv 11, xv 12], (.inl [[(3, 3)]], [xv 7]), xP 58 [xv 10, ([], 0), ([], 999), ([], 0)]], 0, [xG (([], 1))])
theorem r_t_nu_x_ok : ruOk r_t_nu_x := by
  intro ρ hl0 hp
  obtain ⟨z, t0, rfl, hl1⟩ := len_inv hl0
  obtain ⟨n, t1, rfl, hl2⟩ := len_inv hl1
  obtain ⟨c, t2, rfl, hl3⟩ := len_inv hl2
  obtain ⟨w, t3, rfl, hl4⟩ := len_inv hl3
  obtain ⟨L, t4, rfl, hl5⟩ := len_inv hl4
  obtain ⟨zm, t5, rfl, hl6⟩ := len_inv hl5
  obtain ⟨zr, t6, rfl, hl7⟩ := len_inv hl6
  obtain ⟨kd, t7, rfl, hl8⟩ := len_inv hl7
  obtain ⟨fr, t8, rfl, hl9⟩ := len_inv hl8
  obtain ⟨to, t9, rfl, hl10⟩ := len_inv hl9
  obtain ⟨nu, t10, rfl, hl11⟩ := len_inv hl10
  obtain ⟨sg, t11, rfl, hl12⟩ := len_inv hl11
  obtain ⟨wo, t12, rfl, hl13⟩ := len_inv hl12
  have hl := List.eq_nil_of_length_eq_zero hl13
  subst hl
  have p1 := p_get3 (by decide) (fOk_hd hp)
  have p2 := i_get (fOk_hd (fOk_tl hp))
  have p3 := p_get3 (by decide) (fOk_hd (fOk_tl (fOk_tl hp)))
  simp only [List.map, xv, fev, fvl, gtI, Int.one_mul, Int.add_zero, Int.zero_add] at p1 p2 p3
  exact (k_t_nu_x p1 p2 p3).elim
def r_b_init : eRul := (6, [xG (([(0, -1)], 0))], 0, [xP 140 [xv 1, xv 0, ([], 0), ([], 0), ([], 0), xv 2, xv 3, xv 4, xv 5]])
theorem r_b_init_ok : ruOk r_b_init := by
  intro ρ hl0 hp
  obtain ⟨n, t0, rfl, hl1⟩ := len_inv hl0
  obtain ⟨z, t1, rfl, hl2⟩ := len_inv hl1
  obtain ⟨zn, t2, rfl, hl3⟩ := len_inv hl2
  obtain ⟨h, t3, rfl, hl4⟩ := len_inv hl3
  obtain ⟨r, t4, rfl, hl5⟩ := len_inv hl4
  obtain ⟨g, t5, rfl, hl6⟩ := len_inv hl5
  have hl := List.eq_nil_of_length_eq_zero hl6
  subst hl
  have p1 := gg_get (fOk_hd hp)
  simp only [List.map, xv, fev, fvl, gtI, Int.one_mul, Int.add_zero, Int.zero_add] at p1
  have q := k_b_init (n := n) (z := z) (zn := zn) (h := h) (r := r) (g := g) p1
  refine ⟨[], rfl, fOk_cons (p_put3 rfl (by decide) ?_) fOk_nil⟩ <;> simp only [List.map, xv, fev, fvl, gtI, Int.one_mul, Int.add_zero, Int.zero_add, List.append_nil]
  exact q
def r_b_tok : eRul := (15, [xP 140 [xv 0, xv 1, xv 2, xv 3, xv 4, xv 5, xv 6, xv 7, xv 8], xP 53 [xv 0, xv 1, ([], 400), xv 3, xv 9, xv 10, xv 11, xv 12, xv 13, xv 14]], 0, [xP 143 [xv 0, xv 1, xv 2, xv 4, xv 5, xv 6, xv 7, xv 8, xv 9, xv 10, xv 11, xv 12, xv 13, xv 14]])
theorem r_b_tok_ok : ruOk r_b_tok := by
  intro ρ hl0 hp
  obtain ⟨z, t0, rfl, hl1⟩ := len_inv hl0
  obtain ⟨n, t1, rfl, hl2⟩ := len_inv hl1
  obtain ⟨q, t2, rfl, hl3⟩ := len_inv hl2
  obtain ⟨p, t3, rfl, hl4⟩ := len_inv hl3
  obtain ⟨k, t4, rfl, hl5⟩ := len_inv hl4
  obtain ⟨zn, t5, rfl, hl6⟩ := len_inv hl5
  obtain ⟨h, t6, rfl, hl7⟩ := len_inv hl6
  obtain ⟨r, t7, rfl, hl8⟩ := len_inv hl7
  obtain ⟨g, t8, rfl, hl9⟩ := len_inv hl8
  obtain ⟨kd, t9, rfl, hl10⟩ := len_inv hl9
  obtain ⟨pl, t10, rfl, hl11⟩ := len_inv hl10
  obtain ⟨fi, t11, rfl, hl12⟩ := len_inv hl11
  obtain ⟨kw, t12, rfl, hl13⟩ := len_inv hl12
  obtain ⟨va, t13, rfl, hl14⟩ := len_inv hl13
  obtain ⟨wo, t14, rfl, hl15⟩ := len_inv hl14
  have hl := List.eq_nil_of_length_eq_zero hl15
  subst hl
  have p1 := p_get3 (by decide) (fOk_hd hp)
  have p2 := p_get3 (by decide) (fOk_hd (fOk_tl hp))
  simp only [List.map, xv, fev, fvl, gtI, Int.one_mul, Int.add_zero, Int.zero_add] at p1 p2
  have q := k_b_tok (z := z) (n := n) (q := q) (p := p) (k := k) (zn := zn) (h := h) (r := r) (g := g) (kd := kd) (pl := pl) (fi := fi) (kw := kw) (va := va) (wo := wo) p1 p2
  refine ⟨[], rfl, fOk_cons (p_put3 rfl (by decide) ?_) fOk_nil⟩ <;> simp only [List.map, xv, fev, fvl, gtI, Int.one_mul, Int.add_zero, Int.zero_add, List.append_nil]
  exact q
def r_b_end : eRul := (13, [xP 143 [xv 0, xv 1, ([], 0), xv 2, xv 3, xv 4, xv 5, xv 6, xv 7, xv 8, xv 9, xv 10, xv 11, xv 12], (.inl [[(1, 1)]], [xv 7])], 0, [xP 144 [xv 0, xv 1, xv 3, xv 4, xv 5, xv 6, xv 2, ([], 0)]])
theorem r_b_end_ok : ruOk r_b_end := by
  intro ρ hl0 hp
  obtain ⟨z, t0, rfl, hl1⟩ := len_inv hl0
  obtain ⟨n, t1, rfl, hl2⟩ := len_inv hl1
  obtain ⟨k, t2, rfl, hl3⟩ := len_inv hl2
  obtain ⟨zn, t3, rfl, hl4⟩ := len_inv hl3
  obtain ⟨h, t4, rfl, hl5⟩ := len_inv hl4
  obtain ⟨r, t5, rfl, hl6⟩ := len_inv hl5
  obtain ⟨g, t6, rfl, hl7⟩ := len_inv hl6
  obtain ⟨kd, t7, rfl, hl8⟩ := len_inv hl7
  obtain ⟨pl, t8, rfl, hl9⟩ := len_inv hl8
  obtain ⟨fi, t9, rfl, hl10⟩ := len_inv hl9
  obtain ⟨kw, t10, rfl, hl11⟩ := len_inv hl10
  obtain ⟨va, t11, rfl, hl12⟩ := len_inv hl11
  obtain ⟨wo, t12, rfl, hl13⟩ := len_inv hl12
  have hl := List.eq_nil_of_length_eq_zero hl13
  subst hl
  have p1 := p_get3 (by decide) (fOk_hd hp)
  have p2 := i_get (fOk_hd (fOk_tl hp))
  simp only [List.map, xv, fev, fvl, gtI, Int.one_mul, Int.add_zero, Int.zero_add] at p1 p2
  have q := k_b_end (z := z) (n := n) (k := k) (zn := zn) (h := h) (r := r) (g := g) (kd := kd) (pl := pl) (fi := fi) (kw := kw) (va := va) (wo := wo) p1 p2
  refine ⟨[], rfl, fOk_cons (p_put3 rfl (by decide) ?_) fOk_nil⟩ <;> simp only [List.map, xv, fev, fvl, gtI, Int.one_mul, Int.add_zero, Int.zero_add, List.append_nil]
  exact q
def r_b_k11 : eRul := (13, [xP 143 [xv 0, xv 1, ([], 0), xv 2, xv 3, xv 4, xv 5, xv 6, xv 7, xv 8, xv 9, xv 10, xv 11, xv 12], (.inl [[(11, 11)]], [xv 10]), xG (([(2, 1)], -39))], 0, [xP 140 [xv 0, xv 1, ([], 1), xv 9, xv 2, xv 3, xv 4, xv 5, xv 6]])
theorem r_b_k11_ok : ruOk r_b_k11 := by
  intro ρ hl0 hp
  obtain ⟨z, t0, rfl, hl1⟩ := len_inv hl0
  obtain ⟨n, t1, rfl, hl2⟩ := len_inv hl1
  obtain ⟨k, t2, rfl, hl3⟩ := len_inv hl2
  obtain ⟨zn, t3, rfl, hl4⟩ := len_inv hl3
  obtain ⟨h, t4, rfl, hl5⟩ := len_inv hl4
  obtain ⟨r, t5, rfl, hl6⟩ := len_inv hl5
  obtain ⟨g, t6, rfl, hl7⟩ := len_inv hl6
  obtain ⟨kd, t7, rfl, hl8⟩ := len_inv hl7
  obtain ⟨pl, t8, rfl, hl9⟩ := len_inv hl8
  obtain ⟨fi, t9, rfl, hl10⟩ := len_inv hl9
  obtain ⟨kw, t10, rfl, hl11⟩ := len_inv hl10
  obtain ⟨va, t11, rfl, hl12⟩ := len_inv hl11
  obtain ⟨wo, t12, rfl, hl13⟩ := len_inv hl12
  have hl := List.eq_nil_of_length_eq_zero hl13
  subst hl
  have p1 := p_get3 (by decide) (fOk_hd hp)
  have p2 := i_get (fOk_hd (fOk_tl hp))
  have p3 := gg_get (fOk_hd (fOk_tl (fOk_tl hp)))
  simp only [List.map, xv, fev, fvl, gtI, Int.one_mul, Int.add_zero, Int.zero_add] at p1 p2 p3
  have q := k_b_k11 (z := z) (n := n) (k := k) (zn := zn) (h := h) (r := r) (g := g) (kd := kd) (pl := pl) (fi := fi) (kw := kw) (va := va) (wo := wo) p1 p2 p3
  refine ⟨[], rfl, fOk_cons (p_put3 rfl (by decide) ?_) fOk_nil⟩ <;> simp only [List.map, xv, fev, fvl, gtI, Int.one_mul, Int.add_zero, Int.zero_add, List.append_nil]
  exact q
def r_b_m11 : eRul := (13, [xP 143 [xv 0, xv 1, ([], 0), xv 2, xv 3, xv 4, xv 5, xv 6, xv 7, xv 8, xv 9, xv 10, xv 11, xv 12], (.inl [[(11, 11)]], [xv 10]), xG (([(2, -1)], 40))], 0, [xP 144 [xv 0, xv 1, xv 3, xv 4, xv 5, xv 6, ([(8, -1)], -1), ([], 4)]])
theorem r_b_m11_ok : ruOk r_b_m11 := by
  intro ρ hl0 hp
  obtain ⟨z, t0, rfl, hl1⟩ := len_inv hl0
  obtain ⟨n, t1, rfl, hl2⟩ := len_inv hl1
  obtain ⟨k, t2, rfl, hl3⟩ := len_inv hl2
  obtain ⟨zn, t3, rfl, hl4⟩ := len_inv hl3
  obtain ⟨h, t4, rfl, hl5⟩ := len_inv hl4
  obtain ⟨r, t5, rfl, hl6⟩ := len_inv hl5
  obtain ⟨g, t6, rfl, hl7⟩ := len_inv hl6
  obtain ⟨kd, t7, rfl, hl8⟩ := len_inv hl7
  obtain ⟨pl, t8, rfl, hl9⟩ := len_inv hl8
  obtain ⟨fi, t9, rfl, hl10⟩ := len_inv hl9
  obtain ⟨kw, t10, rfl, hl11⟩ := len_inv hl10
  obtain ⟨va, t11, rfl, hl12⟩ := len_inv hl11
  obtain ⟨wo, t12, rfl, hl13⟩ := len_inv hl12
  have hl := List.eq_nil_of_length_eq_zero hl13
  subst hl
  have p1 := p_get3 (by decide) (fOk_hd hp)
  have p2 := i_get (fOk_hd (fOk_tl hp))
  have p3 := gg_get (fOk_hd (fOk_tl (fOk_tl hp)))
  simp only [List.map, xv, fev, fvl, gtI, Int.one_mul, Int.add_zero, Int.zero_add] at p1 p2 p3
  have q := k_b_m11 (z := z) (n := n) (k := k) (zn := zn) (h := h) (r := r) (g := g) (kd := kd) (pl := pl) (fi := fi) (kw := kw) (va := va) (wo := wo) p1 p2 p3
  refine ⟨[], rfl, fOk_cons (p_put3 rfl (by decide) ?_) fOk_nil⟩ <;> simp only [List.map, xv, fev, fvl, gtI, Int.one_mul, Int.add_zero, Int.zero_add, List.append_nil]
  exact q
def r_b_k12 : eRul := (13, [xP 143 [xv 0, xv 1, ([], 0), xv 2, xv 3, xv 4, xv 5, xv 6, xv 7, xv 8, xv 9, xv 10, xv 11, xv 12], (.inl [[(12, 12)]], [xv 10]), xG (([(2, 1)], -39))], 0, [xP 140 [xv 0, xv 1, ([], 2), xv 9, xv 2, xv 3, xv 4, xv 5, xv 6]])
theorem r_b_k12_ok : ruOk r_b_k12 := by
  intro ρ hl0 hp
  obtain ⟨z, t0, rfl, hl1⟩ := len_inv hl0
  obtain ⟨n, t1, rfl, hl2⟩ := len_inv hl1
  obtain ⟨k, t2, rfl, hl3⟩ := len_inv hl2
  obtain ⟨zn, t3, rfl, hl4⟩ := len_inv hl3
  obtain ⟨h, t4, rfl, hl5⟩ := len_inv hl4
  obtain ⟨r, t5, rfl, hl6⟩ := len_inv hl5
  obtain ⟨g, t6, rfl, hl7⟩ := len_inv hl6
  obtain ⟨kd, t7, rfl, hl8⟩ := len_inv hl7
  obtain ⟨pl, t8, rfl, hl9⟩ := len_inv hl8
  obtain ⟨fi, t9, rfl, hl10⟩ := len_inv hl9
  obtain ⟨kw, t10, rfl, hl11⟩ := len_inv hl10
  obtain ⟨va, t11, rfl, hl12⟩ := len_inv hl11
  obtain ⟨wo, t12, rfl, hl13⟩ := len_inv hl12
  have hl := List.eq_nil_of_length_eq_zero hl13
  subst hl
  have p1 := p_get3 (by decide) (fOk_hd hp)
  have p2 := i_get (fOk_hd (fOk_tl hp))
  have p3 := gg_get (fOk_hd (fOk_tl (fOk_tl hp)))
  simp only [List.map, xv, fev, fvl, gtI, Int.one_mul, Int.add_zero, Int.zero_add] at p1 p2 p3
  have q := k_b_k12 (z := z) (n := n) (k := k) (zn := zn) (h := h) (r := r) (g := g) (kd := kd) (pl := pl) (fi := fi) (kw := kw) (va := va) (wo := wo) p1 p2 p3
  refine ⟨[], rfl, fOk_cons (p_put3 rfl (by decide) ?_) fOk_nil⟩ <;> simp only [List.map, xv, fev, fvl, gtI, Int.one_mul, Int.add_zero, Int.zero_add, List.append_nil]
  exact q
def r_b_m12 : eRul := (13, [xP 143 [xv 0, xv 1, ([], 0), xv 2, xv 3, xv 4, xv 5, xv 6, xv 7, xv 8, xv 9, xv 10, xv 11, xv 12], (.inl [[(12, 12)]], [xv 10]), xG (([(2, -1)], 40))], 0, [xP 144 [xv 0, xv 1, xv 3, xv 4, xv 5, xv 6, ([(8, -1)], -1), ([], 4)]])
theorem r_b_m12_ok : ruOk r_b_m12 := by
  intro ρ hl0 hp
  obtain ⟨z, t0, rfl, hl1⟩ := len_inv hl0
  obtain ⟨n, t1, rfl, hl2⟩ := len_inv hl1
  obtain ⟨k, t2, rfl, hl3⟩ := len_inv hl2
  obtain ⟨zn, t3, rfl, hl4⟩ := len_inv hl3
  obtain ⟨h, t4, rfl, hl5⟩ := len_inv hl4
  obtain ⟨r, t5, rfl, hl6⟩ := len_inv hl5
  obtain ⟨g, t6, rfl, hl7⟩ := len_inv hl6
  obtain ⟨kd, t7, rfl, hl8⟩ := len_inv hl7
  obtain ⟨pl, t8, rfl, hl9⟩ := len_inv hl8
  obtain ⟨fi, t9, rfl, hl10⟩ := len_inv hl9
  obtain ⟨kw, t10, rfl, hl11⟩ := len_inv hl10
  obtain ⟨va, t11, rfl, hl12⟩ := len_inv hl11
  obtain ⟨wo, t12, rfl, hl13⟩ := len_inv hl12
  have hl := List.eq_nil_of_length_eq_zero hl13
  subst hl
  have p1 := p_get3 (by decide) (fOk_hd hp)
  have p2 := i_get (fOk_hd (fOk_tl hp))
  have p3 := gg_get (fOk_hd (fOk_tl (fOk_tl hp)))
  simp only [List.map, xv, fev, fvl, gtI, Int.one_mul, Int.add_zero, Int.zero_add] at p1 p2 p3
  have q := k_b_m12 (z := z) (n := n) (k := k) (zn := zn) (h := h) (r := r) (g := g) (kd := kd) (pl := pl) (fi := fi) (kw := kw) (va := va) (wo := wo) p1 p2 p3
  refine ⟨[], rfl, fOk_cons (p_put3 rfl (by decide) ?_) fOk_nil⟩ <;> simp only [List.map, xv, fev, fvl, gtI, Int.one_mul, Int.add_zero, Int.zero_add, List.append_nil]
  exact q
def r_b_g : eRul := (14, [xP 143 [xv 0, xv 1, ([], 0), xv 2, xv 3, xv 4, xv 5, xv 6, xv 7, xv 8, xv 9, xv 10, xv 11, xv 12], xP 55 [xv 7, xv 10, ([], 1)], xP 61 [xv 3, ([], 13), xv 6, xv 12, xv 13], xG (([(13, -1)], 0)), xG (([(2, 1)], -39))], 0, [xP 140 [xv 0, xv 1, ([], 3), xv 9, xv 2, xv 3, xv 4, xv 5, xv 6]])
theorem r_b_g_ok : ruOk r_b_g := by
  intro ρ hl0 hp
  obtain ⟨z, t0, rfl, hl1⟩ := len_inv hl0
  obtain ⟨n, t1, rfl, hl2⟩ := len_inv hl1
  obtain ⟨k, t2, rfl, hl3⟩ := len_inv hl2
  obtain ⟨zn, t3, rfl, hl4⟩ := len_inv hl3
  obtain ⟨h, t4, rfl, hl5⟩ := len_inv hl4
  obtain ⟨r, t5, rfl, hl6⟩ := len_inv hl5
  obtain ⟨g, t6, rfl, hl7⟩ := len_inv hl6
  obtain ⟨kd, t7, rfl, hl8⟩ := len_inv hl7
  obtain ⟨pl, t8, rfl, hl9⟩ := len_inv hl8
  obtain ⟨fi, t9, rfl, hl10⟩ := len_inv hl9
  obtain ⟨kw, t10, rfl, hl11⟩ := len_inv hl10
  obtain ⟨va, t11, rfl, hl12⟩ := len_inv hl11
  obtain ⟨wo, t12, rfl, hl13⟩ := len_inv hl12
  obtain ⟨i, t13, rfl, hl14⟩ := len_inv hl13
  have hl := List.eq_nil_of_length_eq_zero hl14
  subst hl
  have p1 := p_get3 (by decide) (fOk_hd hp)
  have p2 := p_get3 (by decide) (fOk_hd (fOk_tl hp))
  have p3 := p_get3 (by decide) (fOk_hd (fOk_tl (fOk_tl hp)))
  have p4 := gg_get (fOk_hd (fOk_tl (fOk_tl (fOk_tl hp))))
  have p5 := gg_get (fOk_hd (fOk_tl (fOk_tl (fOk_tl (fOk_tl hp)))))
  simp only [List.map, xv, fev, fvl, gtI, Int.one_mul, Int.add_zero, Int.zero_add] at p1 p2 p3 p4 p5
  have q := k_b_g (z := z) (n := n) (k := k) (zn := zn) (h := h) (r := r) (g := g) (kd := kd) (pl := pl) (fi := fi) (kw := kw) (va := va) (wo := wo) (i := i) p1 p2 p3 p4 p5
  refine ⟨[], rfl, fOk_cons (p_put3 rfl (by decide) ?_) fOk_nil⟩ <;> simp only [List.map, xv, fev, fvl, gtI, Int.one_mul, Int.add_zero, Int.zero_add, List.append_nil]
  exact q
def r_b_g1 : eRul := (13, [xP 143 [xv 0, xv 1, ([], 0), xv 2, xv 3, xv 4, xv 5, xv 6, xv 7, xv 8, xv 9, xv 10, xv 11, xv 12], xP 85 [xv 7], xP 137 [xv 10, ([], 11)], xP 137 [xv 10, ([], 12)], xP 55 [xv 7, xv 10, ([], 0)]], 0, [xP 144 [xv 0, xv 1, xv 3, xv 4, xv 5, xv 6, ([(8, -1)], -1), ([], 1)]])
theorem r_b_g1_ok : ruOk r_b_g1 := by
  intro ρ hl0 hp
  obtain ⟨z, t0, rfl, hl1⟩ := len_inv hl0
  obtain ⟨n, t1, rfl, hl2⟩ := len_inv hl1
  obtain ⟨k, t2, rfl, hl3⟩ := len_inv hl2
  obtain ⟨zn, t3, rfl, hl4⟩ := len_inv hl3
  obtain ⟨h, t4, rfl, hl5⟩ := len_inv hl4
  obtain ⟨r, t5, rfl, hl6⟩ := len_inv hl5
  obtain ⟨g, t6, rfl, hl7⟩ := len_inv hl6
  obtain ⟨kd, t7, rfl, hl8⟩ := len_inv hl7
  obtain ⟨pl, t8, rfl, hl9⟩ := len_inv hl8
  obtain ⟨fi, t9, rfl, hl10⟩ := len_inv hl9
  obtain ⟨kw, t10, rfl, hl11⟩ := len_inv hl10
  obtain ⟨va, t11, rfl, hl12⟩ := len_inv hl11
  obtain ⟨wo, t12, rfl, hl13⟩ := len_inv hl12
  have hl := List.eq_nil_of_length_eq_zero hl13
  subst hl
  have p1 := p_get3 (by decide) (fOk_hd hp)
  have p2 := p_get3 (by decide) (fOk_hd (fOk_tl hp))
  have p3 := p_get3 (by decide) (fOk_hd (fOk_tl (fOk_tl hp)))
  have p4 := p_get3 (by decide) (fOk_hd (fOk_tl (fOk_tl (fOk_tl hp))))
  have p5 := p_get3 (by decide) (fOk_hd (fOk_tl (fOk_tl (fOk_tl (fOk_tl hp)))))
  simp only [List.map, xv, fev, fvl, gtI, Int.one_mul, Int.add_zero, Int.zero_add] at p1 p2 p3 p4 p5
  have q := k_b_g1 (z := z) (n := n) (k := k) (zn := zn) (h := h) (r := r) (g := g) (kd := kd) (pl := pl) (fi := fi) (kw := kw) (va := va) (wo := wo) p1 p2 p3 p4 p5
  refine ⟨[], rfl, fOk_cons (p_put3 rfl (by decide) ?_) fOk_nil⟩ <;> simp only [List.map, xv, fev, fvl, gtI, Int.one_mul, Int.add_zero, Int.zero_add, List.append_nil]
  exact q
def r_b_g3 : eRul := (13, [xP 143 [xv 0, xv 1, ([], 0), xv 2, xv 3, xv 4, xv 5, xv 6, xv 7, xv 8, xv 9, xv 10, xv 11, xv 12], xP 55 [xv 7, xv 10, ([], 1)], xP 61 [xv 3, ([], 13), xv 6, xv 12, ([], -1)]], 0, [xP 144 [xv 0, xv 1, xv 3, xv 4, xv 5, xv 6, ([(8, -1)], -1), ([], 3)]])
theorem r_b_g3_ok : ruOk r_b_g3 := by
  intro ρ hl0 hp
  obtain ⟨z, t0, rfl, hl1⟩ := len_inv hl0
  obtain ⟨n, t1, rfl, hl2⟩ := len_inv hl1
  obtain ⟨k, t2, rfl, hl3⟩ := len_inv hl2
  obtain ⟨zn, t3, rfl, hl4⟩ := len_inv hl3
  obtain ⟨h, t4, rfl, hl5⟩ := len_inv hl4
  obtain ⟨r, t5, rfl, hl6⟩ := len_inv hl5
  obtain ⟨g, t6, rfl, hl7⟩ := len_inv hl6
  obtain ⟨kd, t7, rfl, hl8⟩ := len_inv hl7
  obtain ⟨pl, t8, rfl, hl9⟩ := len_inv hl8
  obtain ⟨fi, t9, rfl, hl10⟩ := len_inv hl9
  obtain ⟨kw, t10, rfl, hl11⟩ := len_inv hl10
  obtain ⟨va, t11, rfl, hl12⟩ := len_inv hl11
  obtain ⟨wo, t12, rfl, hl13⟩ := len_inv hl12
  have hl := List.eq_nil_of_length_eq_zero hl13
  subst hl
  have p1 := p_get3 (by decide) (fOk_hd hp)
  have p2 := p_get3 (by decide) (fOk_hd (fOk_tl hp))
  have p3 := p_get3 (by decide) (fOk_hd (fOk_tl (fOk_tl hp)))
  simp only [List.map, xv, fev, fvl, gtI, Int.one_mul, Int.add_zero, Int.zero_add] at p1 p2 p3
  have q := k_b_g3 (z := z) (n := n) (k := k) (zn := zn) (h := h) (r := r) (g := g) (kd := kd) (pl := pl) (fi := fi) (kw := kw) (va := va) (wo := wo) p1 p2 p3
  refine ⟨[], rfl, fOk_cons (p_put3 rfl (by decide) ?_) fOk_nil⟩ <;> simp only [List.map, xv, fev, fvl, gtI, Int.one_mul, Int.add_zero, Int.zero_add, List.append_nil]
  exact q
def r_b_g4 : eRul := (14, [xP 143 [xv 0, xv 1, ([], 0), xv 2, xv 3, xv 4, xv 5, xv 6, xv 7, xv 8, xv 9, xv 10, xv 11, xv 12], xP 55 [xv 7, xv 10, ([], 1)], xP 61 [xv 3, ([], 13), xv 6, xv 12, xv 13], xG (([(13, -1)], 0)), xG (([(2, -1)], 40))], 0, [xP 144 [xv 0, xv 1, xv 3, xv 4, xv 5, xv 6, ([(8, -1)], -1), ([], 4)]])
theorem r_b_g4_ok : ruOk r_b_g4 := by
  intro ρ hl0 hp
  obtain ⟨z, t0, rfl, hl1⟩ := len_inv hl0
  obtain ⟨n, t1, rfl, hl2⟩ := len_inv hl1
  obtain ⟨k, t2, rfl, hl3⟩ := len_inv hl2
  obtain ⟨zn, t3, rfl, hl4⟩ := len_inv hl3
  obtain ⟨h, t4, rfl, hl5⟩ := len_inv hl4
  obtain ⟨r, t5, rfl, hl6⟩ := len_inv hl5
  obtain ⟨g, t6, rfl, hl7⟩ := len_inv hl6
  obtain ⟨kd, t7, rfl, hl8⟩ := len_inv hl7
  obtain ⟨pl, t8, rfl, hl9⟩ := len_inv hl8
  obtain ⟨fi, t9, rfl, hl10⟩ := len_inv hl9
  obtain ⟨kw, t10, rfl, hl11⟩ := len_inv hl10
  obtain ⟨va, t11, rfl, hl12⟩ := len_inv hl11
  obtain ⟨wo, t12, rfl, hl13⟩ := len_inv hl12
  obtain ⟨i, t13, rfl, hl14⟩ := len_inv hl13
  have hl := List.eq_nil_of_length_eq_zero hl14
  subst hl
  have p1 := p_get3 (by decide) (fOk_hd hp)
  have p2 := p_get3 (by decide) (fOk_hd (fOk_tl hp))
  have p3 := p_get3 (by decide) (fOk_hd (fOk_tl (fOk_tl hp)))
  have p4 := gg_get (fOk_hd (fOk_tl (fOk_tl (fOk_tl hp))))
  have p5 := gg_get (fOk_hd (fOk_tl (fOk_tl (fOk_tl (fOk_tl hp)))))
  simp only [List.map, xv, fev, fvl, gtI, Int.one_mul, Int.add_zero, Int.zero_add] at p1 p2 p3 p4 p5
  have q := k_b_g4 (z := z) (n := n) (k := k) (zn := zn) (h := h) (r := r) (g := g) (kd := kd) (pl := pl) (fi := fi) (kw := kw) (va := va) (wo := wo) (i := i) p1 p2 p3 p4 p5
  refine ⟨[], rfl, fOk_cons (p_put3 rfl (by decide) ?_) fOk_nil⟩ <;> simp only [List.map, xv, fev, fvl, gtI, Int.one_mul, Int.add_zero, Int.zero_add, List.append_nil]
  exact q
def r_b_n1 : eRul := (13, [xP 143 [xv 0, xv 1, ([], 1), xv 2, xv 3, xv 4, xv 5, xv 6, xv 7, xv 8, xv 9, xv 10, xv 11, xv 12], (.inl [[(3, 3)]], [xv 7]), (.inl [[(0, 5)]], [xv 11])], 0, [xP 140 [xv 0, xv 1, ([], 6), xv 9, xv 2, xv 3, xv 4, xv 5, xv 6]])
theorem r_b_n1_ok : ruOk r_b_n1 := by
  intro ρ hl0 hp
  obtain ⟨z, t0, rfl, hl1⟩ := len_inv hl0
  obtain ⟨n, t1, rfl, hl2⟩ := len_inv hl1
  obtain ⟨k, t2, rfl, hl3⟩ := len_inv hl2
  obtain ⟨zn, t3, rfl, hl4⟩ := len_inv hl3
  obtain ⟨h, t4, rfl, hl5⟩ := len_inv hl4
  obtain ⟨r, t5, rfl, hl6⟩ := len_inv hl5
  obtain ⟨g, t6, rfl, hl7⟩ := len_inv hl6
  obtain ⟨kd, t7, rfl, hl8⟩ := len_inv hl7
  obtain ⟨pl, t8, rfl, hl9⟩ := len_inv hl8
  obtain ⟨fi, t9, rfl, hl10⟩ := len_inv hl9
  obtain ⟨kw, t10, rfl, hl11⟩ := len_inv hl10
  obtain ⟨va, t11, rfl, hl12⟩ := len_inv hl11
  obtain ⟨wo, t12, rfl, hl13⟩ := len_inv hl12
  have hl := List.eq_nil_of_length_eq_zero hl13
  subst hl
  have p1 := p_get3 (by decide) (fOk_hd hp)
  have p2 := i_get (fOk_hd (fOk_tl hp))
  have p3 := i_get (fOk_hd (fOk_tl (fOk_tl hp)))
  simp only [List.map, xv, fev, fvl, gtI, Int.one_mul, Int.add_zero, Int.zero_add] at p1 p2 p3
  have q := k_b_n1 (z := z) (n := n) (k := k) (zn := zn) (h := h) (r := r) (g := g) (kd := kd) (pl := pl) (fi := fi) (kw := kw) (va := va) (wo := wo) p1 p2 p3
  refine ⟨[], rfl, fOk_cons (p_put3 rfl (by decide) ?_) fOk_nil⟩ <;> simp only [List.map, xv, fev, fvl, gtI, Int.one_mul, Int.add_zero, Int.zero_add, List.append_nil]
  exact q
def r_b_n1_1 : eRul := (13, [xP 143 [xv 0, xv 1, ([], 1), xv 2, xv 3, xv 4, xv 5, xv 6, xv 7, xv 8, xv 9, xv 10, xv 11, xv 12], xP 57 [xv 7]], 0, [xP 144 [xv 0, xv 1, xv 3, xv 4, xv 5, xv 6, ([(8, -1)], -1), ([], 1)]])
theorem r_b_n1_1_ok : ruOk r_b_n1_1 := by
  intro ρ hl0 hp
  obtain ⟨z, t0, rfl, hl1⟩ := len_inv hl0
  obtain ⟨n, t1, rfl, hl2⟩ := len_inv hl1
  obtain ⟨k, t2, rfl, hl3⟩ := len_inv hl2
  obtain ⟨zn, t3, rfl, hl4⟩ := len_inv hl3
  obtain ⟨h, t4, rfl, hl5⟩ := len_inv hl4
  obtain ⟨r, t5, rfl, hl6⟩ := len_inv hl5
  obtain ⟨g, t6, rfl, hl7⟩ := len_inv hl6
  obtain ⟨kd, t7, rfl, hl8⟩ := len_inv hl7
  obtain ⟨pl, t8, rfl, hl9⟩ := len_inv hl8
  obtain ⟨fi, t9, rfl, hl10⟩ := len_inv hl9
  obtain ⟨kw, t10, rfl, hl11⟩ := len_inv hl10
  obtain ⟨va, t11, rfl, hl12⟩ := len_inv hl11
  obtain ⟨wo, t12, rfl, hl13⟩ := len_inv hl12
  have hl := List.eq_nil_of_length_eq_zero hl13
  subst hl
  have p1 := p_get3 (by decide) (fOk_hd hp)
  have p2 := p_get3 (by decide) (fOk_hd (fOk_tl hp))
  simp only [List.map, xv, fev, fvl, gtI, Int.one_mul, Int.add_zero, Int.zero_add] at p1 p2
  have q := k_b_n1_1 (z := z) (n := n) (k := k) (zn := zn) (h := h) (r := r) (g := g) (kd := kd) (pl := pl) (fi := fi) (kw := kw) (va := va) (wo := wo) p1 p2
  refine ⟨[], rfl, fOk_cons (p_put3 rfl (by decide) ?_) fOk_nil⟩ <;> simp only [List.map, xv, fev, fvl, gtI, Int.one_mul, Int.add_zero, Int.zero_add, List.append_nil]
  exact q
def r_b_n1_2 : eRul := (13, [xP 143 [xv 0, xv 1, ([], 1), xv 2, xv 3, xv 4, xv 5, xv 6, xv 7, xv 8, xv 9, xv 10, xv 11, xv 12], (.inl [[(3, 3)]], [xv 7]), xP 58 [xv 11, ([], 0), ([], 5), ([], 0)]], 0, [xP 144 [xv 0, xv 1, xv 3, xv 4, xv 5, xv 6, ([(8, -1)], -1), ([], 2)]])
theorem r_b_n1_2_ok : ruOk r_b_n1_2 := by
  intro ρ hl0 hp
  obtain ⟨z, t0, rfl, hl1⟩ := len_inv hl0
  obtain ⟨n, t1, rfl, hl2⟩ := len_inv hl1
  obtain ⟨k, t2, rfl, hl3⟩ := len_inv hl2
  obtain ⟨zn, t3, rfl, hl4⟩ := len_inv hl3
  obtain ⟨h, t4, rfl, hl5⟩ := len_inv hl4
  obtain ⟨r, t5, rfl, hl6⟩ := len_inv hl5
  obtain ⟨g, t6, rfl, hl7⟩ := len_inv hl6
  obtain ⟨kd, t7, rfl, hl8⟩ := len_inv hl7
  obtain ⟨pl, t8, rfl, hl9⟩ := len_inv hl8
  obtain ⟨fi, t9, rfl, hl10⟩ := len_inv hl9
  obtain ⟨kw, t10, rfl, hl11⟩ := len_inv hl10
  obtain ⟨va, t11, rfl, hl12⟩ := len_inv hl11
  obtain ⟨wo, t12, rfl, hl13⟩ := len_inv hl12
  have hl := List.eq_nil_of_length_eq_zero hl13
  subst hl
  have p1 := p_get3 (by decide) (fOk_hd hp)
  have p2 := i_get (fOk_hd (fOk_tl hp))
  have p3 := p_get3 (by decide) (fOk_hd (fOk_tl (fOk_tl hp)))
  simp only [List.map, xv, fev, fvl, gtI, Int.one_mul, Int.add_zero, Int.zero_add] at p1 p2 p3
  have q := k_b_n1_2 (z := z) (n := n) (k := k) (zn := zn) (h := h) (r := r) (g := g) (kd := kd) (pl := pl) (fi := fi) (kw := kw) (va := va) (wo := wo) p1 p2 p3
  refine ⟨[], rfl, fOk_cons (p_put3 rfl (by decide) ?_) fOk_nil⟩ <;> simp only [List.map, xv, fev, fvl, gtI, Int.one_mul, Int.add_zero, Int.zero_add, List.append_nil]
  exact q
def r_b_n2 : eRul := (13, [xP 143 [xv 0, xv 1, ([], 2), xv 2, xv 3, xv 4, xv 5, xv 6, xv 7, xv 8, xv 9, xv 10, xv 11, xv 12], (.inl [[(3, 3)]], [xv 7]), (.inl [[(1, 60)]], [xv 11])], 0, [xP 140 [xv 0, xv 1, ([], 6), xv 9, xv 2, xv 3, xv 4, xv 5, xv 6]])
theorem r_b_n2_ok : ruOk r_b_n2 := by
  intro ρ hl0 hp
  obtain ⟨z, t0, rfl, hl1⟩ := len_inv hl0
  obtain ⟨n, t1, rfl, hl2⟩ := len_inv hl1
  obtain ⟨k, t2, rfl, hl3⟩ := len_inv hl2
  obtain ⟨zn, t3, rfl, hl4⟩ := len_inv hl3
  obtain ⟨h, t4, rfl, hl5⟩ := len_inv hl4
  obtain ⟨r, t5, rfl, hl6⟩ := len_inv hl5
  obtain ⟨g, t6, rfl, hl7⟩ := len_inv hl6
  obtain ⟨kd, t7, rfl, hl8⟩ := len_inv hl7
  obtain ⟨pl, t8, rfl, hl9⟩ := len_inv hl8
  obtain ⟨fi, t9, rfl, hl10⟩ := len_inv hl9
  obtain ⟨kw, t10, rfl, hl11⟩ := len_inv hl10
  obtain ⟨va, t11, rfl, hl12⟩ := len_inv hl11
  obtain ⟨wo, t12, rfl, hl13⟩ := len_inv hl12
  have hl := List.eq_nil_of_length_eq_zero hl13
  subst hl
  have p1 := p_get3 (by decide) (fOk_hd hp)
  have p2 := i_get (fOk_hd (fOk_tl hp))
  have p3 := i_get (fOk_hd (fOk_tl (fOk_tl hp)))
  simp only [List.map, xv, fev, fvl, gtI, Int.one_mul, Int.add_zero, Int.zero_add] at p1 p2 p3
  have q := k_b_n2 (z := z) (n := n) (k := k) (zn := zn) (h := h) (r := r) (g := g) (kd := kd) (pl := pl) (fi := fi) (kw := kw) (va := va) (wo := wo) p1 p2 p3
  refine ⟨[], rfl, fOk_cons (p_put3 rfl (by decide) ?_) fOk_nil⟩ <;> simp only [List.map, xv, fev, fvl, gtI, Int.one_mul, Int.add_zero, Int.zero_add, List.append_nil]
  exact q
def r_b_n2_1 : eRul := (13, [xP 143 [xv 0, xv 1, ([], 2), xv 2, xv 3, xv 4, xv 5, xv 6, xv 7, xv 8, xv 9, xv 10, xv 11, xv 12], xP 57 [xv 7]], 0, [xP 144 [xv 0, xv 1, xv 3, xv 4, xv 5, xv 6, ([(8, -1)], -1), ([], 1)]])
theorem r_b_n2_1_ok : ruOk r_b_n2_1 := by
  intro ρ hl0 hp
  obtain ⟨z, t0, rfl, hl1⟩ := len_inv hl0
  obtain ⟨n, t1, rfl, hl2⟩ := len_inv hl1
  obtain ⟨k, t2, rfl, hl3⟩ := len_inv hl2
  obtain ⟨zn, t3, rfl, hl4⟩ := len_inv hl3
  obtain ⟨h, t4, rfl, hl5⟩ := len_inv hl4
  obtain ⟨r, t5, rfl, hl6⟩ := len_inv hl5
  obtain ⟨g, t6, rfl, hl7⟩ := len_inv hl6
  obtain ⟨kd, t7, rfl, hl8⟩ := len_inv hl7
  obtain ⟨pl, t8, rfl, hl9⟩ := len_inv hl8
  obtain ⟨fi, t9, rfl, hl10⟩ := len_inv hl9
  obtain ⟨kw, t10, rfl, hl11⟩ := len_inv hl10
  obtain ⟨va, t11, rfl, hl12⟩ := len_inv hl11
  obtain ⟨wo, t12, rfl, hl13⟩ := len_inv hl12
  have hl := List.eq_nil_of_length_eq_zero hl13
  subst hl
  have p1 := p_get3 (by decide) (fOk_hd hp)
  have p2 := p_get3 (by decide) (fOk_hd (fOk_tl hp))
  simp only [List.map, xv, fev, fvl, gtI, Int.one_mul, Int.add_zero, Int.zero_add] at p1 p2
  have q := k_b_n2_1 (z := z) (n := n) (k := k) (zn := zn) (h := h) (r := r) (g := g) (kd := kd) (pl := pl) (fi := fi) (kw := kw) (va := va) (wo := wo) p1 p2
  refine ⟨[], rfl, fOk_cons (p_put3 rfl (by decide) ?_) fOk_nil⟩ <;> simp only [List.map, xv, fev, fvl, gtI, Int.one_mul, Int.add_zero, Int.zero_add, List.append_nil]
  exact q
def r_b_n2_2 : eRul := (13, [xP 143 [xv 0, xv 1, ([], 2), xv 2, xv 3, xv 4, xv 5, xv 6, xv 7, xv 8, xv 9, xv 10, xv 11, xv 12], (.inl [[(3, 3)]], [xv 7]), xP 58 [xv 11, ([], 1), ([], 60), ([], 0)]], 0, [xP 144 [xv 0, xv 1, xv 3, xv 4, xv 5, xv 6, ([(8, -1)], -1), ([], 2)]])
theorem r_b_n2_2_ok : ruOk r_b_n2_2 := by
  intro ρ hl0 hp
  obtain ⟨z, t0, rfl, hl1⟩ := len_inv hl0
  obtain ⟨n, t1, rfl, hl2⟩ := len_inv hl1
  obtain ⟨k, t2, rfl, hl3⟩ := len_inv hl2
  obtain ⟨zn, t3, rfl, hl4⟩ := len_inv hl3
  obtain ⟨h, t4, rfl, hl5⟩ := len_inv hl4
  obtain ⟨r, t5, rfl, hl6⟩ := len_inv hl5
  obtain ⟨g, t6, rfl, hl7⟩ := len_inv hl6
  obtain ⟨kd, t7, rfl, hl8⟩ := len_inv hl7
  obtain ⟨pl, t8, rfl, hl9⟩ := len_inv hl8
  obtain ⟨fi, t9, rfl, hl10⟩ := len_inv hl9
  obtain ⟨kw, t10, rfl, hl11⟩ := len_inv hl10
  obtain ⟨va, t11, rfl, hl12⟩ := len_inv hl11
  obtain ⟨wo, t12, rfl, hl13⟩ := len_inv hl12
  have hl := List.eq_nil_of_length_eq_zero hl13
  subst hl
  have p1 := p_get3 (by decide) (fOk_hd hp)
  have p2 := i_get (fOk_hd (fOk_tl hp))
  have p3 := p_get3 (by decide) (fOk_hd (fOk_tl (fOk_tl hp)))
  simp only [List.map, xv, fev, fvl, gtI, Int.one_mul, Int.add_zero, Int.zero_add] at p1 p2 p3
  have q := k_b_n2_2 (z := z) (n := n) (k := k) (zn := zn) (h := h) (r := r) (g := g) (kd := kd) (pl := pl) (fi := fi) (kw := kw) (va := va) (wo := wo) p1 p2 p3
  refine ⟨[], rfl, fOk_cons (p_put3 rfl (by decide) ?_) fOk_nil⟩ <;> simp only [List.map, xv, fev, fvl, gtI, Int.one_mul, Int.add_zero, Int.zero_add, List.append_nil]
  exact q
def r_b_n5 : eRul := (13, [xP 143 [xv 0, xv 1, ([], 5), xv 2, xv 3, xv 4, xv 5, xv 6, xv 7, xv 8, xv 9, xv 10, xv 11, xv 12], (.inl [[(3, 3)]], [xv 7]), (.inl [[(1, 30)]], [xv 11])], 0, [xP 140 [xv 0, xv 1, ([], 6), xv 9, xv 2, xv 3, xv 4, xv 5, xv 6]])
theorem r_b_n5_ok : ruOk r_b_n5 := by
  intro ρ hl0 hp
  obtain ⟨z, t0, rfl, hl1⟩ := len_inv hl0
  obtain ⟨n, t1, rfl, hl2⟩ := len_inv hl1
  obtain ⟨k, t2, rfl, hl3⟩ := len_inv hl2
  obtain ⟨zn, t3, rfl, hl4⟩ := len_inv hl3
  obtain ⟨h, t4, rfl, hl5⟩ := len_inv hl4
  obtain ⟨r, t5, rfl, hl6⟩ := len_inv hl5
  obtain ⟨g, t6, rfl, hl7⟩ := len_inv hl6
  obtain ⟨kd, t7, rfl, hl8⟩ := len_inv hl7
  obtain ⟨pl, t8, rfl, hl9⟩ := len_inv hl8
  obtain ⟨fi, t9, rfl, hl10⟩ := len_inv hl9
  obtain ⟨kw, t10, rfl, hl11⟩ := len_inv hl10
  obtain ⟨va, t11, rfl, hl12⟩ := len_inv hl11
  obtain ⟨wo, t12, rfl, hl13⟩ := len_inv hl12
  have hl := List.eq_nil_of_length_eq_zero hl13
  subst hl
  have p1 := p_get3 (by decide) (fOk_hd hp)
  have p2 := i_get (fOk_hd (fOk_tl hp))
  have p3 := i_get (fOk_hd (fOk_tl (fOk_tl hp)))
  simp only [List.map, xv, fev, fvl, gtI, Int.one_mul, Int.add_zero, Int.zero_add] at p1 p2 p3
  have q := k_b_n5 (z := z) (n := n) (k := k) (zn := zn) (h := h) (r := r) (g := g) (kd := kd) (pl := pl) (fi := fi) (kw := kw) (va := va) (wo := wo) p1 p2 p3
  refine ⟨[], rfl, fOk_cons (p_put3 rfl (by decide) ?_) fOk_nil⟩ <;> simp only [List.map, xv, fev, fvl, gtI, Int.one_mul, Int.add_zero, Int.zero_add, List.append_nil]
  exact q
def r_b_n5_1 : eRul := (13, [xP 143 [xv 0, xv 1, ([], 5), xv 2, xv 3, xv 4, xv 5, xv 6, xv 7, xv 8, xv 9, xv 10, xv 11, xv 12], xP 57 [xv 7]], 0, [xP 144 [xv 0, xv 1, xv 3, xv 4, xv 5, xv 6, ([(8, -1)], -1), ([], 1)]])
theorem r_b_n5_1_ok : ruOk r_b_n5_1 := by
  intro ρ hl0 hp
  obtain ⟨z, t0, rfl, hl1⟩ := len_inv hl0
  obtain ⟨n, t1, rfl, hl2⟩ := len_inv hl1
  obtain ⟨k, t2, rfl, hl3⟩ := len_inv hl2
  obtain ⟨zn, t3, rfl, hl4⟩ := len_inv hl3
  obtain ⟨h, t4, rfl, hl5⟩ := len_inv hl4
  obtain ⟨r, t5, rfl, hl6⟩ := len_inv hl5
  obtain ⟨g, t6, rfl, hl7⟩ := len_inv hl6
  obtain ⟨kd, t7, rfl, hl8⟩ := len_inv hl7
  obtain ⟨pl, t8, rfl, hl9⟩ := len_inv hl8
  obtain ⟨fi, t9, rfl, hl10⟩ := len_inv hl9
  obtain ⟨kw, t10, rfl, hl11⟩ := len_inv hl10
  obtain ⟨va, t11, rfl, hl12⟩ := len_inv hl11
  obtain ⟨wo, t12, rfl, hl13⟩ := len_inv hl12
  have hl := List.eq_nil_of_length_eq_zero hl13
  subst hl
  have p1 := p_get3 (by decide) (fOk_hd hp)
  have p2 := p_get3 (by decide) (fOk_hd (fOk_tl hp))
  simp only [List.map, xv, fev, fvl, gtI, Int.one_mul, Int.add_zero, Int.zero_add] at p1 p2
  have q := k_b_n5_1 (z := z) (n := n) (k := k) (zn := zn) (h := h) (r := r) (g := g) (kd := kd) (pl := pl) (fi := fi) (kw := kw) (va := va) (wo := wo) p1 p2
  refine ⟨[], rfl, fOk_cons (p_put3 rfl (by decide) ?_) fOk_nil⟩ <;> simp only [List.map, xv, fev, fvl, gtI, Int.one_mul, Int.add_zero, Int.zero_add, List.append_nil]
  exact q
def r_b_n5_2 : eRul := (13, [xP 143 [xv 0, xv 1, ([], 5), xv 2, xv 3, xv 4, xv 5, xv 6, xv 7, xv 8, xv 9, xv 10, xv 11, xv 12], (.inl [[(3, 3)]], [xv 7]), xP 58 [xv 11, ([], 1), ([], 30), ([], 0)]], 0, [xP 144 [xv 0, xv 1, xv 3, xv 4, xv 5, xv 6, ([(8, -1)], -1), ([], 2)]])
theorem r_b_n5_2_ok : ruOk r_b_n5_2 := by
  intro ρ hl0 hp
  obtain ⟨z, t0, rfl, hl1⟩ := len_inv hl0
  obtain ⟨n, t1, rfl, hl2⟩ := len_inv hl1
  obtain ⟨k, t2, rfl, hl3⟩ := len_inv hl2
  obtain ⟨zn, t3, rfl, hl4⟩ := len_inv hl3
  obtain ⟨h, t4, rfl, hl5⟩ := len_inv hl4
  obtain ⟨r, t5, rfl, hl6⟩ := len_inv hl5
  obtain ⟨g, t6, rfl, hl7⟩ := len_inv hl6
  obtain ⟨kd, t7, rfl, hl8⟩ := len_inv hl7
  obtain ⟨pl, t8, rfl, hl9⟩ := len_inv hl8
  obtain ⟨fi, t9, rfl, hl10⟩ := len_inv hl9
  obtain ⟨kw, t10, rfl, hl11⟩ := len_inv hl10
  obtain ⟨va, t11, rfl, hl12⟩ := len_inv hl11
  obtain ⟨wo, t12, rfl, hl13⟩ := len_inv hl12
  have hl := List.eq_nil_of_length_eq_zero hl13
  subst hl
  have p1 := p_get3 (by decide) (fOk_hd hp)
  have p2 := i_get (fOk_hd (fOk_tl hp))
  have p3 := p_get3 (by decide) (fOk_hd (fOk_tl (fOk_tl hp)))
  simp only [List.map, xv, fev, fvl, gtI, Int.one_mul, Int.add_zero, Int.zero_add] at p1 p2 p3
  have q := k_b_n5_2 (z := z) (n := n) (k := k) (zn := zn) (h := h) (r := r) (g := g) (kd := kd) (pl := pl) (fi := fi) (kw := kw) (va := va) (wo := wo) p1 p2 p3
  refine ⟨[], rfl, fOk_cons (p_put3 rfl (by decide) ?_) fOk_nil⟩ <;> simp only [List.map, xv, fev, fvl, gtI, Int.one_mul, Int.add_zero, Int.zero_add, List.append_nil]
  exact q
def r_b_lv : eRul := (13, [xP 143 [xv 0, xv 1, ([], 3), xv 2, xv 3, xv 4, xv 5, xv 6, xv 7, xv 8, xv 9, xv 10, xv 11, xv 12], (.inl [[(10, 10)]], [xv 10])], 0, [xP 140 [xv 0, xv 1, ([], 6), xv 9, xv 2, xv 3, xv 4, xv 5, xv 6]])
theorem r_b_lv_ok : ruOk r_b_lv := by
  intro ρ hl0 hp
  obtain ⟨z, t0, rfl, hl1⟩ := len_inv hl0
  obtain ⟨n, t1, rfl, hl2⟩ := len_inv hl1
  obtain ⟨k, t2, rfl, hl3⟩ := len_inv hl2
  obtain ⟨zn, t3, rfl, hl4⟩ := len_inv hl3
  obtain ⟨h, t4, rfl, hl5⟩ := len_inv hl4
  obtain ⟨r, t5, rfl, hl6⟩ := len_inv hl5
  obtain ⟨g, t6, rfl, hl7⟩ := len_inv hl6
  obtain ⟨kd, t7, rfl, hl8⟩ := len_inv hl7
  obtain ⟨pl, t8, rfl, hl9⟩ := len_inv hl8
  obtain ⟨fi, t9, rfl, hl10⟩ := len_inv hl9
  obtain ⟨kw, t10, rfl, hl11⟩ := len_inv hl10
  obtain ⟨va, t11, rfl, hl12⟩ := len_inv hl11
  obtain ⟨wo, t12, rfl, hl13⟩ := len_inv hl12
  have hl := List.eq_nil_of_length_eq_zero hl13
  subst hl
  have p1 := p_get3 (by decide) (fOk_hd hp)
  have p2 := i_get (fOk_hd (fOk_tl hp))
  simp only [List.map, xv, fev, fvl, gtI, Int.one_mul, Int.add_zero, Int.zero_add] at p1 p2
  have q := k_b_lv (z := z) (n := n) (k := k) (zn := zn) (h := h) (r := r) (g := g) (kd := kd) (pl := pl) (fi := fi) (kw := kw) (va := va) (wo := wo) p1 p2
  refine ⟨[], rfl, fOk_cons (p_put3 rfl (by decide) ?_) fOk_nil⟩ <;> simp only [List.map, xv, fev, fvl, gtI, Int.one_mul, Int.add_zero, Int.zero_add, List.append_nil]
  exact q
def r_b_tk : eRul := (13, [xP 143 [xv 0, xv 1, ([], 3), xv 2, xv 3, xv 4, xv 5, xv 6, xv 7, xv 8, xv 9, xv 10, xv 11, xv 12], (.inl [[(9, 9)]], [xv 10])], 0, [xP 140 [xv 0, xv 1, ([], 4), xv 9, xv 2, xv 3, xv 4, xv 5, xv 6]])
theorem r_b_tk_ok : ruOk r_b_tk := by
  intro ρ hl0 hp
  obtain ⟨z, t0, rfl, hl1⟩ := len_inv hl0
  obtain ⟨n, t1, rfl, hl2⟩ := len_inv hl1
  obtain ⟨k, t2, rfl, hl3⟩ := len_inv hl2
  obtain ⟨zn, t3, rfl, hl4⟩ := len_inv hl3
  obtain ⟨h, t4, rfl, hl5⟩ := len_inv hl4
  obtain ⟨r, t5, rfl, hl6⟩ := len_inv hl5
  obtain ⟨g, t6, rfl, hl7⟩ := len_inv hl6
  obtain ⟨kd, t7, rfl, hl8⟩ := len_inv hl7
  obtain ⟨pl, t8, rfl, hl9⟩ := len_inv hl8
  obtain ⟨fi, t9, rfl, hl10⟩ := len_inv hl9
  obtain ⟨kw, t10, rfl, hl11⟩ := len_inv hl10
  obtain ⟨va, t11, rfl, hl12⟩ := len_inv hl11
  obtain ⟨wo, t12, rfl, hl13⟩ := len_inv hl12
  have hl := List.eq_nil_of_length_eq_zero hl13
  subst hl
  have p1 := p_get3 (by decide) (fOk_hd hp)
  have p2 := i_get (fOk_hd (fOk_tl hp))
  simp only [List.map, xv, fev, fvl, gtI, Int.one_mul, Int.add_zero, Int.zero_add] at p1 p2
  have q := k_b_tk (z := z) (n := n) (k := k) (zn := zn) (h := h) (r := r) (g := g) (kd := kd) (pl := pl) (fi := fi) (kw := kw) (va := va) (wo := wo) p1 p2
  refine ⟨[], rfl, fOk_cons (p_put3 rfl (by decide) ?_) fOk_nil⟩ <;> simp only [List.map, xv, fev, fvl, gtI, Int.one_mul, Int.add_zero, Int.zero_add, List.append_nil]
  exact q
def r_b_vb : eRul := (13, [xP 143 [xv 0, xv 1, ([], 3), xv 2, xv 3, xv 4, xv 5, xv 6, xv 7, xv 8, xv 9, xv 10, xv 11, xv 12], xP 137 [xv 10, ([], 9)], xP 137 [xv 10, ([], 10)]], 0, [xP 144 [xv 0, xv 1, xv 3, xv 4, xv 5, xv 6, ([(8, -1)], -1), ([], 1)]])
theorem r_b_vb_ok : ruOk r_b_vb := by
  intro ρ hl0 hp
  obtain ⟨z, t0, rfl, hl1⟩ := len_inv hl0
  obtain ⟨n, t1, rfl, hl2⟩ := len_inv hl1
  obtain ⟨k, t2, rfl, hl3⟩ := len_inv hl2
  obtain ⟨zn, t3, rfl, hl4⟩ := len_inv hl3
  obtain ⟨h, t4, rfl, hl5⟩ := len_inv hl4
  obtain ⟨r, t5, rfl, hl6⟩ := len_inv hl5
  obtain ⟨g, t6, rfl, hl7⟩ := len_inv hl6
  obtain ⟨kd, t7, rfl, hl8⟩ := len_inv hl7
  obtain ⟨pl, t8, rfl, hl9⟩ := len_inv hl8
  obtain ⟨fi, t9, rfl, hl10⟩ := len_inv hl9
  obtain ⟨kw, t10, rfl, hl11⟩ := len_inv hl10
  obtain ⟨va, t11, rfl, hl12⟩ := len_inv hl11
  obtain ⟨wo, t12, rfl, hl13⟩ := len_inv hl12
  have hl := List.eq_nil_of_length_eq_zero hl13
  subst hl
  have p1 := p_get3 (by decide) (fOk_hd hp)
  have p2 := p_get3 (by decide) (fOk_hd (fOk_tl hp))
  have p3 := p_get3 (by decide) (fOk_hd (fOk_tl (fOk_tl hp)))
  simp only [List.map, xv, fev, fvl, gtI, Int.one_mul, Int.add_zero, Int.zero_add] at p1 p2 p3
  have q := k_b_vb (z := z) (n := n) (k := k) (zn := zn) (h := h) (r := r) (g := g) (kd := kd) (pl := pl) (fi := fi) (kw := kw) (va := va) (wo := wo) p1 p2 p3
  refine ⟨[], rfl, fOk_cons (p_put3 rfl (by decide) ?_) fOk_nil⟩ <;> simp only [List.map, xv, fev, fvl, gtI, Int.one_mul, Int.add_zero, Int.zero_add, List.append_nil]
  exact q
def r_b_r : eRul := (14, [xP 143 [xv 0, xv 1, ([], 4), xv 2, xv 3, xv 4, xv 5, xv 6, xv 7, xv 8, xv 9, xv 10, xv 11, xv 12], xP 55 [xv 7, xv 10, ([], 1)], xP 61 [xv 3, ([], 5), xv 5, xv 12, xv 13], xG (([(13, -1)], 0))], 0, [xP 140 [xv 0, xv 1, ([], 5), xv 9, xv 2, xv 3, xv 4, xv 5, xv 6]])
theorem r_b_r_ok : ruOk r_b_r := by
  intro ρ hl0 hp
  obtain ⟨z, t0, rfl, hl1⟩ := len_inv hl0
  obtain ⟨n, t1, rfl, hl2⟩ := len_inv hl1
  obtain ⟨k, t2, rfl, hl3⟩ := len_inv hl2
  obtain ⟨zn, t3, rfl, hl4⟩ := len_inv hl3
  obtain ⟨h, t4, rfl, hl5⟩ := len_inv hl4
  obtain ⟨r, t5, rfl, hl6⟩ := len_inv hl5
  obtain ⟨g, t6, rfl, hl7⟩ := len_inv hl6
  obtain ⟨kd, t7, rfl, hl8⟩ := len_inv hl7
  obtain ⟨pl, t8, rfl, hl9⟩ := len_inv hl8
  obtain ⟨fi, t9, rfl, hl10⟩ := len_inv hl9
  obtain ⟨kw, t10, rfl, hl11⟩ := len_inv hl10
  obtain ⟨va, t11, rfl, hl12⟩ := len_inv hl11
  obtain ⟨wo, t12, rfl, hl13⟩ := len_inv hl12
  obtain ⟨i, t13, rfl, hl14⟩ := len_inv hl13
  have hl := List.eq_nil_of_length_eq_zero hl14
  subst hl
  have p1 := p_get3 (by decide) (fOk_hd hp)
  have p2 := p_get3 (by decide) (fOk_hd (fOk_tl hp))
  have p3 := p_get3 (by decide) (fOk_hd (fOk_tl (fOk_tl hp)))
  have p4 := gg_get (fOk_hd (fOk_tl (fOk_tl (fOk_tl hp))))
  simp only [List.map, xv, fev, fvl, gtI, Int.one_mul, Int.add_zero, Int.zero_add] at p1 p2 p3 p4
  have q := k_b_r (z := z) (n := n) (k := k) (zn := zn) (h := h) (r := r) (g := g) (kd := kd) (pl := pl) (fi := fi) (kw := kw) (va := va) (wo := wo) (i := i) p1 p2 p3 p4
  refine ⟨[], rfl, fOk_cons (p_put3 rfl (by decide) ?_) fOk_nil⟩ <;> simp only [List.map, xv, fev, fvl, gtI, Int.one_mul, Int.add_zero, Int.zero_add, List.append_nil]
  exact q
def r_b_r1 : eRul := (13, [xP 143 [xv 0, xv 1, ([], 4), xv 2, xv 3, xv 4, xv 5, xv 6, xv 7, xv 8, xv 9, xv 10, xv 11, xv 12], xP 55 [xv 7, xv 10, ([], 0)]], 0, [xP 144 [xv 0, xv 1, xv 3, xv 4, xv 5, xv 6, ([(8, -1)], -1), ([], 1)]])
theorem r_b_r1_ok : ruOk r_b_r1 := by
  intro ρ hl0 hp
  obtain ⟨z, t0, rfl, hl1⟩ := len_inv hl0
  obtain ⟨n, t1, rfl, hl2⟩ := len_inv hl1
  obtain ⟨k, t2, rfl, hl3⟩ := len_inv hl2
  obtain ⟨zn, t3, rfl, hl4⟩ := len_inv hl3
  obtain ⟨h, t4, rfl, hl5⟩ := len_inv hl4
  obtain ⟨r, t5, rfl, hl6⟩ := len_inv hl5
  obtain ⟨g, t6, rfl, hl7⟩ := len_inv hl6
  obtain ⟨kd, t7, rfl, hl8⟩ := len_inv hl7
  obtain ⟨pl, t8, rfl, hl9⟩ := len_inv hl8
  obtain ⟨fi, t9, rfl, hl10⟩ := len_inv hl9
  obtain ⟨kw, t10, rfl, hl11⟩ := len_inv hl10
  obtain ⟨va, t11, rfl, hl12⟩ := len_inv hl11
  obtain ⟨wo, t12, rfl, hl13⟩ := len_inv hl12
  have hl := List.eq_nil_of_length_eq_zero hl13
  subst hl
  have p1 := p_get3 (by decide) (fOk_hd hp)
  have p2 := p_get3 (by decide) (fOk_hd (fOk_tl hp))
  simp only [List.map, xv, fev, fvl, gtI, Int.one_mul, Int.add_zero, Int.zero_add] at p1 p2
  have q := k_b_r1 (z := z) (n := n) (k := k) (zn := zn) (h := h) (r := r) (g := g) (kd := kd) (pl := pl) (fi := fi) (kw := kw) (va := va) (wo := wo) p1 p2
  refine ⟨[], rfl, fOk_cons (p_put3 rfl (by decide) ?_) fOk_nil⟩ <;> simp only [List.map, xv, fev, fvl, gtI, Int.one_mul, Int.add_zero, Int.zero_add, List.append_nil]
  exact q
def r_b_r3 : eRul := (13, [xP 143 [xv 0, xv 1, ([], 4), xv 2, xv 3, xv 4, xv 5, xv 6, xv 7, xv 8, xv 9, xv 10, xv 11, xv 12], xP 55 [xv 7, xv 10, ([], 1)], xP 61 [xv 3, ([], 5), xv 5, xv 12, ([], -1)]], 0, [xP 144 [xv 0, xv 1, xv 3, xv 4, xv 5, xv 6, ([(8, -1)], -1), ([], 3)]])
theorem r_b_r3_ok : ruOk r_b_r3 := by
  intro ρ hl0 hp
  obtain ⟨z, t0, rfl, hl1⟩ := len_inv hl0
  obtain ⟨n, t1, rfl, hl2⟩ := len_inv hl1
  obtain ⟨k, t2, rfl, hl3⟩ := len_inv hl2
  obtain ⟨zn, t3, rfl, hl4⟩ := len_inv hl3
  obtain ⟨h, t4, rfl, hl5⟩ := len_inv hl4
  obtain ⟨r, t5, rfl, hl6⟩ := len_inv hl5
  obtain ⟨g, t6, rfl, hl7⟩ := len_inv hl6
  obtain ⟨kd, t7, rfl, hl8⟩ := len_inv hl7
  obtain ⟨pl, t8, rfl, hl9⟩ := len_inv hl8
  obtain ⟨fi, t9, rfl, hl10⟩ := len_inv hl9
  obtain ⟨kw, t10, rfl, hl11⟩ := len_inv hl10
  obtain ⟨va, t11, rfl, hl12⟩ := len_inv hl11
  obtain ⟨wo, t12, rfl, hl13⟩ := len_inv hl12
  have hl := List.eq_nil_of_length_eq_zero hl13
  subst hl
  have p1 := p_get3 (by decide) (fOk_hd hp)
  have p2 := p_get3 (by decide) (fOk_hd (fOk_tl hp))
  have p3 := p_get3 (by decide) (fOk_hd (fOk_tl (fOk_tl hp)))
  simp only [List.map, xv, fev, fvl, gtI, Int.one_mul, Int.add_zero, Int.zero_add] at p1 p2 p3
  have q := k_b_r3 (z := z) (n := n) (k := k) (zn := zn) (h := h) (r := r) (g := g) (kd := kd) (pl := pl) (fi := fi) (kw := kw) (va := va) (wo := wo) p1 p2 p3
  refine ⟨[], rfl, fOk_cons (p_put3 rfl (by decide) ?_) fOk_nil⟩ <;> simp only [List.map, xv, fev, fvl, gtI, Int.one_mul, Int.add_zero, Int.zero_add, List.append_nil]
  exact q
def r_b_s : eRul := (13, [xP 143 [xv 0, xv 1, ([], 6), xv 2, xv 3, xv 4, xv 5, xv 6, xv 7, xv 8, xv 9, xv 10, xv 11, xv 12], xP 56 [xv 7, xv 11, ([], 59), ([], 1)]], 0, [xP 140 [xv 0, xv 1, ([], 0), xv 9, ([(2, 1)], 1), xv 3, xv 4, xv 5, xv 6]])
theorem r_b_s_ok : ruOk r_b_s := by
  intro ρ hl0 hp
  obtain ⟨z, t0, rfl, hl1⟩ := len_inv hl0
  obtain ⟨n, t1, rfl, hl2⟩ := len_inv hl1
  obtain ⟨k, t2, rfl, hl3⟩ := len_inv hl2
  obtain ⟨zn, t3, rfl, hl4⟩ := len_inv hl3
  obtain ⟨h, t4, rfl, hl5⟩ := len_inv hl4
  obtain ⟨r, t5, rfl, hl6⟩ := len_inv hl5
  obtain ⟨g, t6, rfl, hl7⟩ := len_inv hl6
  obtain ⟨kd, t7, rfl, hl8⟩ := len_inv hl7
  obtain ⟨pl, t8, rfl, hl9⟩ := len_inv hl8
  obtain ⟨fi, t9, rfl, hl10⟩ := len_inv hl9
  obtain ⟨kw, t10, rfl, hl11⟩ := len_inv hl10
  obtain ⟨va, t11, rfl, hl12⟩ := len_inv hl11
  obtain ⟨wo, t12, rfl, hl13⟩ := len_inv hl12
  have hl := List.eq_nil_of_length_eq_zero hl13
  subst hl
  have p1 := p_get3 (by decide) (fOk_hd hp)
  have p2 := p_get3 (by decide) (fOk_hd (fOk_tl hp))
  simp only [List.map, xv, fev, fvl, gtI, Int.one_mul, Int.add_zero, Int.zero_add] at p1 p2
  have q := k_b_s (z := z) (n := n) (k := k) (zn := zn) (h := h) (r := r) (g := g) (kd := kd) (pl := pl) (fi := fi) (kw := kw) (va := va) (wo := wo) p1 p2
  refine ⟨[], rfl, fOk_cons (p_put3 rfl (by decide) ?_) fOk_nil⟩ <;> simp only [List.map, xv, fev, fvl, gtI, Int.one_mul, Int.add_zero, Int.zero_add, List.append_nil]
  exact q
def r_b_s1 : eRul := (13, [xP 143 [xv 0, xv 1, ([], 6), xv 2, xv 3, xv 4, xv 5, xv 6, xv 7, xv 8, xv 9, xv 10, xv 11, xv 12], xP 56 [xv 7, xv 11, ([], 59), ([], 0)]], 0, [xP 144 [xv 0, xv 1, xv 3, xv 4, xv 5, xv 6, ([(8, -1)], -1), ([], 1)]])
theorem r_b_s1_ok : ruOk r_b_s1 := by
  intro ρ hl0 hp
  obtain ⟨z, t0, rfl, hl1⟩ := len_inv hl0
  obtain ⟨n, t1, rfl, hl2⟩ := len_inv hl1
  obtain ⟨k, t2, rfl, hl3⟩ := len_inv hl2
  obtain ⟨zn, t3, rfl, hl4⟩ := len_inv hl3
  obtain ⟨h, t4, rfl, hl5⟩ := len_inv hl4
  obtain ⟨r, t5, rfl, hl6⟩ := len_inv hl5
  obtain ⟨g, t6, rfl, hl7⟩ := len_inv hl6
  obtain ⟨kd, t7, rfl, hl8⟩ := len_inv hl7
  obtain ⟨pl, t8, rfl, hl9⟩ := len_inv hl8
  obtain ⟨fi, t9, rfl, hl10⟩ := len_inv hl9
  obtain ⟨kw, t10, rfl, hl11⟩ := len_inv hl10
  obtain ⟨va, t11, rfl, hl12⟩ := len_inv hl11
  obtain ⟨wo, t12, rfl, hl13⟩ := len_inv hl12
  have hl := List.eq_nil_of_length_eq_zero hl13
  subst hl
  have p1 := p_get3 (by decide) (fOk_hd hp)
  have p2 := p_get3 (by decide) (fOk_hd (fOk_tl hp))
  simp only [List.map, xv, fev, fvl, gtI, Int.one_mul, Int.add_zero, Int.zero_add] at p1 p2
  have q := k_b_s1 (z := z) (n := n) (k := k) (zn := zn) (h := h) (r := r) (g := g) (kd := kd) (pl := pl) (fi := fi) (kw := kw) (va := va) (wo := wo) p1 p2
  refine ⟨[], rfl, fOk_cons (p_put3 rfl (by decide) ?_) fOk_nil⟩ <;> simp only [List.map, xv, fev, fvl, gtI, Int.one_mul, Int.add_zero, Int.zero_add, List.append_nil]
  exact q
def r_d_init : eRul := (4, [xG (([(0, -1)], 0))], 0, [xP 142 [xv 1, xv 0, ([], 0), ([], 0), ([], 0), xv 2, xv 3]])
theorem r_d_init_ok : ruOk r_d_init := by
  intro ρ hl0 hp
  obtain ⟨n, t0, rfl, hl1⟩ := len_inv hl0
  obtain ⟨z, t1, rfl, hl2⟩ := len_inv hl1
  obtain ⟨zm, t2, rfl, hl3⟩ := len_inv hl2
  obtain ⟨zr, t3, rfl, hl4⟩ := len_inv hl3
  have hl := List.eq_nil_of_length_eq_zero hl4
  subst hl
  have p1 := gg_get (fOk_hd hp)
  simp only [List.map, xv, fev, fvl, gtI, Int.one_mul, Int.add_zero, Int.zero_add] at p1
  have q := k_d_init (n := n) (z := z) (zm := zm) (zr := zr) p1
  refine ⟨[], rfl, fOk_cons (p_put3 rfl (by decide) ?_) fOk_nil⟩ <;> simp only [List.map, xv, fev, fvl, gtI, Int.one_mul, Int.add_zero, Int.zero_add, List.append_nil]
  exact q
def r_d_tok : eRul := (13, [xP 142 [xv 0, xv 1, xv 2, xv 3, xv 4, xv 5, xv 6], xP 54 [xv 0, xv 1, ([], 400), xv 3, xv 7, xv 8, xv 9, xv 10, xv 11, xv 12]], 0, [xP 141 [xv 0, xv 1, xv 2, xv 4, xv 5, xv 6, xv 7, xv 8, xv 9, xv 10, xv 11, xv 12]])
theorem r_d_tok_ok : ruOk r_d_tok := by
  intro ρ hl0 hp
  obtain ⟨z, t0, rfl, hl1⟩ := len_inv hl0
  obtain ⟨n, t1, rfl, hl2⟩ := len_inv hl1
  obtain ⟨q, t2, rfl, hl3⟩ := len_inv hl2
  obtain ⟨p, t3, rfl, hl4⟩ := len_inv hl3
  obtain ⟨k, t4, rfl, hl5⟩ := len_inv hl4
  obtain ⟨zm, t5, rfl, hl6⟩ := len_inv hl5
  obtain ⟨zr, t6, rfl, hl7⟩ := len_inv hl6
  obtain ⟨kd, t7, rfl, hl8⟩ := len_inv hl7
  obtain ⟨fr, t8, rfl, hl9⟩ := len_inv hl8
  obtain ⟨to, t9, rfl, hl10⟩ := len_inv hl9
  obtain ⟨nu, t10, rfl, hl11⟩ := len_inv hl10
  obtain ⟨sg, t11, rfl, hl12⟩ := len_inv hl11
  obtain ⟨wo, t12, rfl, hl13⟩ := len_inv hl12
  have hl := List.eq_nil_of_length_eq_zero hl13
  subst hl
  have p1 := p_get3 (by decide) (fOk_hd hp)
  have p2 := p_get3 (by decide) (fOk_hd (fOk_tl hp))
  simp only [List.map, xv, fev, fvl, gtI, Int.one_mul, Int.add_zero, Int.zero_add] at p1 p2
  have q := k_d_tok (z := z) (n := n) (q := q) (p := p) (k := k) (zm := zm) (zr := zr) (kd := kd) (fr := fr) (to := to) (nu := nu) (sg := sg) (wo := wo) p1 p2
  refine ⟨[], rfl, fOk_cons (p_put3 rfl (by decide) ?_) fOk_nil⟩ <;> simp only [List.map, xv, fev, fvl, gtI, Int.one_mul, Int.add_zero, Int.zero_add, List.append_nil]
  exact q
def r_d_end : eRul := (11, [xP 141 [xv 0, xv 1, ([], 0), xv 2, xv 3, xv 4, xv 5, xv 6, xv 7, xv 8, xv 9, xv 10], (.inl [[(0, 0)]], [xv 5])], 0, [xP 145 [xv 0, xv 1, xv 3, xv 4, xv 2, ([], 0)]])
theorem r_d_end_ok : ruOk r_d_end := by
  intro ρ hl0 hp
  obtain ⟨z, t0, rfl, hl1⟩ := len_inv hl0
  obtain ⟨n, t1, rfl, hl2⟩ := len_inv hl1
  obtain ⟨k, t2, rfl, hl3⟩ := len_inv hl2
  obtain ⟨zm, t3, rfl, hl4⟩ := len_inv hl3
  obtain ⟨zr, t4, rfl, hl5⟩ := len_inv hl4
  obtain ⟨kd, t5, rfl, hl6⟩ := len_inv hl5
  obtain ⟨fr, t6, rfl, hl7⟩ := len_inv hl6
  obtain ⟨to, t7, rfl, hl8⟩ := len_inv hl7
  obtain ⟨nu, t8, rfl, hl9⟩ := len_inv hl8
  obtain ⟨sg, t9, rfl, hl10⟩ := len_inv hl9
  obtain ⟨wo, t10, rfl, hl11⟩ := len_inv hl10
  have hl := List.eq_nil_of_length_eq_zero hl11
  subst hl
  have p1 := p_get3 (by decide) (fOk_hd hp)
  have p2 := i_get (fOk_hd (fOk_tl hp))
  simp only [List.map, xv, fev, fvl, gtI, Int.one_mul, Int.add_zero, Int.zero_add] at p1 p2
  have q := k_d_end (z := z) (n := n) (k := k) (zm := zm) (zr := zr) (kd := kd) (fr := fr) (to := to) (nu := nu) (sg := sg) (wo := wo) p1 p2
  refine ⟨[], rfl, fOk_cons (p_put3 rfl (by decide) ?_) fOk_nil⟩ <;> simp only [List.map, xv, fev, fvl, gtI, Int.one_mul, Int.add_zero, Int.zero_add, List.append_nil]
  exact q
def r_d_k11 : eRul := (11, [xP 141 [xv 0, xv 1, ([], 0), xv 2, xv 3, xv 4, xv 5, xv 6, xv 7, xv 8, xv 9, xv 10], xP 76 [xv 5, xv 10, ([], 11), ([], 1)], xG (([(2, 1)], -39))], 0, [xP 142 [xv 0, xv 1, ([], 1), xv 7, xv 2, xv 3, xv 4]])
theorem r_d_k11_ok : ruOk r_d_k11 := by
  intro ρ hl0 hp
  obtain ⟨z, t0, rfl, hl1⟩ := len_inv hl0
  obtain ⟨n, t1, rfl, hl2⟩ := len_inv hl1
  obtain ⟨k, t2, rfl, hl3⟩ := len_inv hl2
  obtain ⟨zm, t3, rfl, hl4⟩ := len_inv hl3
  obtain ⟨zr, t4, rfl, hl5⟩ := len_inv hl4
  obtain ⟨kd, t5, rfl, hl6⟩ := len_inv hl5
  obtain ⟨fr, t6, rfl, hl7⟩ := len_inv hl6
  obtain ⟨to, t7, rfl, hl8⟩ := len_inv hl7
  obtain ⟨nu, t8, rfl, hl9⟩ := len_inv hl8
  obtain ⟨sg, t9, rfl, hl10⟩ := len_inv hl9
  obtain ⟨wo, t10, rfl, hl11⟩ := len_inv hl10
  have hl := List.eq_nil_of_length_eq_zero hl11
  subst hl
  have p1 := p_get3 (by decide) (fOk_hd hp)
  have p2 := p_get3 (by decide) (fOk_hd (fOk_tl hp))
  have p3 := gg_get (fOk_hd (fOk_tl (fOk_tl hp)))
  simp only [List.map, xv, fev, fvl, gtI, Int.one_mul, Int.add_zero, Int.zero_add] at p1 p2 p3
  have q := k_d_k11 (z := z) (n := n) (k := k) (zm := zm) (zr := zr) (kd := kd) (fr := fr) (to := to) (nu := nu) (sg := sg) (wo := wo) p1 p2 p3
  refine ⟨[], rfl, fOk_cons (p_put3 rfl (by decide) ?_) fOk_nil⟩ <;> simp only [List.map, xv, fev, fvl, gtI, Int.one_mul, Int.add_zero, Int.zero_add, List.append_nil]
  exact q
def r_d_m11 : eRul := (11, [xP 141 [xv 0, xv 1, ([], 0), xv 2, xv 3, xv 4, xv 5, xv 6, xv 7, xv 8, xv 9, xv 10], xP 76 [xv 5, xv 10, ([], 11), ([], 1)], xG (([(2, -1)], 40))], 0, [xP 145 [xv 0, xv 1, xv 3, xv 4, ([(6, -1)], -1), ([], 4)]])
theorem r_d_m11_ok : ruOk r_d_m11 := by
  intro ρ hl0 hp
  obtain ⟨z, t0, rfl, hl1⟩ := len_inv hl0
  obtain ⟨n, t1, rfl, hl2⟩ := len_inv hl1
  obtain ⟨k, t2, rfl, hl3⟩ := len_inv hl2
  obtain ⟨zm, t3, rfl, hl4⟩ := len_inv hl3
  obtain ⟨zr, t4, rfl, hl5⟩ := len_inv hl4
  obtain ⟨kd, t5, rfl, hl6⟩ := len_inv hl5
  obtain ⟨fr, t6, rfl, hl7⟩ := len_inv hl6
  obtain ⟨to, t7, rfl, hl8⟩ := len_inv hl7
  obtain ⟨nu, t8, rfl, hl9⟩ := len_inv hl8
  obtain ⟨sg, t9, rfl, hl10⟩ := len_inv hl9
  obtain ⟨wo, t10, rfl, hl11⟩ := len_inv hl10
  have hl := List.eq_nil_of_length_eq_zero hl11
  subst hl
  have p1 := p_get3 (by decide) (fOk_hd hp)
  have p2 := p_get3 (by decide) (fOk_hd (fOk_tl hp))
  have p3 := gg_get (fOk_hd (fOk_tl (fOk_tl hp)))
  simp only [List.map, xv, fev, fvl, gtI, Int.one_mul, Int.add_zero, Int.zero_add] at p1 p2 p3
  have q := k_d_m11 (z := z) (n := n) (k := k) (zm := zm) (zr := zr) (kd := kd) (fr := fr) (to := to) (nu := nu) (sg := sg) (wo := wo) p1 p2 p3
  refine ⟨[], rfl, fOk_cons (p_put3 rfl (by decide) ?_) fOk_nil⟩ <;> simp only [List.map, xv, fev, fvl, gtI, Int.one_mul, Int.add_zero, Int.zero_add, List.append_nil]
  exact q
def r_d_k12 : eRul := (11, [xP 141 [xv 0, xv 1, ([], 0), xv 2, xv 3, xv 4, xv 5, xv 6, xv 7, xv 8, xv 9, xv 10], xP 76 [xv 5, xv 10, ([], 12), ([], 1)], xG (([(2, 1)], -39))], 0, [xP 142 [xv 0, xv 1, ([], 2), xv 7, xv 2, xv 3, xv 4]])
theorem r_d_k12_ok : ruOk r_d_k12 := by
  intro ρ hl0 hp
  obtain ⟨z, t0, rfl, hl1⟩ := len_inv hl0
  obtain ⟨n, t1, rfl, hl2⟩ := len_inv hl1
  obtain ⟨k, t2, rfl, hl3⟩ := len_inv hl2
  obtain ⟨zm, t3, rfl, hl4⟩ := len_inv hl3
  obtain ⟨zr, t4, rfl, hl5⟩ := len_inv hl4
  obtain ⟨kd, t5, rfl, hl6⟩ := len_inv hl5
  obtain ⟨fr, t6, rfl, hl7⟩ := len_inv hl6
  obtain ⟨to, t7, rfl, hl8⟩ := len_inv hl7
  obtain ⟨nu, t8, rfl, hl9⟩ := len_inv hl8
  obtain ⟨sg, t9, rfl, hl10⟩ := len_inv hl9
  obtain ⟨wo, t10, rfl, hl11⟩ := len_inv hl10
  have hl := List.eq_nil_of_length_eq_zero hl11
  subst hl
  have p1 := p_get3 (by decide) (fOk_hd hp)
  have p2 := p_get3 (by decide) (fOk_hd (fOk_tl hp))
  have p3 := gg_get (fOk_hd (fOk_tl (fOk_tl hp)))
  simp only [List.map, xv, fev, fvl, gtI, Int.one_mul, Int.add_zero, Int.zero_add] at p1 p2 p3
  have q := k_d_k12 (z := z) (n := n) (k := k) (zm := zm) (zr := zr) (kd := kd) (fr := fr) (to := to) (nu := nu) (sg := sg) (wo := wo) p1 p2 p3
  refine ⟨[], rfl, fOk_cons (p_put3 rfl (by decide) ?_) fOk_nil⟩ <;> simp only [List.map, xv, fev, fvl, gtI, Int.one_mul, Int.add_zero, Int.zero_add, List.append_nil]
  exact q
def r_d_m12 : eRul := (11, [xP 141 [xv 0, xv 1, ([], 0), xv 2, xv 3, xv 4, xv 5, xv 6, xv 7, xv 8, xv 9, xv 10], xP 76 [xv 5, xv 10, ([], 12), ([], 1)], xG (([(2, -1)], 40))], 0, [xP 145 [xv 0, xv 1, xv 3, xv 4, ([(6, -1)], -1), ([], 4)]])
theorem r_d_m12_ok : ruOk r_d_m12 := by
  intro ρ hl0 hp
  obtain ⟨z, t0, rfl, hl1⟩ := len_inv hl0
  obtain ⟨n, t1, rfl, hl2⟩ := len_inv hl1
  obtain ⟨k, t2, rfl, hl3⟩ := len_inv hl2
  obtain ⟨zm, t3, rfl, hl4⟩ := len_inv hl3
  obtain ⟨zr, t4, rfl, hl5⟩ := len_inv hl4
  obtain ⟨kd, t5, rfl, hl6⟩ := len_inv hl5
  obtain ⟨fr, t6, rfl, hl7⟩ := len_inv hl6
  obtain ⟨to, t7, rfl, hl8⟩ := len_inv hl7
  obtain ⟨nu, t8, rfl, hl9⟩ := len_inv hl8
  obtain ⟨sg, t9, rfl, hl10⟩ := len_inv hl9
  obtain ⟨wo, t10, rfl, hl11⟩ := len_inv hl10
  have hl := List.eq_nil_of_length_eq_zero hl11
  subst hl
  have p1 := p_get3 (by decide) (fOk_hd hp)
  have p2 := p_get3 (by decide) (fOk_hd (fOk_tl hp))
  have p3 := gg_get (fOk_hd (fOk_tl (fOk_tl hp)))
  simp only [List.map, xv, fev, fvl, gtI, Int.one_mul, Int.add_zero, Int.zero_add] at p1 p2 p3
  have q := k_d_m12 (z := z) (n := n) (k := k) (zm := zm) (zr := zr) (kd := kd) (fr := fr) (to := to) (nu := nu) (sg := sg) (wo := wo) p1 p2 p3
  refine ⟨[], rfl, fOk_cons (p_put3 rfl (by decide) ?_) fOk_nil⟩ <;> simp only [List.map, xv, fev, fvl, gtI, Int.one_mul, Int.add_zero, Int.zero_add, List.append_nil]
  exact q
def r_d_g : eRul := (12, [xP 141 [xv 0, xv 1, ([], 0), xv 2, xv 3, xv 4, xv 5, xv 6, xv 7, xv 8, xv 9, xv 10], xP 79 [xv 5, xv 10, ([], 1)], xP 96 [xv 3, xv 4, ([], 13), ([], 2), xv 10, xv 11], xG (([(11, -1)], 0)), xG (([(2, 1)], -39))], 0, [xP 142 [xv 0, xv 1, ([], 3), xv 7, xv 2, xv 3, xv 4]])
theorem r_d_g_ok : ruOk r_d_g := by
  intro ρ hl0 hp
  obtain ⟨z, t0, rfl, hl1⟩ := len_inv hl0
  obtain ⟨n, t1, rfl, hl2⟩ := len_inv hl1
  obtain ⟨k, t2, rfl, hl3⟩ := len_inv hl2
  obtain ⟨zm, t3, rfl, hl4⟩ := len_inv hl3
  obtain ⟨zr, t4, rfl, hl5⟩ := len_inv hl4
  obtain ⟨kd, t5, rfl, hl6⟩ := len_inv hl5
  obtain ⟨fr, t6, rfl, hl7⟩ := len_inv hl6
  obtain ⟨to, t7, rfl, hl8⟩ := len_inv hl7
  obtain ⟨nu, t8, rfl, hl9⟩ := len_inv hl8
  obtain ⟨sg, t9, rfl, hl10⟩ := len_inv hl9
  obtain ⟨wo, t10, rfl, hl11⟩ := len_inv hl10
  obtain ⟨i, t11, rfl, hl12⟩ := len_inv hl11
  have hl := List.eq_nil_of_length_eq_zero hl12
  subst hl
  have p1 := p_get3 (by decide) (fOk_hd hp)
  have p2 := p_get3 (by decide) (fOk_hd (fOk_tl hp))
  have p3 := p_get3 (by decide) (fOk_hd (fOk_tl (fOk_tl hp)))
  have p4 := gg_get (fOk_hd (fOk_tl (fOk_tl (fOk_tl hp))))
  have p5 := gg_get (fOk_hd (fOk_tl (fOk_tl (fOk_tl (fOk_tl hp)))))
  simp only [List.map, xv, fev, fvl, gtI, Int.one_mul, Int.add_zero, Int.zero_add] at p1 p2 p3 p4 p5
  have q := k_d_g (z := z) (n := n) (k := k) (zm := zm) (zr := zr) (kd := kd) (fr := fr) (to := to) (nu := nu) (sg := sg) (wo := wo) (i := i) p1 p2 p3 p4 p5
  refine ⟨[], rfl, fOk_cons (p_put3 rfl (by decide) ?_) fOk_nil⟩ <;> simp only [List.map, xv, fev, fvl, gtI, Int.one_mul, Int.add_zero, Int.zero_add, List.append_nil]
  exact q
def r_d_g1 : eRul := (11, [xP 141 [xv 0, xv 1, ([], 0), xv 2, xv 3, xv 4, xv 5, xv 6, xv 7, xv 8, xv 9, xv 10], xP 97 [xv 5], xP 76 [xv 5, xv 10, ([], 11), ([], 0)], xP 76 [xv 5, xv 10, ([], 12), ([], 0)], xP 79 [xv 5, xv 10, ([], 0)]], 0, [xP 145 [xv 0, xv 1, xv 3, xv 4, ([(6, -1)], -1), ([], 1)]])
theorem r_d_g1_ok : ruOk r_d_g1 := by
  intro ρ hl0 hp
  obtain ⟨z, t0, rfl, hl1⟩ := len_inv hl0
  obtain ⟨n, t1, rfl, hl2⟩ := len_inv hl1
  obtain ⟨k, t2, rfl, hl3⟩ := len_inv hl2
  obtain ⟨zm, t3, rfl, hl4⟩ := len_inv hl3
  obtain ⟨zr, t4, rfl, hl5⟩ := len_inv hl4
  obtain ⟨kd, t5, rfl, hl6⟩ := len_inv hl5
  obtain ⟨fr, t6, rfl, hl7⟩ := len_inv hl6
  obtain ⟨to, t7, rfl, hl8⟩ := len_inv hl7
  obtain ⟨nu, t8, rfl, hl9⟩ := len_inv hl8
  obtain ⟨sg, t9, rfl, hl10⟩ := len_inv hl9
  obtain ⟨wo, t10, rfl, hl11⟩ := len_inv hl10
  have hl := List.eq_nil_of_length_eq_zero hl11
  subst hl
  have p1 := p_get3 (by decide) (fOk_hd hp)
  have p2 := p_get3 (by decide) (fOk_hd (fOk_tl hp))
  have p3 := p_get3 (by decide) (fOk_hd (fOk_tl (fOk_tl hp)))
  have p4 := p_get3 (by decide) (fOk_hd (fOk_tl (fOk_tl (fOk_tl hp))))
  have p5 := p_get3 (by decide) (fOk_hd (fOk_tl (fOk_tl (fOk_tl (fOk_tl hp)))))
  simp only [List.map, xv, fev, fvl, gtI, Int.one_mul, Int.add_zero, Int.zero_add] at p1 p2 p3 p4 p5
  have q := k_d_g1 (z := z) (n := n) (k := k) (zm := zm) (zr := zr) (kd := kd) (fr := fr) (to := to) (nu := nu) (sg := sg) (wo := wo) p1 p2 p3 p4 p5
  refine ⟨[], rfl, fOk_cons (p_put3 rfl (by decide) ?_) fOk_nil⟩ <;> simp only [List.map, xv, fev, fvl, gtI, Int.one_mul, Int.add_zero, Int.zero_add, List.append_nil]
  exact q
def r_d_g3 : eRul := (11, [xP 141 [xv 0, xv 1, ([], 0), xv 2, xv 3, xv 4, xv 5, xv 6, xv 7, xv 8, xv 9, xv 10], xP 79 [xv 5, xv 10, ([], 1)], xP 96 [xv 3, xv 4, ([], 13), ([], 2), xv 10, ([], -1)]], 0, [xP 145 [xv 0, xv 1, xv 3, xv 4, ([(6, -1)], -1), ([], 3)]])
theorem r_d_g3_ok : ruOk r_d_g3 := by
  intro ρ hl0 hp
  obtain ⟨z, t0, rfl, hl1⟩ := len_inv hl0
  obtain ⟨n, t1, rfl, hl2⟩ := len_inv hl1
  obtain ⟨k, t2, rfl, hl3⟩ := len_inv hl2
  obtain ⟨zm, t3, rfl, hl4⟩ := len_inv hl3
  obtain ⟨zr, t4, rfl, hl5⟩ := len_inv hl4
  obtain ⟨kd, t5, rfl, hl6⟩ := len_inv hl5
  obtain ⟨fr, t6, rfl, hl7⟩ := len_inv hl6
  obtain ⟨to, t7, rfl, hl8⟩ := len_inv hl7
  obtain ⟨nu, t8, rfl, hl9⟩ := len_inv hl8
  obtain ⟨sg, t9, rfl, hl10⟩ := len_inv hl9
  obtain ⟨wo, t10, rfl, hl11⟩ := len_inv hl10
  have hl := List.eq_nil_of_length_eq_zero hl11
  subst hl
  have p1 := p_get3 (by decide) (fOk_hd hp)
  have p2 := p_get3 (by decide) (fOk_hd (fOk_tl hp))
  have p3 := p_get3 (by decide) (fOk_hd (fOk_tl (fOk_tl hp)))
  simp only [List.map, xv, fev, fvl, gtI, Int.one_mul, Int.add_zero, Int.zero_add] at p1 p2 p3
  have q := k_d_g3 (z := z) (n := n) (k := k) (zm := zm) (zr := zr) (kd := kd) (fr := fr) (to := to) (nu := nu) (sg := sg) (wo := wo) p1 p2 p3
  refine ⟨[], rfl, fOk_cons (p_put3 rfl (by decide) ?_) fOk_nil⟩ <;> simp only [List.map, xv, fev, fvl, gtI, Int.one_mul, Int.add_zero, Int.zero_add, List.append_nil]
  exact q
def r_d_g4 : eRul := (12, [xP 141 [xv 0, xv 1, ([], 0), xv 2, xv 3, xv 4, xv 5, xv 6, xv 7, xv 8, xv 9, xv 10], xP 79 [xv 5, xv 10, ([], 1)], xP 96 [xv 3, xv 4, ([], 13), ([], 2), xv 10, xv 11], xG (([(11, -1)], 0)), xG (([(2, -1)], 40))], 0, [xP 145 [xv 0, xv 1, xv 3, xv 4, ([(6, -1)], -1), ([], 4)]])
theorem r_d_g4_ok : ruOk r_d_g4 := by
  intro ρ hl0 hp
  obtain ⟨z, t0, rfl, hl1⟩ := len_inv hl0
  obtain ⟨n, t1, rfl, hl2⟩ := len_inv hl1
  obtain ⟨k, t2, rfl, hl3⟩ := len_inv hl2
  obtain ⟨zm, t3, rfl, hl4⟩ := len_inv hl3
  obtain ⟨zr, t4, rfl, hl5⟩ := len_inv hl4
  obtain ⟨kd, t5, rfl, hl6⟩ := len_inv hl5
  obtain ⟨fr, t6, rfl, hl7⟩ := len_inv hl6
  obtain ⟨to, t7, rfl, hl8⟩ := len_inv hl7
  obtain ⟨nu, t8, rfl, hl9⟩ := len_inv hl8
  obtain ⟨sg, t9, rfl, hl10⟩ := len_inv hl9
  obtain ⟨wo, t10, rfl, hl11⟩ := len_inv hl10
  obtain ⟨i, t11, rfl, hl12⟩ := len_inv hl11
  have hl := List.eq_nil_of_length_eq_zero hl12
  subst hl
  have p1 := p_get3 (by decide) (fOk_hd hp)
  have p2 := p_get3 (by decide) (fOk_hd (fOk_tl hp))
  have p3 := p_get3 (by decide) (fOk_hd (fOk_tl (fOk_tl hp)))
  have p4 := gg_get (fOk_hd (fOk_tl (fOk_tl (fOk_tl hp))))
  have p5 := gg_get (fOk_hd (fOk_tl (fOk_tl (fOk_tl (fOk_tl hp)))))
  simp only [List.map, xv, fev, fvl, gtI, Int.one_mul, Int.add_zero, Int.zero_add] at p1 p2 p3 p4 p5
  have q := k_d_g4 (z := z) (n := n) (k := k) (zm := zm) (zr := zr) (kd := kd) (fr := fr) (to := to) (nu := nu) (sg := sg) (wo := wo) (i := i) p1 p2 p3 p4 p5
  refine ⟨[], rfl, fOk_cons (p_put3 rfl (by decide) ?_) fOk_nil⟩ <;> simp only [List.map, xv, fev, fvl, gtI, Int.one_mul, Int.add_zero, Int.zero_add, List.append_nil]
  exact q
def r_d_n1 : eRul := (11, [xP 141 [xv 0, xv 1, ([], 1), xv 2, xv 3, xv 4, xv 5, xv 6, xv 7, xv 8, xv 9, xv 10], (.inl [[(3, 3)]], [xv 5]), (.inl [[(0, 5)]], [xv 8])], 0, [xP 142 [xv 0, xv 1, ([], 6), xv 7, xv 2, xv 3, xv 4]])
theorem r_d_n1_ok : ruOk r_d_n1 := by
  intro ρ hl0 hp
  obtain ⟨z, t0, rfl, hl1⟩ := len_inv hl0
  obtain ⟨n, t1, rfl, hl2⟩ := len_inv hl1
  obtain ⟨k, t2, rfl, hl3⟩ := len_inv hl2
  obtain ⟨zm, t3, rfl, hl4⟩ := len_inv hl3
  obtain ⟨zr, t4, rfl, hl5⟩ := len_inv hl4
  obtain ⟨kd, t5, rfl, hl6⟩ := len_inv hl5
  obtain ⟨fr, t6, rfl, hl7⟩ := len_inv hl6
  obtain ⟨to, t7, rfl, hl8⟩ := len_inv hl7
  obtain ⟨nu, t8, rfl, hl9⟩ := len_inv hl8
  obtain ⟨sg, t9, rfl, hl10⟩ := len_inv hl9
  obtain ⟨wo, t10, rfl, hl11⟩ := len_inv hl10
  have hl := List.eq_nil_of_length_eq_zero hl11
  subst hl
  have p1 := p_get3 (by decide) (fOk_hd hp)
  have p2 := i_get (fOk_hd (fOk_tl hp))
  have p3 := i_get (fOk_hd (fOk_tl (fOk_tl hp)))
  simp only [List.map, xv, fev, fvl, gtI, Int.one_mul, Int.add_zero, Int.zero_add] at p1 p2 p3
  have q := k_d_n1 (z := z) (n := n) (k := k) (zm := zm) (zr := zr) (kd := kd) (fr := fr) (to := to) (nu := nu) (sg := sg) (wo := wo) p1 p2 p3
  refine ⟨[], rfl, fOk_cons (p_put3 rfl (by decide) ?_) fOk_nil⟩ <;> simp only [List.map, xv, fev, fvl, gtI, Int.one_mul, Int.add_zero, Int.zero_add, List.append_nil]
  exact q
def r_d_n1_1 : eRul := (11, [xP 141 [xv 0, xv 1, ([], 1), xv 2, xv 3, xv 4, xv 5, xv 6, xv 7, xv 8, xv 9, xv 10], xP 57 [xv 5]], 0, [xP 145 [xv 0, xv 1, xv 3, xv 4, ([(6, -1)], -1), ([], 1)]])
theorem r_d_n1_1_ok : ruOk r_d_n1_1 := by
  intro ρ hl0 hp
  obtain ⟨z, t0, rfl, hl1⟩ := len_inv hl0
  obtain ⟨n, t1, rfl, hl2⟩ := len_inv hl1
  obtain ⟨k, t2, rfl, hl3⟩ := len_inv hl2
  obtain ⟨zm, t3, rfl, hl4⟩ := len_inv hl3
  obtain ⟨zr, t4, rfl, hl5⟩ := len_inv hl4
  obtain ⟨kd, t5, rfl, hl6⟩ := len_inv hl5
  obtain ⟨fr, t6, rfl, hl7⟩ := len_inv hl6
  obtain ⟨to, t7, rfl, hl8⟩ := len_inv hl7
  obtain ⟨nu, t8, rfl, hl9⟩ := len_inv hl8
  obtain ⟨sg, t9, rfl, hl10⟩ := len_inv hl9
  obtain ⟨wo, t10, rfl, hl11⟩ := len_inv hl10
  have hl := List.eq_nil_of_length_eq_zero hl11
  subst hl
  have p1 := p_get3 (by decide) (fOk_hd hp)
  have p2 := p_get3 (by decide) (fOk_hd (fOk_tl hp))
  simp only [List.map, xv, fev, fvl, gtI, Int.one_mul, Int.add_zero, Int.zero_add] at p1 p2
  have q := k_d_n1_1 (z := z) (n := n) (k := k) (zm := zm) (zr := zr) (kd := kd) (fr := fr) (to := to) (nu := nu) (sg := sg) (wo := wo) p1 p2
  refine ⟨[], rfl, fOk_cons (p_put3 rfl (by decide) ?_) fOk_nil⟩ <;> simp only [List.map, xv, fev, fvl, gtI, Int.one_mul, Int.add_zero, Int.zero_add, List.append_nil]
  exact q
def r_d_n1_2 : eRul := (11, [xP 141 [xv 0, xv 1, ([], 1), xv 2, xv 3, xv 4, xv 5, xv 6, xv 7, xv 8, xv 9, xv 10], (.inl [[(3, 3)]], [xv 5]), xP 58 [xv 8, ([], 0), ([], 5), ([], 0)]], 0, [xP 145 [xv 0, xv 1, xv 3, xv 4, ([(6, -1)], -1), ([], 2)]])
theorem r_d_n1_2_ok : ruOk r_d_n1_2 := by
  intro ρ hl0 hp
  obtain ⟨z, t0, rfl, hl1⟩ := len_inv hl0
  obtain ⟨n, t1, rfl, hl2⟩ := len_inv hl1
  obtain ⟨k, t2, rfl, hl3⟩ := len_inv hl2
  obtain ⟨zm, t3, rfl, hl4⟩ := len_inv hl3
  obtain ⟨zr, t4, rfl, hl5⟩ := len_inv hl4
  obtain ⟨kd, t5, rfl, hl6⟩ := len_inv hl5
  obtain ⟨fr, t6, rfl, hl7⟩ := len_inv hl6
  obtain ⟨to, t7, rfl, hl8⟩ := len_inv hl7
  obtain ⟨nu, t8, rfl, hl9⟩ := len_inv hl8
  obtain ⟨sg, t9, rfl, hl10⟩ := len_inv hl9
  obtain ⟨wo, t10, rfl, hl11⟩ := len_inv hl10
  have hl := List.eq_nil_of_length_eq_zero hl11
  subst hl
  have p1 := p_get3 (by decide) (fOk_hd hp)
  have p2 := i_get (fOk_hd (fOk_tl hp))
  have p3 := p_get3 (by decide) (fOk_hd (fOk_tl (fOk_tl hp)))
  simp only [List.map, xv, fev, fvl, gtI, Int.one_mul, Int.add_zero, Int.zero_add] at p1 p2 p3
  have q := k_d_n1_2 (z := z) (n := n) (k := k) (zm := zm) (zr := zr) (kd := kd) (fr := fr) (to := to) (nu := nu) (sg := sg) (wo := wo) p1 p2 p3
  refine ⟨[], rfl, fOk_cons (p_put3 rfl (by decide) ?_) fOk_nil⟩ <;> simp only [List.map, xv, fev, fvl, gtI, Int.one_mul, Int.add_zero, Int.zero_add, List.append_nil]
  exact q
def r_d_n2 : eRul := (11, [xP 141 [xv 0, xv 1, ([], 2), xv 2, xv 3, xv 4, xv 5, xv 6, xv 7, xv 8, xv 9, xv 10], (.inl [[(3, 3)]], [xv 5]), (.inl [[(1, 60)]], [xv 8])], 0, [xP 142 [xv 0, xv 1, ([], 6), xv 7, xv 2, xv 3, xv 4]])
theorem r_d_n2_ok : ruOk r_d_n2 := by
  intro ρ hl0 hp
  obtain ⟨z, t0, rfl, hl1⟩ := len_inv hl0
  obtain ⟨n, t1, rfl, hl2⟩ := len_inv hl1
  obtain ⟨k, t2, rfl, hl3⟩ := len_inv hl2
  obtain ⟨zm, t3, rfl, hl4⟩ := len_inv hl3
  obtain ⟨zr, t4, rfl, hl5⟩ := len_inv hl4
  obtain ⟨kd, t5, rfl, hl6⟩ := len_inv hl5
  obtain ⟨fr, t6, rfl, hl7⟩ := len_inv hl6
  obtain ⟨to, t7, rfl, hl8⟩ := len_inv hl7
  obtain ⟨nu, t8, rfl, hl9⟩ := len_inv hl8
  obtain ⟨sg, t9, rfl, hl10⟩ := len_inv hl9
  obtain ⟨wo, t10, rfl, hl11⟩ := len_inv hl10
  have hl := List.eq_nil_of_length_eq_zero hl11
  subst hl
  have p1 := p_get3 (by decide) (fOk_hd hp)
  have p2 := i_get (fOk_hd (fOk_tl hp))
  have p3 := i_get (fOk_hd (fOk_tl (fOk_tl hp)))
  simp only [List.map, xv, fev, fvl, gtI, Int.one_mul, Int.add_zero, Int.zero_add] at p1 p2 p3
  have q := k_d_n2 (z := z) (n := n) (k := k) (zm := zm) (zr := zr) (kd := kd) (fr := fr) (to := to) (nu := nu) (sg := sg) (wo := wo) p1 p2 p3
  refine ⟨[], rfl, fOk_cons (p_put3 rfl (by decide) ?_) fOk_nil⟩ <;> simp only [List.map, xv, fev, fvl, gtI, Int.one_mul, Int.add_zero, Int.zero_add, List.append_nil]
  exact q
def r_d_n2_1 : eRul := (11, [xP 141 [xv 0, xv 1, ([], 2), xv 2, xv 3, xv 4, xv 5, xv 6, xv 7, xv 8, xv 9, xv 10], xP 57 [xv 5]], 0, [xP 145 [xv 0, xv 1, xv 3, xv 4, ([(6, -1)], -1), ([], 1)]])
theorem r_d_n2_1_ok : ruOk r_d_n2_1 := by
  intro ρ hl0 hp
  obtain ⟨z, t0, rfl, hl1⟩ := len_inv hl0
  obtain ⟨n, t1, rfl, hl2⟩ := len_inv hl1
  obtain ⟨k, t2, rfl, hl3⟩ := len_inv hl2
  obtain ⟨zm, t3, rfl, hl4⟩ := len_inv hl3
  obtain ⟨zr, t4, rfl, hl5⟩ := len_inv hl4
  obtain ⟨kd, t5, rfl, hl6⟩ := len_inv hl5
  obtain ⟨fr, t6, rfl, hl7⟩ := len_inv hl6
  obtain ⟨to, t7, rfl, hl8⟩ := len_inv hl7
  obtain ⟨nu, t8, rfl, hl9⟩ := len_inv hl8
  obtain ⟨sg, t9, rfl, hl10⟩ := len_inv hl9
  obtain ⟨wo, t10, rfl, hl11⟩ := len_inv hl10
  have hl := List.eq_nil_of_length_eq_zero hl11
  subst hl
  have p1 := p_get3 (by decide) (fOk_hd hp)
  have p2 := p_get3 (by decide) (fOk_hd (fOk_tl hp))
  simp only [List.map, xv, fev, fvl, gtI, Int.one_mul, Int.add_zero, Int.zero_add] at p1 p2
  have q := k_d_n2_1 (z := z) (n := n) (k := k) (zm := zm) (zr := zr) (kd := kd) (fr := fr) (to := to) (nu := nu) (sg := sg) (wo := wo) p1 p2
  refine ⟨[], rfl, fOk_cons (p_put3 rfl (by decide) ?_) fOk_nil⟩ <;> simp only [List.map, xv, fev, fvl, gtI, Int.one_mul, Int.add_zero, Int.zero_add, List.append_nil]
  exact q
def r_d_n2_2 : eRul := (11, [xP 141 [xv 0, xv 1, ([], 2), xv 2, xv 3, xv 4, xv 5, xv 6, xv 7, xv 8, xv 9, xv 10], (.inl [[(3, 3)]], [xv 5]), xP 58 [xv 8, ([], 1), ([], 60), ([], 0)]], 0, [xP 145 [xv 0, xv 1, xv 3, xv 4, ([(6, -1)], -1), ([], 2)]])
theorem r_d_n2_2_ok : ruOk r_d_n2_2 := by
  intro ρ hl0 hp
  obtain ⟨z, t0, rfl, hl1⟩ := len_inv hl0
  obtain ⟨n, t1, rfl, hl2⟩ := len_inv hl1
  obtain ⟨k, t2, rfl, hl3⟩ := len_inv hl2
  obtain ⟨zm, t3, rfl, hl4⟩ := len_inv hl3
  obtain ⟨zr, t4, rfl, hl5⟩ := len_inv hl4
  obtain ⟨kd, t5, rfl, hl6⟩ := len_inv hl5
  obtain ⟨fr, t6, rfl, hl7⟩ := len_inv hl6
  obtain ⟨to, t7, rfl, hl8⟩ := len_inv hl7
  obtain ⟨nu, t8, rfl, hl9⟩ := len_inv hl8
  obtain ⟨sg, t9, rfl, hl10⟩ := len_inv hl9
  obtain ⟨wo, t10, rfl, hl11⟩ := len_inv hl10
  have hl := List.eq_nil_of_length_eq_zero hl11
  subst hl
  have p1 := p_get3 (by decide) (fOk_hd hp)
  have p2 := i_get (fOk_hd (fOk_tl hp))
  have p3 := p_get3 (by decide) (fOk_hd (fOk_tl (fOk_tl hp)))
  simp only [List.map, xv, fev, fvl, gtI, Int.one_mul, Int.add_zero, Int.zero_add] at p1 p2 p3
  have q := k_d_n2_2 (z := z) (n := n) (k := k) (zm := zm) (zr := zr) (kd := kd) (fr := fr) (to := to) (nu := nu) (sg := sg) (wo := wo) p1 p2 p3
  refine ⟨[], rfl, fOk_cons (p_put3 rfl (by decide) ?_) fOk_nil⟩ <;> simp only [List.map, xv, fev, fvl, gtI, Int.one_mul, Int.add_zero, Int.zero_add, List.append_nil]
  exact q
def r_d_n5 : eRul := (11, [xP 141 [xv 0, xv 1, ([], 5), xv 2, xv 3, xv 4, xv 5, xv 6, xv 7, xv 8, xv 9, xv 10], (.inl [[(3, 3)]], [xv 5]), (.inl [[(1, 30)]], [xv 8])], 0, [xP 142 [xv 0, xv 1, ([], 6), xv 7, xv 2, xv 3, xv 4]])
theorem r_d_n5_ok : ruOk r_d_n5 := by
  intro ρ hl0 hp
  obtain ⟨z, t0, rfl, hl1⟩ := len_inv hl0
  obtain ⟨n, t1, rfl, hl2⟩ := len_inv hl1
  obtain ⟨k, t2, rfl, hl3⟩ := len_inv hl2
  obtain ⟨zm, t3, rfl, hl4⟩ := len_inv hl3
  obtain ⟨zr, t4, rfl, hl5⟩ := len_inv hl4
  obtain ⟨kd, t5, rfl, hl6⟩ := len_inv hl5
  obtain ⟨fr, t6, rfl, hl7⟩ := len_inv hl6
  obtain ⟨to, t7, rfl, hl8⟩ := len_inv hl7
  obtain ⟨nu, t8, rfl, hl9⟩ := len_inv hl8
  obtain ⟨sg, t9, rfl, hl10⟩ := len_inv hl9
  obtain ⟨wo, t10, rfl, hl11⟩ := len_inv hl10
  have hl := List.eq_nil_of_length_eq_zero hl11
  subst hl
  have p1 := p_get3 (by decide) (fOk_hd hp)
  have p2 := i_get (fOk_hd (fOk_tl hp))
  have p3 := i_get (fOk_hd (fOk_tl (fOk_tl hp)))
  simp only [List.map, xv, fev, fvl, gtI, Int.one_mul, Int.add_zero, Int.zero_add] at p1 p2 p3
  have q := k_d_n5 (z := z) (n := n) (k := k) (zm := zm) (zr := zr) (kd := kd) (fr := fr) (to := to) (nu := nu) (sg := sg) (wo := wo) p1 p2 p3
  refine ⟨[], rfl, fOk_cons (p_put3 rfl (by decide) ?_) fOk_nil⟩ <;> simp only [List.map, xv, fev, fvl, gtI, Int.one_mul, Int.add_zero, Int.zero_add, List.append_nil]
  exact q
def r_d_n5_1 : eRul := (11, [xP 141 [xv 0, xv 1, ([], 5), xv 2, xv 3, xv 4, xv 5, xv 6, xv 7, xv 8, xv 9, xv 10], xP 57 [xv 5]], 0, [xP 145 [xv 0, xv 1, xv 3, xv 4, ([(6, -1)], -1), ([], 1)]])
theorem r_d_n5_1_ok : ruOk r_d_n5_1 := by
  intro ρ hl0 hp
  obtain ⟨z, t0, rfl, hl1⟩ := len_inv hl0
  obtain ⟨n, t1, rfl, hl2⟩ := len_inv hl1
  obtain ⟨k, t2, rfl, hl3⟩ := len_inv hl2
  obtain ⟨zm, t3, rfl, hl4⟩ := len_inv hl3
  obtain ⟨zr, t4, rfl, hl5⟩ := len_inv hl4
  obtain ⟨kd, t5, rfl, hl6⟩ := len_inv hl5
  obtain ⟨fr, t6, rfl, hl7⟩ := len_inv hl6
  obtain ⟨to, t7, rfl, hl8⟩ := len_inv hl7
  obtain ⟨nu, t8, rfl, hl9⟩ := len_inv hl8
  obtain ⟨sg, t9, rfl, hl10⟩ := len_inv hl9
  obtain ⟨wo, t10, rfl, hl11⟩ := len_inv hl10
  have hl := List.eq_nil_of_length_eq_zero hl11
  subst hl
  have p1 := p_get3 (by decide) (fOk_hd hp)
  have p2 := p_get3 (by decide) (fOk_hd (fOk_tl hp))
  simp only [List.map, xv, fev, fvl, gtI, Int.one_mul, Int.add_zero, Int.zero_add] at p1 p2
  have q := k_d_n5_1 (z := z) (n := n) (k := k) (zm := zm) (zr := zr) (kd := kd) (fr := fr) (to := to) (nu := nu) (sg := sg) (wo := wo) p1 p2
  refine ⟨[], rfl, fOk_cons (p_put3 rfl (by decide) ?_) fOk_nil⟩ <;> simp only [List.map, xv, fev, fvl, gtI, Int.one_mul, Int.add_zero, Int.zero_add, List.append_nil]
  exact q
def r_d_n5_2 : eRul := (11, [xP 141 [xv 0, xv 1, ([], 5), xv 2, xv 3, xv 4, xv 5, xv 6, xv 7, xv 8, xv 9, xv 10], (.inl [[(3, 3)]], [xv 5]), xP 58 [xv 8, ([], 1), ([], 30), ([], 0)]], 0, [xP 145 [xv 0, xv 1, xv 3, xv 4, ([(6, -1)], -1), ([], 2)]])
theorem r_d_n5_2_ok : ruOk r_d_n5_2 := by
  intro ρ hl0 hp
  obtain ⟨z, t0, rfl, hl1⟩ := len_inv hl0
  obtain ⟨n, t1, rfl, hl2⟩ := len_inv hl1
  obtain ⟨k, t2, rfl, hl3⟩ := len_inv hl2
  obtain ⟨zm, t3, rfl, hl4⟩ := len_inv hl3
  obtain ⟨zr, t4, rfl, hl5⟩ := len_inv hl4
  obtain ⟨kd, t5, rfl, hl6⟩ := len_inv hl5
  obtain ⟨fr, t6, rfl, hl7⟩ := len_inv hl6
  obtain ⟨to, t7, rfl, hl8⟩ := len_inv hl7
  obtain ⟨nu, t8, rfl, hl9⟩ := len_inv hl8
  obtain ⟨sg, t9, rfl, hl10⟩ := len_inv hl9
  obtain ⟨wo, t10, rfl, hl11⟩ := len_inv hl10
  have hl := List.eq_nil_of_length_eq_zero hl11
  subst hl
  have p1 := p_get3 (by decide) (fOk_hd hp)
  have p2 := i_get (fOk_hd (fOk_tl hp))
  have p3 := p_get3 (by decide) (fOk_hd (fOk_tl (fOk_tl hp)))
  simp only [List.map, xv, fev, fvl, gtI, Int.one_mul, Int.add_zero, Int.zero_add] at p1 p2 p3
  have q := k_d_n5_2 (z := z) (n := n) (k := k) (zm := zm) (zr := zr) (kd := kd) (fr := fr) (to := to) (nu := nu) (sg := sg) (wo := wo) p1 p2 p3
  refine ⟨[], rfl, fOk_cons (p_put3 rfl (by decide) ?_) fOk_nil⟩ <;> simp only [List.map, xv, fev, fvl, gtI, Int.one_mul, Int.add_zero, Int.zero_add, List.append_nil]
  exact q
def r_d_lv : eRul := (11, [xP 141 [xv 0, xv 1, ([], 3), xv 2, xv 3, xv 4, xv 5, xv 6, xv 7, xv 8, xv 9, xv 10], xP 76 [xv 5, xv 10, ([], 10), ([], 1)]], 0, [xP 142 [xv 0, xv 1, ([], 6), xv 7, xv 2, xv 3, xv 4]])
theorem r_d_lv_ok : ruOk r_d_lv := by
  intro ρ hl0 hp
  obtain ⟨z, t0, rfl, hl1⟩ := len_inv hl0
  obtain ⟨n, t1, rfl, hl2⟩ := len_inv hl1
  obtain ⟨k, t2, rfl, hl3⟩ := len_inv hl2
  obtain ⟨zm, t3, rfl, hl4⟩ := len_inv hl3
  obtain ⟨zr, t4, rfl, hl5⟩ := len_inv hl4
  obtain ⟨kd, t5, rfl, hl6⟩ := len_inv hl5
  obtain ⟨fr, t6, rfl, hl7⟩ := len_inv hl6
  obtain ⟨to, t7, rfl, hl8⟩ := len_inv hl7
  obtain ⟨nu, t8, rfl, hl9⟩ := len_inv hl8
  obtain ⟨sg, t9, rfl, hl10⟩ := len_inv hl9
  obtain ⟨wo, t10, rfl, hl11⟩ := len_inv hl10
  have hl := List.eq_nil_of_length_eq_zero hl11
  subst hl
  have p1 := p_get3 (by decide) (fOk_hd hp)
  have p2 := p_get3 (by decide) (fOk_hd (fOk_tl hp))
  simp only [List.map, xv, fev, fvl, gtI, Int.one_mul, Int.add_zero, Int.zero_add] at p1 p2
  have q := k_d_lv (z := z) (n := n) (k := k) (zm := zm) (zr := zr) (kd := kd) (fr := fr) (to := to) (nu := nu) (sg := sg) (wo := wo) p1 p2
  refine ⟨[], rfl, fOk_cons (p_put3 rfl (by decide) ?_) fOk_nil⟩ <;> simp only [List.map, xv, fev, fvl, gtI, Int.one_mul, Int.add_zero, Int.zero_add, List.append_nil]
  exact q
def r_d_tk : eRul := (11, [xP 141 [xv 0, xv 1, ([], 3), xv 2, xv 3, xv 4, xv 5, xv 6, xv 7, xv 8, xv 9, xv 10], xP 76 [xv 5, xv 10, ([], 9), ([], 1)]], 0, [xP 142 [xv 0, xv 1, ([], 4), xv 7, xv 2, xv 3, xv 4]])
theorem r_d_tk_ok : ruOk r_d_tk := by
  intro ρ hl0 hp
  obtain ⟨z, t0, rfl, hl1⟩ := len_inv hl0
  obtain ⟨n, t1, rfl, hl2⟩ := len_inv hl1
  obtain ⟨k, t2, rfl, hl3⟩ := len_inv hl2
  obtain ⟨zm, t3, rfl, hl4⟩ := len_inv hl3
  obtain ⟨zr, t4, rfl, hl5⟩ := len_inv hl4
  obtain ⟨kd, t5, rfl, hl6⟩ := len_inv hl5
  obtain ⟨fr, t6, rfl, hl7⟩ := len_inv hl6
  obtain ⟨to, t7, rfl, hl8⟩ := len_inv hl7
  obtain ⟨nu, t8, rfl, hl9⟩ := len_inv hl8
  obtain ⟨sg, t9, rfl, hl10⟩ := len_inv hl9
  obtain ⟨wo, t10, rfl, hl11⟩ := len_inv hl10
  have hl := List.eq_nil_of_length_eq_zero hl11
  subst hl
  have p1 := p_get3 (by decide) (fOk_hd hp)
  have p2 := p_get3 (by decide) (fOk_hd (fOk_tl hp))
  simp only [List.map, xv, fev, fvl, gtI, Int.one_mul, Int.add_zero, Int.zero_add] at p1 p2
  have q := k_d_tk (z := z) (n := n) (k := k) (zm := zm) (zr := zr) (kd := kd) (fr := fr) (to := to) (nu := nu) (sg := sg) (wo := wo) p1 p2
  refine ⟨[], rfl, fOk_cons (p_put3 rfl (by decide) ?_) fOk_nil⟩ <;> simp only [List.map, xv, fev, fvl, gtI, Int.one_mul, Int.add_zero, Int.zero_add, List.append_nil]
  exact q
def r_d_vb : eRul := (11, [xP 141 [xv 0, xv 1, ([], 3), xv 2, xv 3, xv 4, xv 5, xv 6, xv 7, xv 8, xv 9, xv 10], xP 76 [xv 5, xv 10, ([], 9), ([], 0)], xP 76 [xv 5, xv 10, ([], 10), ([], 0)]], 0, [xP 145 [xv 0, xv 1, xv 3, xv 4, ([(6, -1)], -1), ([], 1)]])
theorem r_d_vb_ok : ruOk r_d_vb := by
  intro ρ hl0 hp
  obtain ⟨z, t0, rfl, hl1⟩ := len_inv hl0
  obtain ⟨n, t1, rfl, hl2⟩ := len_inv hl1
  obtain ⟨k, t2, rfl, hl3⟩ := len_inv hl2
  obtain ⟨zm, t3, rfl, hl4⟩ := len_inv hl3
  obtain ⟨zr, t4, rfl, hl5⟩ := len_inv hl4
  obtain ⟨kd, t5, rfl, hl6⟩ := len_inv hl5
  obtain ⟨fr, t6, rfl, hl7⟩ := len_inv hl6
  obtain ⟨to, t7, rfl, hl8⟩ := len_inv hl7
  obtain ⟨nu, t8, rfl, hl9⟩ := len_inv hl8
  obtain ⟨sg, t9, rfl, hl10⟩ := len_inv hl9
  obtain ⟨wo, t10, rfl, hl11⟩ := len_inv hl10
  have hl := List.eq_nil_of_length_eq_zero hl11
  subst hl
  have p1 := p_get3 (by decide) (fOk_hd hp)
  have p2 := p_get3 (by decide) (fOk_hd (fOk_tl hp))
  have p3 := p_get3 (by decide) (fOk_hd (fOk_tl (fOk_tl hp)))
  simp only [List.map, xv, fev, fvl, gtI, Int.one_mul, Int.add_zero, Int.zero_add] at p1 p2 p3
  have q := k_d_vb (z := z) (n := n) (k := k) (zm := zm) (zr := zr) (kd := kd) (fr := fr) (to := to) (nu := nu) (sg := sg) (wo := wo) p1 p2 p3
  refine ⟨[], rfl, fOk_cons (p_put3 rfl (by decide) ?_) fOk_nil⟩ <;> simp only [List.map, xv, fev, fvl, gtI, Int.one_mul, Int.add_zero, Int.zero_add, List.append_nil]
  exact q
def r_d_r : eRul := (12, [xP 141 [xv 0, xv 1, ([], 4), xv 2, xv 3, xv 4, xv 5, xv 6, xv 7, xv 8, xv 9, xv 10], xP 79 [xv 5, xv 10, ([], 1)], xP 96 [xv 3, xv 4, ([], 5), ([], 1), xv 10, xv 11], xG (([(11, -1)], 0))], 0, [xP 142 [xv 0, xv 1, ([], 5), xv 7, xv 2, xv 3, xv 4]])
theorem r_d_r_ok : ruOk r_d_r := by
  intro ρ hl0 hp
  obtain ⟨z, t0, rfl, hl1⟩ := len_inv hl0
  obtain ⟨n, t1, rfl, hl2⟩ := len_inv hl1
  obtain ⟨k, t2, rfl, hl3⟩ := len_inv hl2
  obtain ⟨zm, t3, rfl, hl4⟩ := len_inv hl3
  obtain ⟨zr, t4, rfl, hl5⟩ := len_inv hl4
  obtain ⟨kd, t5, rfl, hl6⟩ := len_inv hl5
  obtain ⟨fr, t6, rfl, hl7⟩ := len_inv hl6
  obtain ⟨to, t7, rfl, hl8⟩ := len_inv hl7
  obtain ⟨nu, t8, rfl, hl9⟩ := len_inv hl8
  obtain ⟨sg, t9, rfl, hl10⟩ := len_inv hl9
  obtain ⟨wo, t10, rfl, hl11⟩ := len_inv hl10
  obtain ⟨i, t11, rfl, hl12⟩ := len_inv hl11
  have hl := List.eq_nil_of_length_eq_zero hl12
  subst hl
  have p1 := p_get3 (by decide) (fOk_hd hp)
  have p2 := p_get3 (by decide) (fOk_hd (fOk_tl hp))
  have p3 := p_get3 (by decide) (fOk_hd (fOk_tl (fOk_tl hp)))
  have p4 := gg_get (fOk_hd (fOk_tl (fOk_tl (fOk_tl hp))))
  simp only [List.map, xv, fev, fvl, gtI, Int.one_mul, Int.add_zero, Int.zero_add] at p1 p2 p3 p4
  have q := k_d_r (z := z) (n := n) (k := k) (zm := zm) (zr := zr) (kd := kd) (fr := fr) (to := to) (nu := nu) (sg := sg) (wo := wo) (i := i) p1 p2 p3 p4
  refine ⟨[], rfl, fOk_cons (p_put3 rfl (by decide) ?_) fOk_nil⟩ <;> simp only [List.map, xv, fev, fvl, gtI, Int.one_mul, Int.add_zero, Int.zero_add, List.append_nil]
  exact q
def r_d_r1 : eRul := (11, [xP 141 [xv 0, xv 1, ([], 4), xv 2, xv 3, xv 4, xv 5, xv 6, xv 7, xv 8, xv 9, xv 10], xP 79 [xv 5, xv 10, ([], 0)]], 0, [xP 145 [xv 0, xv 1, xv 3, xv 4, ([(6, -1)], -1), ([], 1)]])
theorem r_d_r1_ok : ruOk r_d_r1 := by
  intro ρ hl0 hp
  obtain ⟨z, t0, rfl, hl1⟩ := len_inv hl0
  obtain ⟨n, t1, rfl, hl2⟩ := len_inv hl1
  obtain ⟨k, t2, rfl, hl3⟩ := len_inv hl2
  obtain ⟨zm, t3, rfl, hl4⟩ := len_inv hl3
  obtain ⟨zr, t4, rfl, hl5⟩ := len_inv hl4
  obtain ⟨kd, t5, rfl, hl6⟩ := len_inv hl5
  obtain ⟨fr, t6, rfl, hl7⟩ := len_inv hl6
  obtain ⟨to, t7, rfl, hl8⟩ := len_inv hl7
  obtain ⟨nu, t8, rfl, hl9⟩ := len_inv hl8
  obtain ⟨sg, t9, rfl, hl10⟩ := len_inv hl9
  obtain ⟨wo, t10, rfl, hl11⟩ := len_inv hl10
  have hl := List.eq_nil_of_length_eq_zero hl11
  subst hl
  have p1 := p_get3 (by decide) (fOk_hd hp)
  have p2 := p_get3 (by decide) (fOk_hd (fOk_tl hp))
  simp only [List.map, xv, fev, fvl, gtI, Int.one_mul, Int.add_zero, Int.zero_add] at p1 p2
  have q := k_d_r1 (z := z) (n := n) (k := k) (zm := zm) (zr := zr) (kd := kd) (fr := fr) (to := to) (nu := nu) (sg := sg) (wo := wo) p1 p2
  refine ⟨[], rfl, fOk_cons (p_put3 rfl (by decide) ?_) fOk_nil⟩ <;> simp only [List.map, xv, fev, fvl, gtI, Int.one_mul, Int.add_zero, Int.zero_add, List.append_nil]
  exact q
def r_d_r3 : eRul := (11, [xP 141 [xv 0, xv 1, ([], 4), xv 2, xv 3, xv 4, xv 5, xv 6, xv 7, xv 8, xv 9, xv 10], xP 79 [xv 5, xv 10, ([], 1)], xP 96 [xv 3, xv 4, ([], 5), ([], 1), xv 10, ([], -1)]], 0, [xP 145 [xv 0, xv 1, xv 3, xv 4, ([(6, -1)], -1), ([], 3)]])
theorem r_d_r3_ok : ruOk r_d_r3 := by
  intro ρ hl0 hp
  obtain ⟨z, t0, rfl, hl1⟩ := len_inv hl0
  obtain ⟨n, t1, rfl, hl2⟩ := len_inv hl1
  obtain ⟨k, t2, rfl, hl3⟩ := len_inv hl2
  obtain ⟨zm, t3, rfl, hl4⟩ := len_inv hl3
  obtain ⟨zr, t4, rfl, hl5⟩ := len_inv hl4
  obtain ⟨kd, t5, rfl, hl6⟩ := len_inv hl5
  obtain ⟨fr, t6, rfl, hl7⟩ := len_inv hl6
  obtain ⟨to, t7, rfl, hl8⟩ := len_inv hl7
  obtain ⟨nu, t8, rfl, hl9⟩ := len_inv hl8
  obtain ⟨sg, t9, rfl, hl10⟩ := len_inv hl9
  obtain ⟨wo, t10, rfl, hl11⟩ := len_inv hl10
  have hl := List.eq_nil_of_length_eq_zero hl11
  subst hl
  have p1 := p_get3 (by decide) (fOk_hd hp)
  have p2 := p_get3 (by decide) (fOk_hd (fOk_tl hp))
  have p3 := p_get3 (by decide) (fOk_hd (fOk_tl (fOk_tl hp)))
  simp only [List.map, xv, fev, fvl, gtI, Int.one_mul, Int.add_zero, Int.zero_add] at p1 p2 p3
  have q := k_d_r3 (z := z) (n := n) (k := k) (zm := zm) (zr := zr) (kd := kd) (fr := fr) (to := to) (nu := nu) (sg := sg) (wo := wo) p1 p2 p3
  refine ⟨[], rfl, fOk_cons (p_put3 rfl (by decide) ?_) fOk_nil⟩ <;> simp only [List.map, xv, fev, fvl, gtI, Int.one_mul, Int.add_zero, Int.zero_add, List.append_nil]
  exact q
def r_d_s : eRul := (11, [xP 141 [xv 0, xv 1, ([], 6), xv 2, xv 3, xv 4, xv 5, xv 6, xv 7, xv 8, xv 9, xv 10], xP 56 [xv 5, xv 9, ([], 59), ([], 1)]], 0, [xP 142 [xv 0, xv 1, ([], 0), xv 7, ([(2, 1)], 1), xv 3, xv 4]])
theorem r_d_s_ok : ruOk r_d_s := by
  intro ρ hl0 hp
  obtain ⟨z, t0, rfl, hl1⟩ := len_inv hl0
  obtain ⟨n, t1, rfl, hl2⟩ := len_inv hl1
  obtain ⟨k, t2, rfl, hl3⟩ := len_inv hl2
  obtain ⟨zm, t3, rfl, hl4⟩ := len_inv hl3
  obtain ⟨zr, t4, rfl, hl5⟩ := len_inv hl4
  obtain ⟨kd, t5, rfl, hl6⟩ := len_inv hl5
  obtain ⟨fr, t6, rfl, hl7⟩ := len_inv hl6
  obtain ⟨to, t7, rfl, hl8⟩ := len_inv hl7
  obtain ⟨nu, t8, rfl, hl9⟩ := len_inv hl8
  obtain ⟨sg, t9, rfl, hl10⟩ := len_inv hl9
  obtain ⟨wo, t10, rfl, hl11⟩ := len_inv hl10
  have hl := List.eq_nil_of_length_eq_zero hl11
  subst hl
  have p1 := p_get3 (by decide) (fOk_hd hp)
  have p2 := p_get3 (by decide) (fOk_hd (fOk_tl hp))
  simp only [List.map, xv, fev, fvl, gtI, Int.one_mul, Int.add_zero, Int.zero_add] at p1 p2
  have q := k_d_s (z := z) (n := n) (k := k) (zm := zm) (zr := zr) (kd := kd) (fr := fr) (to := to) (nu := nu) (sg := sg) (wo := wo) p1 p2
  refine ⟨[], rfl, fOk_cons (p_put3 rfl (by decide) ?_) fOk_nil⟩ <;> simp only [List.map, xv, fev, fvl, gtI, Int.one_mul, Int.add_zero, Int.zero_add, List.append_nil]
  exact q
def r_d_s1 : eRul := (11, [xP 141 [xv 0, xv 1, ([], 6), xv 2, xv 3, xv 4, xv 5, xv 6, xv 7, xv 8, xv 9, xv 10], xP 56 [xv 5, xv 9, ([], 59), ([], 0)]], 0, [xP 145 [xv 0, xv 1, xv 3, xv 4, ([(6, -1)], -1), ([], 1)]])
theorem r_d_s1_ok : ruOk r_d_s1 := by
  intro ρ hl0 hp
  obtain ⟨z, t0, rfl, hl1⟩ := len_inv hl0
  obtain ⟨n, t1, rfl, hl2⟩ := len_inv hl1
  obtain ⟨k, t2, rfl, hl3⟩ := len_inv hl2
  obtain ⟨zm, t3, rfl, hl4⟩ := len_inv hl3
  obtain ⟨zr, t4, rfl, hl5⟩ := len_inv hl4
  obtain ⟨kd, t5, rfl, hl6⟩ := len_inv hl5
  obtain ⟨fr, t6, rfl, hl7⟩ := len_inv hl6
  obtain ⟨to, t7, rfl, hl8⟩ := len_inv hl7
  obtain ⟨nu, t8, rfl, hl9⟩ := len_inv hl8
  obtain ⟨sg, t9, rfl, hl10⟩ := len_inv hl9
  obtain ⟨wo, t10, rfl, hl11⟩ := len_inv hl10
  have hl := List.eq_nil_of_length_eq_zero hl11
  subst hl
  have p1 := p_get3 (by decide) (fOk_hd hp)
  have p2 := p_get3 (by decide) (fOk_hd (fOk_tl hp))
  simp only [List.map, xv, fev, fvl, gtI, Int.one_mul, Int.add_zero, Int.zero_add] at p1 p2
  have q := k_d_s1 (z := z) (n := n) (k := k) (zm := zm) (zr := zr) (kd := kd) (fr := fr) (to := to) (nu := nu) (sg := sg) (wo := wo) p1 p2
  refine ⟨[], rfl, fOk_cons (p_put3 rfl (by decide) ?_) fOk_nil⟩ <;> simp only [List.map, xv, fev, fvl, gtI, Int.one_mul, Int.add_zero, Int.zero_add, List.append_nil]
  exact q
def r_fnd_x : eRul := (6, [xP 61 [xv 0, xv 1, xv 2, xv 3, xv 4], xP 61 [xv 0, xv 1, xv 2, xv 3, xv 5], xG (([(5, 1)], 1)), xG (([(4, -1)], 0))], 0, [xG (([], 1))])
theorem r_fnd_x_ok : ruOk r_fnd_x := by
  intro ρ hl0 hp
  obtain ⟨z, t0, rfl, hl1⟩ := len_inv hl0
  obtain ⟨b, t1, rfl, hl2⟩ := len_inv hl1
  obtain ⟨m, t2, rfl, hl3⟩ := len_inv hl2
  obtain ⟨w, t3, rfl, hl4⟩ := len_inv hl3
  obtain ⟨i, t4, rfl, hl5⟩ := len_inv hl4
  obtain ⟨j, t5, rfl, hl6⟩ := len_inv hl5
  have hl := List.eq_nil_of_length_eq_zero hl6
  subst hl
  have p1 := p_get3 (by decide) (fOk_hd hp)
  have p2 := p_get3 (by decide) (fOk_hd (fOk_tl hp))
  have p3 := gg_get (fOk_hd (fOk_tl (fOk_tl hp)))
  have p4 := gg_get (fOk_hd (fOk_tl (fOk_tl (fOk_tl hp))))
  simp only [List.map, xv, fev, fvl, gtI, Int.one_mul, Int.add_zero, Int.zero_add] at p1 p2 p3 p4
  exact (k_fnd_x p1 p2 p3 p4).elim
def r_isw_x : eRul := (3, [xP 76 [xv 0, xv 1, xv 2, ([], 1)], xP 76 [xv 0, xv 1, xv 2, ([], 0)]], 0, [xG (([], 1))])
theorem r_isw_x_ok : ruOk r_isw_x := by
  intro ρ hl0 hp
  obtain ⟨kd, t0, rfl, hl1⟩ := len_inv hl0
  obtain ⟨w, t1, rfl, hl2⟩ := len_inv hl1
  obtain ⟨k, t2, rfl, hl3⟩ := len_inv hl2
  have hl := List.eq_nil_of_length_eq_zero hl3
  subst hl
  have p1 := p_get3 (by decide) (fOk_hd hp)
  have p2 := p_get3 (by decide) (fOk_hd (fOk_tl hp))
  simp only [List.map, xv, fev, fvl, gtI, Int.one_mul, Int.add_zero, Int.zero_add] at p1 p2
  exact (k_isw_x p1 p2).elim
def r_baf : eRul := (8, [xP 144 [xv 0, xv 1, xv 2, xv 3, xv 4, xv 5, xv 6, xv 7]], 0, [xP 149 [xv 0, xv 1, xv 2, xv 3, xv 4, xv 5, xv 7]])
theorem r_baf_ok : ruOk r_baf := by
  intro ρ hl0 hp
  obtain ⟨z, t0, rfl, hl1⟩ := len_inv hl0
  obtain ⟨n, t1, rfl, hl2⟩ := len_inv hl1
  obtain ⟨zn, t2, rfl, hl3⟩ := len_inv hl2
  obtain ⟨h, t3, rfl, hl4⟩ := len_inv hl3
  obtain ⟨r, t4, rfl, hl5⟩ := len_inv hl4
  obtain ⟨g, t5, rfl, hl6⟩ := len_inv hl5
  obtain ⟨a, t6, rfl, hl7⟩ := len_inv hl6
  obtain ⟨f, t7, rfl, hl8⟩ := len_inv hl7
  have hl := List.eq_nil_of_length_eq_zero hl8
  subst hl
  have p1 := p_get3 (by decide) (fOk_hd hp)
  simp only [List.map, xv, fev, fvl, gtI, Int.one_mul, Int.add_zero, Int.zero_add] at p1
  have q := k_baf (z := z) (n := n) (zn := zn) (h := h) (r := r) (g := g) (a := a) (f := f) p1
  refine ⟨[], rfl, fOk_cons (p_put3 rfl (by decide) ?_) fOk_nil⟩ <;> simp only [List.map, xv, fev, fvl, gtI, Int.one_mul, Int.add_zero, Int.zero_add, List.append_nil]
  exact q
def r_brf : eRul := (6, [xP 145 [xv 0, xv 1, xv 2, xv 3, xv 4, xv 5]], 0, [xP 150 [xv 0, xv 1, xv 2, xv 3, xv 5]])
theorem r_brf_ok : ruOk r_brf := by
  intro ρ hl0 hp
  obtain ⟨z, t0, rfl, hl1⟩ := len_inv hl0
  obtain ⟨n, t1, rfl, hl2⟩ := len_inv hl1
  obtain ⟨zm, t2, rfl, hl3⟩ := len_inv hl2
  obtain ⟨zr, t3, rfl, hl4⟩ := len_inv hl3
  obtain ⟨a, t4, rfl, hl5⟩ := len_inv hl4
  obtain ⟨f, t5, rfl, hl6⟩ := len_inv hl5
  have hl := List.eq_nil_of_length_eq_zero hl6
  subst hl
  have p1 := p_get3 (by decide) (fOk_hd hp)
  simp only [List.map, xv, fev, fvl, gtI, Int.one_mul, Int.add_zero, Int.zero_add] at p1
  have q := k_brf (z := z) (n := n) (zm := zm) (zr := zr) (a := a) (f := f) p1
  refine ⟨[], rfl, fOk_cons (p_put3 rfl (by decide) ?_) fOk_nil⟩ <;> simp only [List.map, xv, fev, fvl, gtI, Int.one_mul, Int.add_zero, Int.zero_add, List.append_nil]
  exact q
def r_fnd_2 : eRul := (9, [xP 61 [xv 0, xv 1, xv 2, xv 3, xv 4], xP 61 [xv 0, xv 1, xv 5, xv 3, xv 6], xP 1 [xv 2, xv 7, xv 8], xP 1 [xv 5, xv 7, xv 8], xG (([(4, -1)], 0)), xG (([(5, 1)], -6)), (.inl [[(-2147483648, 2147483647)]], [xv 6])], 0, [(.inl [[(0, 5)]], [xv 6])])
theorem r_fnd_2_ok : ruOk r_fnd_2 := by
  intro ρ hl0 hp
  obtain ⟨z, t0, rfl, hl1⟩ := len_inv hl0
  obtain ⟨b, t1, rfl, hl2⟩ := len_inv hl1
  obtain ⟨m, t2, rfl, hl3⟩ := len_inv hl2
  obtain ⟨w, t3, rfl, hl4⟩ := len_inv hl3
  obtain ⟨i, t4, rfl, hl5⟩ := len_inv hl4
  obtain ⟨k, t5, rfl, hl6⟩ := len_inv hl5
  obtain ⟨j, t6, rfl, hl7⟩ := len_inv hl6
  obtain ⟨x, t7, rfl, hl8⟩ := len_inv hl7
  obtain ⟨c, t8, rfl, hl9⟩ := len_inv hl8
  have hl := List.eq_nil_of_length_eq_zero hl9
  subst hl
  have p1 := p_get3 (by decide) (fOk_hd hp)
  have p2 := p_get3 (by decide) (fOk_hd (fOk_tl hp))
  have p3 := p_get (fOk_hd (fOk_tl (fOk_tl hp)))
  have p4 := p_get (fOk_hd (fOk_tl (fOk_tl (fOk_tl hp))))
  have p5 := gg_get (fOk_hd (fOk_tl (fOk_tl (fOk_tl (fOk_tl hp)))))
  have p6 := gg_get (fOk_hd (fOk_tl (fOk_tl (fOk_tl (fOk_tl (fOk_tl hp))))))
  have p7 := i_get (fOk_hd (fOk_tl (fOk_tl (fOk_tl (fOk_tl (fOk_tl (fOk_tl hp)))))))
  simp only [List.map, xv, fev, fvl, gtI, Int.one_mul, Int.add_zero, Int.zero_add, PR] at p1 p2 p3 p4 p5 p6 p7
  have q := k_fnd_2 (z := z) (b := b) (m := m) (w := w) (i := i) (k := k) (j := j) (x := x) (c := c) p1 p2 p3 p4 p5 p6 p7
  refine ⟨[], rfl, fOk_cons (i_put rfl ?_ ?_) fOk_nil⟩ <;> simp only [List.map, xv, fev, fvl, gtI, Int.one_mul, Int.add_zero, Int.zero_add, List.append_nil]
  · exact q.1
  · exact q.2
def r_sa_eq : eRul := (18, [xP 134 [xv 0, xv 1, xv 2, xv 3, xv 4, xv 5, xv 6, xv 7], xP 135 [xv 8, xv 1, xv 9, xv 10, xv 11, xv 12], xP 71 [xv 0, xv 8, xv 1], xP 102 [xv 10, xv 9, xv 2, xv 13, xv 3, xv 4, xv 5, xv 14, xv 15, xv 16, xv 17], xG (([(1, 1)], -940))], 0, [(.inl [[(0, 0)]], [([(6, 1), (11, -1)], 0)]), (.inl [[(0, 0)]], [([(6, -1), (11, 1)], 0)]), xP 104 [xv 7, xv 12]])
theorem r_sa_eq_ok : ruOk r_sa_eq := by
  intro ρ hl0 hp
  obtain ⟨x, t0, rfl, hl1⟩ := len_inv hl0
  obtain ⟨n, t1, rfl, hl2⟩ := len_inv hl1
  obtain ⟨zn, t2, rfl, hl3⟩ := len_inv hl2
  obtain ⟨h, t3, rfl, hl4⟩ := len_inv hl3
  obtain ⟨r, t4, rfl, hl5⟩ := len_inv hl4
  obtain ⟨g, t5, rfl, hl6⟩ := len_inv hl5
  obtain ⟨a, t6, rfl, hl7⟩ := len_inv hl6
  obtain ⟨f, t7, rfl, hl8⟩ := len_inv hl7
  obtain ⟨z, t8, rfl, hl9⟩ := len_inv hl8
  obtain ⟨zm, t9, rfl, hl10⟩ := len_inv hl9
  obtain ⟨zr, t10, rfl, hl11⟩ := len_inv hl10
  obtain ⟨b, t11, rfl, hl12⟩ := len_inv hl11
  obtain ⟨e, t12, rfl, hl13⟩ := len_inv hl12
  obtain ⟨zt, t13, rfl, hl14⟩ := len_inv hl13
  obtain ⟨ev, t14, rfl, hl15⟩ := len_inv hl14
  obtain ⟨ri, t15, rfl, hl16⟩ := len_inv hl15
  obtain ⟨ml, t16, rfl, hl17⟩ := len_inv hl16
  obtain ⟨so, t17, rfl, hl18⟩ := len_inv hl17
  have hl := List.eq_nil_of_length_eq_zero hl18
  subst hl
  have p1 := p_get3 (by decide) (fOk_hd hp)
  have p2 := p_get3 (by decide) (fOk_hd (fOk_tl hp))
  have p3 := p_get3 (by decide) (fOk_hd (fOk_tl (fOk_tl hp)))
  have p4 := p_get3 (by decide) (fOk_hd (fOk_tl (fOk_tl (fOk_tl hp))))
  have p5 := gg_get (fOk_hd (fOk_tl (fOk_tl (fOk_tl (fOk_tl hp)))))
  simp only [List.map, xv, fev, fvl, gtI, Int.one_mul, Int.add_zero, Int.zero_add] at p1 p2 p3 p4 p5
  have q := k_sa_eq (x := x) (n := n) (zn := zn) (h := h) (r := r) (g := g) (a := a) (f := f) (z := z) (zm := zm) (zr := zr) (b := b) (e := e) (zt := zt) (ev := ev) (ri := ri) (ml := ml) (so := so) p1 p2 p3 p4 p5
  refine ⟨[], rfl, fOk_cons (i_put rfl ?_ ?_) (fOk_cons (i_put rfl ?_ ?_) (fOk_cons (p_put3 rfl (by decide) ?_) fOk_nil))⟩ <;> simp only [List.map, xv, fev, fvl, gtI, Int.one_mul, Int.add_zero, Int.zero_add, List.append_nil]
  · exact q.1
  · exact q.2.1
  · exact q.2.2.1
  · exact q.2.2.2.1
  · exact q.2.2.2.2
def r_ba_eq : eRul := (16, [xP 149 [xv 0, xv 1, xv 2, xv 3, xv 4, xv 5, xv 6], xP 150 [xv 7, xv 1, xv 8, xv 9, xv 10], xP 71 [xv 0, xv 7, xv 1], xP 102 [xv 9, xv 8, xv 2, xv 11, xv 3, xv 4, xv 5, xv 12, xv 13, xv 14, xv 15], xG (([(1, 1)], -940))], 0, [xP 104 [xv 6, xv 10]])
theorem r_ba_eq_ok : ruOk r_ba_eq := by
  intro ρ hl0 hp
  obtain ⟨x, t0, rfl, hl1⟩ := len_inv hl0
  obtain ⟨n, t1, rfl, hl2⟩ := len_inv hl1
  obtain ⟨zn, t2, rfl, hl3⟩ := len_inv hl2
  obtain ⟨h, t3, rfl, hl4⟩ := len_inv hl3
  obtain ⟨r, t4, rfl, hl5⟩ := len_inv hl4
  obtain ⟨g, t5, rfl, hl6⟩ := len_inv hl5
  obtain ⟨f, t6, rfl, hl7⟩ := len_inv hl6
  obtain ⟨z, t7, rfl, hl8⟩ := len_inv hl7
  obtain ⟨zm, t8, rfl, hl9⟩ := len_inv hl8
  obtain ⟨zr, t9, rfl, hl10⟩ := len_inv hl9
  obtain ⟨e, t10, rfl, hl11⟩ := len_inv hl10
  obtain ⟨zt, t11, rfl, hl12⟩ := len_inv hl11
  obtain ⟨ev, t12, rfl, hl13⟩ := len_inv hl12
  obtain ⟨ri, t13, rfl, hl14⟩ := len_inv hl13
  obtain ⟨ml, t14, rfl, hl15⟩ := len_inv hl14
  obtain ⟨so, t15, rfl, hl16⟩ := len_inv hl15
  have hl := List.eq_nil_of_length_eq_zero hl16
  subst hl
  have p1 := p_get3 (by decide) (fOk_hd hp)
  have p2 := p_get3 (by decide) (fOk_hd (fOk_tl hp))
  have p3 := p_get3 (by decide) (fOk_hd (fOk_tl (fOk_tl hp)))
  have p4 := p_get3 (by decide) (fOk_hd (fOk_tl (fOk_tl (fOk_tl hp))))
  have p5 := gg_get (fOk_hd (fOk_tl (fOk_tl (fOk_tl (fOk_tl hp)))))
  simp only [List.map, xv, fev, fvl, gtI, Int.one_mul, Int.add_zero, Int.zero_add] at p1 p2 p3 p4 p5
  have q := k_ba_eq (x := x) (n := n) (zn := zn) (h := h) (r := r) (g := g) (f := f) (z := z) (zm := zm) (zr := zr) (e := e) (zt := zt) (ev := ev) (ri := ri) (ml := ml) (so := so) p1 p2 p3 p4 p5
  refine ⟨[], rfl, fOk_cons (p_put3 rfl (by decide) ?_) fOk_nil⟩ <;> simp only [List.map, xv, fev, fvl, gtI, Int.one_mul, Int.add_zero, Int.zero_add, List.append_nil]
  exact q
def r_an_eq : eRul := (7, [xP 64 [xv 0, xv 1, xv 2, xv 3], xP 64 [xv 4, xv 1, xv 5, xv 6], xP 71 [xv 0, xv 4, xv 1], xG (([(1, 1)], -940))], 0, [xP 104 [xv 3, xv 6]])
theorem r_an_eq_ok : ruOk r_an_eq := by
  intro ρ hl0 hp
  obtain ⟨x, t0, rfl, hl1⟩ := len_inv hl0
  obtain ⟨n, t1, rfl, hl2⟩ := len_inv hl1
  obtain ⟨a, t2, rfl, hl3⟩ := len_inv hl2
  obtain ⟨f, t3, rfl, hl4⟩ := len_inv hl3
  obtain ⟨z, t4, rfl, hl5⟩ := len_inv hl4
  obtain ⟨b, t5, rfl, hl6⟩ := len_inv hl5
  obtain ⟨e, t6, rfl, hl7⟩ := len_inv hl6
  have hl := List.eq_nil_of_length_eq_zero hl7
  subst hl
  have p1 := p_get3 (by decide) (fOk_hd hp)
  have p2 := p_get3 (by decide) (fOk_hd (fOk_tl hp))
  have p3 := p_get3 (by decide) (fOk_hd (fOk_tl (fOk_tl hp)))
  have p4 := gg_get (fOk_hd (fOk_tl (fOk_tl (fOk_tl hp))))
  simp only [List.map, xv, fev, fvl, gtI, Int.one_mul, Int.add_zero, Int.zero_add] at p1 p2 p3 p4
  have q := k_an_eq (x := x) (n := n) (a := a) (f := f) (z := z) (b := b) (e := e) p1 p2 p3 p4
  refine ⟨[], rfl, fOk_cons (p_put3 rfl (by decide) ?_) fOk_nil⟩ <;> simp only [List.map, xv, fev, fvl, gtI, Int.one_mul, Int.add_zero, Int.zero_add, List.append_nil]
  exact q
end
