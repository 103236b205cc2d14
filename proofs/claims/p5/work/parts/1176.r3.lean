noncomputable section
/-! T3: rules (printed by wip/v5/gen/rules4.py) -/
theorem q3 {A B : Prop} (h : A ∧ B) : B := h.2
theorem p_get3 {ρ : List Int} {t : Nat} {fs : List eLF} (ht : 30 ≤ t) (h : bxOk ρ (xP t fs)) : P3 t (fs.map (fev ρ)) := by
  rw [← PR3 ht]
  exact p_get h
theorem p_put3 {ρ : List Int} {t : Nat} {fs : List eLF} (hw : (fs.all fun f => wfl ρ.length f.1) = true) (ht : 30 ≤ t) (h : P3 t (fs.map (fev ρ))) : bxOk ρ (.inr (1000000 + t), fs) := p_put hw (by rw [PR3 ht]; exact h)
def r_blk_y0 : eRul := (2, [(.inl [[(32, 32)]], [xv 0]), (.inl [[(1, 1)]], [xv 1])], 0, [xP 30 [xv 0, xv 1]])
theorem r_blk_y0_ok : ruOk r_blk_y0 := by
  intro ρ hl0 hp
  obtain ⟨b, t0, rfl, hl1⟩ := len_inv hl0
  obtain ⟨r, t1, rfl, hl2⟩ := len_inv hl1
  have hl := List.eq_nil_of_length_eq_zero hl2
  subst hl
  have p1 := i_get (fOk_hd hp)
  have p2 := i_get (fOk_hd (fOk_tl hp))
  simp only [List.map, xv, fev, fvl, gtI, Int.one_mul, Int.add_zero, Int.zero_add] at p1 p2
  have q := k_blk_y0 (b := b) (r := r) p1 p2
  refine ⟨[], rfl, fOk_cons (p_put3 rfl (by decide) ?_) fOk_nil⟩ <;> simp only [List.map, xv, fev, fvl, gtI, Int.one_mul, Int.add_zero, Int.zero_add, List.append_nil]
  exact q
def r_blk_y1 : eRul := (2, [(.inl [[(10, 10)]], [xv 0]), (.inl [[(1, 1)]], [xv 1])], 0, [xP 30 [xv 0, xv 1]])
theorem r_blk_y1_ok : ruOk r_blk_y1 := by
  intro ρ hl0 hp
  obtain ⟨b, t0, rfl, hl1⟩ := len_inv hl0
  obtain ⟨r, t1, rfl, hl2⟩ := len_inv hl1
  have hl := List.eq_nil_of_length_eq_zero hl2
  subst hl
  have p1 := i_get (fOk_hd hp)
  have p2 := i_get (fOk_hd (fOk_tl hp))
  simp only [List.map, xv, fev, fvl, gtI, Int.one_mul, Int.add_zero, Int.zero_add] at p1 p2
  have q := k_blk_y1 (b := b) (r := r) p1 p2
  refine ⟨[], rfl, fOk_cons (p_put3 rfl (by decide) ?_) fOk_nil⟩ <;> simp only [List.map, xv, fev, fvl, gtI, Int.one_mul, Int.add_zero, Int.zero_add, List.append_nil]
  exact q
def r_blk_n0 : eRul := (2, [(.inl [[(-128, 9)]], [xv 0]), (.inl [[(0, 0)]], [xv 1])], 0, [xP 30 [xv 0, xv 1]])
theorem r_blk_n0_ok : ruOk r_blk_n0 := by
  intro ρ hl0 hp
  obtain ⟨b, t0, rfl, hl1⟩ := len_inv hl0
  obtain ⟨r, t1, rfl, hl2⟩ := len_inv hl1
  have hl := List.eq_nil_of_length_eq_zero hl2
  subst hl
  have p1 := i_get (fOk_hd hp)
  have p2 := i_get (fOk_hd (fOk_tl hp))
  simp only [List.map, xv, fev, fvl, gtI, Int.one_mul, Int.add_zero, Int.zero_add] at p1 p2
  have q := k_blk_n0 (b := b) (r := r) p1 p2
  refine ⟨[], rfl, fOk_cons (p_put3 rfl (by decide) ?_) fOk_nil⟩ <;> simp only [List.map, xv, fev, fvl, gtI, Int.one_mul, Int.add_zero, Int.zero_add, List.append_nil]
  exact q
def r_blk_n1 : eRul := (2, [(.inl [[(11, 31)]], [xv 0]), (.inl [[(0, 0)]], [xv 1])], 0, [xP 30 [xv 0, xv 1]])
theorem r_blk_n1_ok : ruOk r_blk_n1 := by
  intro ρ hl0 hp
  obtain ⟨b, t0, rfl, hl1⟩ := len_inv hl0
  obtain ⟨r, t1, rfl, hl2⟩ := len_inv hl1
  have hl := List.eq_nil_of_length_eq_zero hl2
  subst hl
  have p1 := i_get (fOk_hd hp)
  have p2 := i_get (fOk_hd (fOk_tl hp))
  simp only [List.map, xv, fev, fvl, gtI, Int.one_mul, Int.add_zero, Int.zero_add] at p1 p2
  have q := k_blk_n1 (b := b) (r := r) p1 p2
  refine ⟨[], rfl, fOk_cons (p_put3 rfl (by decide) ?_) fOk_nil⟩ <;> simp only [List.map, xv, fev, fvl, gtI, Int.one_mul, Int.add_zero, Int.zero_add, List.append_nil]
  exact q
def r_blk_n2 : eRul := (2, [(.inl [[(33, 255)]], [xv 0]), (.inl [[(0, 0)]], [xv 1])], 0, [xP 30 [xv 0, xv 1]])
theorem r_blk_n2_ok : ruOk r_blk_n2 := by
  intro ρ hl0 hp
  obtain ⟨b, t0, rfl, hl1⟩ := len_inv hl0
  obtain ⟨r, t1, rfl, hl2⟩ := len_inv hl1
  have hl := List.eq_nil_of_length_eq_zero hl2
  subst hl
  have p1 := i_get (fOk_hd hp)
  have p2 := i_get (fOk_hd (fOk_tl hp))
  simp only [List.map, xv, fev, fvl, gtI, Int.one_mul, Int.add_zero, Int.zero_add] at p1 p2
  have q := k_blk_n2 (b := b) (r := r) p1 p2
  refine ⟨[], rfl, fOk_cons (p_put3 rfl (by decide) ?_) fOk_nil⟩ <;> simp only [List.map, xv, fev, fvl, gtI, Int.one_mul, Int.add_zero, Int.zero_add, List.append_nil]
  exact q
def r_let_y0 : eRul := (2, [(.inl [[(97, 122)]], [xv 0]), (.inl [[(1, 1)]], [xv 1])], 0, [xP 31 [xv 0, xv 1]])
theorem r_let_y0_ok : ruOk r_let_y0 := by
  intro ρ hl0 hp
  obtain ⟨b, t0, rfl, hl1⟩ := len_inv hl0
  obtain ⟨r, t1, rfl, hl2⟩ := len_inv hl1
  have hl := List.eq_nil_of_length_eq_zero hl2
  subst hl
  have p1 := i_get (fOk_hd hp)
  have p2 := i_get (fOk_hd (fOk_tl hp))
  simp only [List.map, xv, fev, fvl, gtI, Int.one_mul, Int.add_zero, Int.zero_add] at p1 p2
  have q := k_let_y0 (b := b) (r := r) p1 p2
  refine ⟨[], rfl, fOk_cons (p_put3 rfl (by decide) ?_) fOk_nil⟩ <;> simp only [List.map, xv, fev, fvl, gtI, Int.one_mul, Int.add_zero, Int.zero_add, List.append_nil]
  exact q
def r_let_n0 : eRul := (2, [(.inl [[(-128, 96)]], [xv 0]), (.inl [[(0, 0)]], [xv 1])], 0, [xP 31 [xv 0, xv 1]])
theorem r_let_n0_ok : ruOk r_let_n0 := by
  intro ρ hl0 hp
  obtain ⟨b, t0, rfl, hl1⟩ := len_inv hl0
  obtain ⟨r, t1, rfl, hl2⟩ := len_inv hl1
  have hl := List.eq_nil_of_length_eq_zero hl2
  subst hl
  have p1 := i_get (fOk_hd hp)
  have p2 := i_get (fOk_hd (fOk_tl hp))
  simp only [List.map, xv, fev, fvl, gtI, Int.one_mul, Int.add_zero, Int.zero_add] at p1 p2
  have q := k_let_n0 (b := b) (r := r) p1 p2
  refine ⟨[], rfl, fOk_cons (p_put3 rfl (by decide) ?_) fOk_nil⟩ <;> simp only [List.map, xv, fev, fvl, gtI, Int.one_mul, Int.add_zero, Int.zero_add, List.append_nil]
  exact q
def r_let_n1 : eRul := (2, [(.inl [[(123, 255)]], [xv 0]), (.inl [[(0, 0)]], [xv 1])], 0, [xP 31 [xv 0, xv 1]])
theorem r_let_n1_ok : ruOk r_let_n1 := by
  intro ρ hl0 hp
  obtain ⟨b, t0, rfl, hl1⟩ := len_inv hl0
  obtain ⟨r, t1, rfl, hl2⟩ := len_inv hl1
  have hl := List.eq_nil_of_length_eq_zero hl2
  subst hl
  have p1 := i_get (fOk_hd hp)
  have p2 := i_get (fOk_hd (fOk_tl hp))
  simp only [List.map, xv, fev, fvl, gtI, Int.one_mul, Int.add_zero, Int.zero_add] at p1 p2
  have q := k_let_n1 (b := b) (r := r) p1 p2
  refine ⟨[], rfl, fOk_cons (p_put3 rfl (by decide) ?_) fOk_nil⟩ <;> simp only [List.map, xv, fev, fvl, gtI, Int.one_mul, Int.add_zero, Int.zero_add, List.append_nil]
  exact q
def r_dig_y0 : eRul := (2, [(.inl [[(48, 57)]], [xv 0]), (.inl [[(1, 1)]], [xv 1])], 0, [xP 32 [xv 0, xv 1]])
theorem r_dig_y0_ok : ruOk r_dig_y0 := by
  intro ρ hl0 hp
  obtain ⟨b, t0, rfl, hl1⟩ := len_inv hl0
  obtain ⟨r, t1, rfl, hl2⟩ := len_inv hl1
  have hl := List.eq_nil_of_length_eq_zero hl2
  subst hl
  have p1 := i_get (fOk_hd hp)
  have p2 := i_get (fOk_hd (fOk_tl hp))
  simp only [List.map, xv, fev, fvl, gtI, Int.one_mul, Int.add_zero, Int.zero_add] at p1 p2
  have q := k_dig_y0 (b := b) (r := r) p1 p2
  refine ⟨[], rfl, fOk_cons (p_put3 rfl (by decide) ?_) fOk_nil⟩ <;> simp only [List.map, xv, fev, fvl, gtI, Int.one_mul, Int.add_zero, Int.zero_add, List.append_nil]
  exact q
def r_dig_n0 : eRul := (2, [(.inl [[(-128, 47)]], [xv 0]), (.inl [[(0, 0)]], [xv 1])], 0, [xP 32 [xv 0, xv 1]])
theorem r_dig_n0_ok : ruOk r_dig_n0 := by
  intro ρ hl0 hp
  obtain ⟨b, t0, rfl, hl1⟩ := len_inv hl0
  obtain ⟨r, t1, rfl, hl2⟩ := len_inv hl1
  have hl := List.eq_nil_of_length_eq_zero hl2
  subst hl
  have p1 := i_get (fOk_hd hp)
  have p2 := i_get (fOk_hd (fOk_tl hp))
  simp only [List.map, xv, fev, fvl, gtI, Int.one_mul, Int.add_zero, Int.zero_add] at p1 p2
  have q := k_dig_n0 (b := b) (r := r) p1 p2
  refine ⟨[], rfl, fOk_cons (p_put3 rfl (by decide) ?_) fOk_nil⟩ <;> simp only [List.map, xv, fev, fvl, gtI, Int.one_mul, Int.add_zero, Int.zero_add, List.append_nil]
  exact q
def r_dig_n1 : eRul := (2, [(.inl [[(58, 255)]], [xv 0]), (.inl [[(0, 0)]], [xv 1])], 0, [xP 32 [xv 0, xv 1]])
theorem r_dig_n1_ok : ruOk r_dig_n1 := by
  intro ρ hl0 hp
  obtain ⟨b, t0, rfl, hl1⟩ := len_inv hl0
  obtain ⟨r, t1, rfl, hl2⟩ := len_inv hl1
  have hl := List.eq_nil_of_length_eq_zero hl2
  subst hl
  have p1 := i_get (fOk_hd hp)
  have p2 := i_get (fOk_hd (fOk_tl hp))
  simp only [List.map, xv, fev, fvl, gtI, Int.one_mul, Int.add_zero, Int.zero_add] at p1 p2
  have q := k_dig_n1 (b := b) (r := r) p1 p2
  refine ⟨[], rfl, fOk_cons (p_put3 rfl (by decide) ?_) fOk_nil⟩ <;> simp only [List.map, xv, fev, fvl, gtI, Int.one_mul, Int.add_zero, Int.zero_add, List.append_nil]
  exact q
def r_sig_y0 : eRul := (2, [(.inl [[(59, 62)]], [xv 0]), (.inl [[(1, 1)]], [xv 1])], 0, [xP 33 [xv 0, xv 1]])
theorem r_sig_y0_ok : ruOk r_sig_y0 := by
  intro ρ hl0 hp
  obtain ⟨b, t0, rfl, hl1⟩ := len_inv hl0
  obtain ⟨r, t1, rfl, hl2⟩ := len_inv hl1
  have hl := List.eq_nil_of_length_eq_zero hl2
  subst hl
  have p1 := i_get (fOk_hd hp)
  have p2 := i_get (fOk_hd (fOk_tl hp))
  simp only [List.map, xv, fev, fvl, gtI, Int.one_mul, Int.add_zero, Int.zero_add] at p1 p2
  have q := k_sig_y0 (b := b) (r := r) p1 p2
  refine ⟨[], rfl, fOk_cons (p_put3 rfl (by decide) ?_) fOk_nil⟩ <;> simp only [List.map, xv, fev, fvl, gtI, Int.one_mul, Int.add_zero, Int.zero_add, List.append_nil]
  exact q
def r_sig_y1 : eRul := (2, [(.inl [[(40, 41)]], [xv 0]), (.inl [[(1, 1)]], [xv 1])], 0, [xP 33 [xv 0, xv 1]])
theorem r_sig_y1_ok : ruOk r_sig_y1 := by
  intro ρ hl0 hp
  obtain ⟨b, t0, rfl, hl1⟩ := len_inv hl0
  obtain ⟨r, t1, rfl, hl2⟩ := len_inv hl1
  have hl := List.eq_nil_of_length_eq_zero hl2
  subst hl
  have p1 := i_get (fOk_hd hp)
  have p2 := i_get (fOk_hd (fOk_tl hp))
  simp only [List.map, xv, fev, fvl, gtI, Int.one_mul, Int.add_zero, Int.zero_add] at p1 p2
  have q := k_sig_y1 (b := b) (r := r) p1 p2
  refine ⟨[], rfl, fOk_cons (p_put3 rfl (by decide) ?_) fOk_nil⟩ <;> simp only [List.map, xv, fev, fvl, gtI, Int.one_mul, Int.add_zero, Int.zero_add, List.append_nil]
  exact q
def r_sig_n0 : eRul := (2, [(.inl [[(-128, 39)]], [xv 0]), (.inl [[(0, 0)]], [xv 1])], 0, [xP 33 [xv 0, xv 1]])
theorem r_sig_n0_ok : ruOk r_sig_n0 := by
  intro ρ hl0 hp
  obtain ⟨b, t0, rfl, hl1⟩ := len_inv hl0
  obtain ⟨r, t1, rfl, hl2⟩ := len_inv hl1
  have hl := List.eq_nil_of_length_eq_zero hl2
  subst hl
  have p1 := i_get (fOk_hd hp)
  have p2 := i_get (fOk_hd (fOk_tl hp))
  simp only [List.map, xv, fev, fvl, gtI, Int.one_mul, Int.add_zero, Int.zero_add] at p1 p2
  have q := k_sig_n0 (b := b) (r := r) p1 p2
  refine ⟨[], rfl, fOk_cons (p_put3 rfl (by decide) ?_) fOk_nil⟩ <;> simp only [List.map, xv, fev, fvl, gtI, Int.one_mul, Int.add_zero, Int.zero_add, List.append_nil]
  exact q
def r_sig_n1 : eRul := (2, [(.inl [[(42, 58)]], [xv 0]), (.inl [[(0, 0)]], [xv 1])], 0, [xP 33 [xv 0, xv 1]])
theorem r_sig_n1_ok : ruOk r_sig_n1 := by
  intro ρ hl0 hp
  obtain ⟨b, t0, rfl, hl1⟩ := len_inv hl0
  obtain ⟨r, t1, rfl, hl2⟩ := len_inv hl1
  have hl := List.eq_nil_of_length_eq_zero hl2
  subst hl
  have p1 := i_get (fOk_hd hp)
  have p2 := i_get (fOk_hd (fOk_tl hp))
  simp only [List.map, xv, fev, fvl, gtI, Int.one_mul, Int.add_zero, Int.zero_add] at p1 p2
  have q := k_sig_n1 (b := b) (r := r) p1 p2
  refine ⟨[], rfl, fOk_cons (p_put3 rfl (by decide) ?_) fOk_nil⟩ <;> simp only [List.map, xv, fev, fvl, gtI, Int.one_mul, Int.add_zero, Int.zero_add, List.append_nil]
  exact q
def r_sig_n2 : eRul := (2, [(.inl [[(63, 255)]], [xv 0]), (.inl [[(0, 0)]], [xv 1])], 0, [xP 33 [xv 0, xv 1]])
theorem r_sig_n2_ok : ruOk r_sig_n2 := by
  intro ρ hl0 hp
  obtain ⟨b, t0, rfl, hl1⟩ := len_inv hl0
  obtain ⟨r, t1, rfl, hl2⟩ := len_inv hl1
  have hl := List.eq_nil_of_length_eq_zero hl2
  subst hl
  have p1 := i_get (fOk_hd hp)
  have p2 := i_get (fOk_hd (fOk_tl hp))
  simp only [List.map, xv, fev, fvl, gtI, Int.one_mul, Int.add_zero, Int.zero_add] at p1 p2
  have q := k_sig_n2 (b := b) (r := r) p1 p2
  refine ⟨[], rfl, fOk_cons (p_put3 rfl (by decide) ?_) fOk_nil⟩ <;> simp only [List.map, xv, fev, fvl, gtI, Int.one_mul, Int.add_zero, Int.zero_add, List.append_nil]
  exact q
def r_let_x : eRul := (1, [xP 31 [xv 0, ([], 1)], xP 31 [xv 0, ([], 0)]], 0, [xG (([], 1))])
theorem r_let_x_ok : ruOk r_let_x := by
  intro ρ hl0 hp
  obtain ⟨b, t0, rfl, hl1⟩ := len_inv hl0
  have hl := List.eq_nil_of_length_eq_zero hl1
  subst hl
  have p1 := p_get3 (by decide) (fOk_hd hp)
  have p2 := p_get3 (by decide) (fOk_hd (fOk_tl hp))
  simp only [List.map, xv, fev, fvl, gtI, Int.one_mul, Int.add_zero, Int.zero_add] at p1 p2
  exact (k_let_x p1 p2).elim
def r_dec_cb : eRul := (3, [xP 60 [([], 0), xv 0, xv 1], xP 45 [xv 2, xv 1, ([], 255)], (.inl [[(0, 127)]], [xv 1])], 0, [xP 60 [([], 0), xv 0, xv 2]])
theorem r_dec_cb_ok : ruOk r_dec_cb := by
  intro ρ hl0 hp
  obtain ⟨i, t0, rfl, hl1⟩ := len_inv hl0
  obtain ⟨x, t1, rfl, hl2⟩ := len_inv hl1
  obtain ⟨c, t2, rfl, hl3⟩ := len_inv hl2
  have hl := List.eq_nil_of_length_eq_zero hl3
  subst hl
  have p1 := p_get3 (by decide) (fOk_hd hp)
  have p2 := p_get3 (by decide) (fOk_hd (fOk_tl hp))
  have p3 := i_get (fOk_hd (fOk_tl (fOk_tl hp)))
  simp only [List.map, xv, fev, fvl, gtI, Int.one_mul, Int.add_zero, Int.zero_add] at p1 p2 p3
  have q := k_dec_cb (i := i) (x := x) (c := c) p1 p2 p3
  refine ⟨[], rfl, fOk_cons (p_put3 rfl (by decide) ?_) fOk_nil⟩ <;> simp only [List.map, xv, fev, fvl, gtI, Int.one_mul, Int.add_zero, Int.zero_add, List.append_nil]
  exact q
def r_skp_0 : eRul := (2, [xG (([(0, -1)], 0))], 0, [xP 34 [xv 1, xv 0, xv 0]])
theorem r_skp_0_ok : ruOk r_skp_0 := by
  intro ρ hl0 hp
  obtain ⟨p, t0, rfl, hl1⟩ := len_inv hl0
  obtain ⟨z, t1, rfl, hl2⟩ := len_inv hl1
  have hl := List.eq_nil_of_length_eq_zero hl2
  subst hl
  have p1 := gg_get (fOk_hd hp)
  simp only [List.map, xv, fev, fvl, gtI, Int.one_mul, Int.add_zero, Int.zero_add] at p1
  have q := k_skp_0 (p := p) (z := z) p1
  refine ⟨[], rfl, fOk_cons (p_put3 rfl (by decide) ?_) fOk_nil⟩ <;> simp only [List.map, xv, fev, fvl, gtI, Int.one_mul, Int.add_zero, Int.zero_add, List.append_nil]
  exact q
def r_skp_1 : eRul := (4, [xP 34 [xv 0, xv 1, xv 2], xP 1 [xv 3, xv 0, xv 2], xP 30 [xv 3, ([], 1)]], 0, [xP 34 [xv 0, xv 1, ([(2, 1)], 1)]])
theorem r_skp_1_ok : ruOk r_skp_1 := by
  intro ρ hl0 hp
  obtain ⟨z, t0, rfl, hl1⟩ := len_inv hl0
  obtain ⟨p, t1, rfl, hl2⟩ := len_inv hl1
  obtain ⟨i, t2, rfl, hl3⟩ := len_inv hl2
  obtain ⟨b, t3, rfl, hl4⟩ := len_inv hl3
  have hl := List.eq_nil_of_length_eq_zero hl4
  subst hl
  have p1 := p_get3 (by decide) (fOk_hd hp)
  have p2 := p_get (fOk_hd (fOk_tl hp))
  have p3 := p_get3 (by decide) (fOk_hd (fOk_tl (fOk_tl hp)))
  simp only [List.map, xv, fev, fvl, gtI, Int.one_mul, Int.add_zero, Int.zero_add, PR] at p1 p2 p3
  have q := k_skp_1 (z := z) (p := p) (i := i) (b := b) p1 p2 p3
  refine ⟨[], rfl, fOk_cons (p_put3 rfl (by decide) ?_) fOk_nil⟩ <;> simp only [List.map, xv, fev, fvl, gtI, Int.one_mul, Int.add_zero, Int.zero_add, List.append_nil]
  exact q
def r_ske_e : eRul := (4, [xP 34 [xv 0, xv 1, xv 2], xG (([(2, -1), (3, 1)], 0)), xG (([(2, 1), (3, -1)], 0))], 0, [xP 35 [xv 0, xv 3, xv 1, xv 2]])
theorem r_ske_e_ok : ruOk r_ske_e := by
  intro ρ hl0 hp
  obtain ⟨z, t0, rfl, hl1⟩ := len_inv hl0
  obtain ⟨p, t1, rfl, hl2⟩ := len_inv hl1
  obtain ⟨s, t2, rfl, hl3⟩ := len_inv hl2
  obtain ⟨n, t3, rfl, hl4⟩ := len_inv hl3
  have hl := List.eq_nil_of_length_eq_zero hl4
  subst hl
  have p1 := p_get3 (by decide) (fOk_hd hp)
  have p2 := gg_get (fOk_hd (fOk_tl hp))
  have p3 := gg_get (fOk_hd (fOk_tl (fOk_tl hp)))
  simp only [List.map, xv, fev, fvl, gtI, Int.one_mul, Int.add_zero, Int.zero_add] at p1 p2 p3
  have q := k_ske_e (z := z) (p := p) (s := s) (n := n) p1 p2 p3
  refine ⟨[], rfl, fOk_cons (p_put3 rfl (by decide) ?_) fOk_nil⟩ <;> simp only [List.map, xv, fev, fvl, gtI, Int.one_mul, Int.add_zero, Int.zero_add, List.append_nil]
  exact q
def r_ske_b : eRul := (5, [xP 34 [xv 0, xv 1, xv 2], xP 1 [xv 3, xv 0, xv 2], xP 30 [xv 3, ([], 0)], xG (([(2, 1), (4, -1)], 1))], 0, [xP 35 [xv 0, xv 4, xv 1, xv 2]])
theorem r_ske_b_ok : ruOk r_ske_b := by
  intro ρ hl0 hp
  obtain ⟨z, t0, rfl, hl1⟩ := len_inv hl0
  obtain ⟨p, t1, rfl, hl2⟩ := len_inv hl1
  obtain ⟨s, t2, rfl, hl3⟩ := len_inv hl2
  obtain ⟨b, t3, rfl, hl4⟩ := len_inv hl3
  obtain ⟨n, t4, rfl, hl5⟩ := len_inv hl4
  have hl := List.eq_nil_of_length_eq_zero hl5
  subst hl
  have p1 := p_get3 (by decide) (fOk_hd hp)
  have p2 := p_get (fOk_hd (fOk_tl hp))
  have p3 := p_get3 (by decide) (fOk_hd (fOk_tl (fOk_tl hp)))
  have p4 := gg_get (fOk_hd (fOk_tl (fOk_tl (fOk_tl hp))))
  simp only [List.map, xv, fev, fvl, gtI, Int.one_mul, Int.add_zero, Int.zero_add, PR] at p1 p2 p3 p4
  have q := k_ske_b (z := z) (p := p) (s := s) (b := b) (n := n) p1 p2 p3 p4
  refine ⟨[], rfl, fOk_cons (p_put3 rfl (by decide) ?_) fOk_nil⟩ <;> simp only [List.map, xv, fev, fvl, gtI, Int.one_mul, Int.add_zero, Int.zero_add, List.append_nil]
  exact q
def r_runc_0 : eRul := (2, [xG (([(0, -1)], 0))], 0, [xP 36 [xv 1, xv 0, xv 0, ([], 0), ([], 0)]])
theorem r_runc_0_ok : ruOk r_runc_0 := by
  intro ρ hl0 hp
  obtain ⟨s, t0, rfl, hl1⟩ := len_inv hl0
  obtain ⟨z, t1, rfl, hl2⟩ := len_inv hl1
  have hl := List.eq_nil_of_length_eq_zero hl2
  subst hl
  have p1 := gg_get (fOk_hd hp)
  simp only [List.map, xv, fev, fvl, gtI, Int.one_mul, Int.add_zero, Int.zero_add] at p1
  have q := k_runc_0 (s := s) (z := z) p1
  refine ⟨[], rfl, fOk_cons (p_put3 rfl (by decide) ?_) fOk_nil⟩ <;> simp only [List.map, xv, fev, fvl, gtI, Int.one_mul, Int.add_zero, Int.zero_add, List.append_nil]
  exact q
def r_runc_l : eRul := (6, [xP 36 [xv 0, xv 1, xv 2, xv 3, xv 4], xP 1 [xv 5, xv 0, xv 2], xP 31 [xv 5, ([], 1)]], 0, [xP 36 [xv 0, xv 1, ([(2, 1)], 1), ([(3, 1)], 1), xv 4]])
theorem r_runc_l_ok : ruOk r_runc_l := by
  intro ρ hl0 hp
  obtain ⟨z, t0, rfl, hl1⟩ := len_inv hl0
  obtain ⟨s, t1, rfl, hl2⟩ := len_inv hl1
  obtain ⟨i, t2, rfl, hl3⟩ := len_inv hl2
  obtain ⟨l, t3, rfl, hl4⟩ := len_inv hl3
  obtain ⟨d, t4, rfl, hl5⟩ := len_inv hl4
  obtain ⟨b, t5, rfl, hl6⟩ := len_inv hl5
  have hl := List.eq_nil_of_length_eq_zero hl6
  subst hl
  have p1 := p_get3 (by decide) (fOk_hd hp)
  have p2 := p_get (fOk_hd (fOk_tl hp))
  have p3 := p_get3 (by decide) (fOk_hd (fOk_tl (fOk_tl hp)))
  simp only [List.map, xv, fev, fvl, gtI, Int.one_mul, Int.add_zero, Int.zero_add, PR] at p1 p2 p3
  have q := k_runc_l (z := z) (s := s) (i := i) (l := l) (d := d) (b := b) p1 p2 p3
  refine ⟨[], rfl, fOk_cons (p_put3 rfl (by decide) ?_) fOk_nil⟩ <;> simp only [List.map, xv, fev, fvl, gtI, Int.one_mul, Int.add_zero, Int.zero_add, List.append_nil]
  exact q
def r_runc_d : eRul := (6, [xP 36 [xv 0, xv 1, xv 2, xv 3, xv 4], xP 1 [xv 5, xv 0, xv 2], xP 32 [xv 5, ([], 1)]], 0, [xP 36 [xv 0, xv 1, ([(2, 1)], 1), xv 3, ([(4, 1)], 1)]])
theorem r_runc_d_ok : ruOk r_runc_d := by
  intro ρ hl0 hp
  obtain ⟨z, t0, rfl, hl1⟩ := len_inv hl0
  obtain ⟨s, t1, rfl, hl2⟩ := len_inv hl1
  obtain ⟨i, t2, rfl, hl3⟩ := len_inv hl2
  obtain ⟨l, t3, rfl, hl4⟩ := len_inv hl3
  obtain ⟨d, t4, rfl, hl5⟩ := len_inv hl4
  obtain ⟨b, t5, rfl, hl6⟩ := len_inv hl5
  have hl := List.eq_nil_of_length_eq_zero hl6
  subst hl
  have p1 := p_get3 (by decide) (fOk_hd hp)
  have p2 := p_get (fOk_hd (fOk_tl hp))
  have p3 := p_get3 (by decide) (fOk_hd (fOk_tl (fOk_tl hp)))
  simp only [List.map, xv, fev, fvl, gtI, Int.one_mul, Int.add_zero, Int.zero_add, PR] at p1 p2 p3
  have q := k_runc_d (z := z) (s := s) (i := i) (l := l) (d := d) (b := b) p1 p2 p3
  refine ⟨[], rfl, fOk_cons (p_put3 rfl (by decide) ?_) fOk_nil⟩ <;> simp only [List.map, xv, fev, fvl, gtI, Int.one_mul, Int.add_zero, Int.zero_add, List.append_nil]
  exact q
def r_runc_ul : eRul := (5, [xP 36 [xv 0, xv 1, xv 2, xv 3, xv 4], xG (([(1, -1)], 0)), xG (([(2, 1)], -940)), (.inl [[(-2147483648, 2147483647)]], [xv 3])], 0, [(.inl [[(0, 940)]], [xv 3])])
theorem r_runc_ul_ok : ruOk r_runc_ul := by
  intro ρ hl0 hp
  obtain ⟨z, t0, rfl, hl1⟩ := len_inv hl0
  obtain ⟨s, t1, rfl, hl2⟩ := len_inv hl1
  obtain ⟨i, t2, rfl, hl3⟩ := len_inv hl2
  obtain ⟨l, t3, rfl, hl4⟩ := len_inv hl3
  obtain ⟨d, t4, rfl, hl5⟩ := len_inv hl4
  have hl := List.eq_nil_of_length_eq_zero hl5
  subst hl
  have p1 := p_get3 (by decide) (fOk_hd hp)
  have p2 := gg_get (fOk_hd (fOk_tl hp))
  have p3 := gg_get (fOk_hd (fOk_tl (fOk_tl hp)))
  have p4 := i_get (fOk_hd (fOk_tl (fOk_tl (fOk_tl hp))))
  simp only [List.map, xv, fev, fvl, gtI, Int.one_mul, Int.add_zero, Int.zero_add] at p1 p2 p3 p4
  have q := k_runc_ul (z := z) (s := s) (i := i) (l := l) (d := d) p1 p2 p3 p4
  refine ⟨[], rfl, fOk_cons (i_put rfl ?_ ?_) fOk_nil⟩ <;> simp only [List.map, xv, fev, fvl, gtI, Int.one_mul, Int.add_zero, Int.zero_add, List.append_nil]
  · exact q.1
  · exact q.2
def r_runc_ud : eRul := (5, [xP 36 [xv 0, xv 1, xv 2, xv 3, xv 4], xG (([(1, -1)], 0)), xG (([(2, 1)], -940)), (.inl [[(-2147483648, 2147483647)]], [xv 4])], 0, [(.inl [[(0, 940)]], [xv 4])])
theorem r_runc_ud_ok : ruOk r_runc_ud := by
  intro ρ hl0 hp
  obtain ⟨z, t0, rfl, hl1⟩ := len_inv hl0
  obtain ⟨s, t1, rfl, hl2⟩ := len_inv hl1
  obtain ⟨i, t2, rfl, hl3⟩ := len_inv hl2
  obtain ⟨l, t3, rfl, hl4⟩ := len_inv hl3
  obtain ⟨d, t4, rfl, hl5⟩ := len_inv hl4
  have hl := List.eq_nil_of_length_eq_zero hl5
  subst hl
  have p1 := p_get3 (by decide) (fOk_hd hp)
  have p2 := gg_get (fOk_hd (fOk_tl hp))
  have p3 := gg_get (fOk_hd (fOk_tl (fOk_tl hp)))
  have p4 := i_get (fOk_hd (fOk_tl (fOk_tl (fOk_tl hp))))
  simp only [List.map, xv, fev, fvl, gtI, Int.one_mul, Int.add_zero, Int.zero_add] at p1 p2 p3 p4
  have q := k_runc_ud (z := z) (s := s) (i := i) (l := l) (d := d) p1 p2 p3 p4
  refine ⟨[], rfl, fOk_cons (i_put rfl ?_ ?_) fOk_nil⟩ <;> simp only [List.map, xv, fev, fvl, gtI, Int.one_mul, Int.add_zero, Int.zero_add, List.append_nil]
  · exact q.1
  · exact q.2
def r_rune_e : eRul := (6, [xP 36 [xv 0, xv 1, xv 2, xv 3, xv 4], xG (([(2, -1), (5, 1)], 0)), xG (([(2, 1), (5, -1)], 0))], 0, [xP 39 [xv 0, xv 5, xv 1, xv 2]])
theorem r_rune_e_ok : ruOk r_rune_e := by
  intro ρ hl0 hp
  obtain ⟨z, t0, rfl, hl1⟩ := len_inv hl0
  obtain ⟨s, t1, rfl, hl2⟩ := len_inv hl1
  obtain ⟨e, t2, rfl, hl3⟩ := len_inv hl2
  obtain ⟨l, t3, rfl, hl4⟩ := len_inv hl3
  obtain ⟨d, t4, rfl, hl5⟩ := len_inv hl4
  obtain ⟨n, t5, rfl, hl6⟩ := len_inv hl5
  have hl := List.eq_nil_of_length_eq_zero hl6
  subst hl
  have p1 := p_get3 (by decide) (fOk_hd hp)
  have p2 := gg_get (fOk_hd (fOk_tl hp))
  have p3 := gg_get (fOk_hd (fOk_tl (fOk_tl hp)))
  simp only [List.map, xv, fev, fvl, gtI, Int.one_mul, Int.add_zero, Int.zero_add] at p1 p2 p3
  have q := k_rune_e (z := z) (s := s) (e := e) (l := l) (d := d) (n := n) p1 p2 p3
  refine ⟨[], rfl, fOk_cons (p_put3 rfl (by decide) ?_) fOk_nil⟩ <;> simp only [List.map, xv, fev, fvl, gtI, Int.one_mul, Int.add_zero, Int.zero_add, List.append_nil]
  exact q
def r_rune_b : eRul := (7, [xP 36 [xv 0, xv 1, xv 2, xv 3, xv 4], xP 1 [xv 5, xv 0, xv 2], xP 31 [xv 5, ([], 0)], xP 32 [xv 5, ([], 0)], xG (([(2, 1), (6, -1)], 1))], 0, [xP 39 [xv 0, xv 6, xv 1, xv 2]])
theorem r_rune_b_ok : ruOk r_rune_b := by
  intro ρ hl0 hp
  obtain ⟨z, t0, rfl, hl1⟩ := len_inv hl0
  obtain ⟨s, t1, rfl, hl2⟩ := len_inv hl1
  obtain ⟨e, t2, rfl, hl3⟩ := len_inv hl2
  obtain ⟨l, t3, rfl, hl4⟩ := len_inv hl3
  obtain ⟨d, t4, rfl, hl5⟩ := len_inv hl4
  obtain ⟨b, t5, rfl, hl6⟩ := len_inv hl5
  obtain ⟨n, t6, rfl, hl7⟩ := len_inv hl6
  have hl := List.eq_nil_of_length_eq_zero hl7
  subst hl
  have p1 := p_get3 (by decide) (fOk_hd hp)
  have p2 := p_get (fOk_hd (fOk_tl hp))
  have p3 := p_get3 (by decide) (fOk_hd (fOk_tl (fOk_tl hp)))
  have p4 := p_get3 (by decide) (fOk_hd (fOk_tl (fOk_tl (fOk_tl hp))))
  have p5 := gg_get (fOk_hd (fOk_tl (fOk_tl (fOk_tl (fOk_tl hp)))))
  simp only [List.map, xv, fev, fvl, gtI, Int.one_mul, Int.add_zero, Int.zero_add, PR] at p1 p2 p3 p4 p5
  have q := k_rune_b (z := z) (s := s) (e := e) (l := l) (d := d) (b := b) (n := n) p1 p2 p3 p4 p5
  refine ⟨[], rfl, fOk_cons (p_put3 rfl (by decide) ?_) fOk_nil⟩ <;> simp only [List.map, xv, fev, fvl, gtI, Int.one_mul, Int.add_zero, Int.zero_add, List.append_nil]
  exact q
def r_rn_l : eRul := (3, [xP 1 [xv 0, xv 1, xv 2], xP 31 [xv 0, ([], 1)]], 0, [xP 87 [xv 1, xv 2]])
theorem r_rn_l_ok : ruOk r_rn_l := by
  intro ρ hl0 hp
  obtain ⟨b, t0, rfl, hl1⟩ := len_inv hl0
  obtain ⟨z, t1, rfl, hl2⟩ := len_inv hl1
  obtain ⟨s, t2, rfl, hl3⟩ := len_inv hl2
  have hl := List.eq_nil_of_length_eq_zero hl3
  subst hl
  have p1 := p_get (fOk_hd hp)
  have p2 := p_get3 (by decide) (fOk_hd (fOk_tl hp))
  simp only [List.map, xv, fev, fvl, gtI, Int.one_mul, Int.add_zero, Int.zero_add, PR] at p1 p2
  have q := k_rn_l (b := b) (z := z) (s := s) p1 p2
  refine ⟨[], rfl, fOk_cons (p_put3 rfl (by decide) ?_) fOk_nil⟩ <;> simp only [List.map, xv, fev, fvl, gtI, Int.one_mul, Int.add_zero, Int.zero_add, List.append_nil]
  exact q
def r_rn_d : eRul := (3, [xP 1 [xv 0, xv 1, xv 2], xP 32 [xv 0, ([], 1)]], 0, [xP 87 [xv 1, xv 2]])
theorem r_rn_d_ok : ruOk r_rn_d := by
  intro ρ hl0 hp
  obtain ⟨b, t0, rfl, hl1⟩ := len_inv hl0
  obtain ⟨z, t1, rfl, hl2⟩ := len_inv hl1
  obtain ⟨s, t2, rfl, hl3⟩ := len_inv hl2
  have hl := List.eq_nil_of_length_eq_zero hl3
  subst hl
  have p1 := p_get (fOk_hd hp)
  have p2 := p_get3 (by decide) (fOk_hd (fOk_tl hp))
  simp only [List.map, xv, fev, fvl, gtI, Int.one_mul, Int.add_zero, Int.zero_add, PR] at p1 p2
  have q := k_rn_d (b := b) (z := z) (s := s) p1 p2
  refine ⟨[], rfl, fOk_cons (p_put3 rfl (by decide) ?_) fOk_nil⟩ <;> simp only [List.map, xv, fev, fvl, gtI, Int.one_mul, Int.add_zero, Int.zero_add, List.append_nil]
  exact q
def r_runk_w : eRul := (6, [xP 36 [xv 0, xv 1, xv 2, xv 3, xv 4], (.inl [[(0, 0)]], [xv 4]), xG (([(3, 1)], -7)), (.inl [[(2, 2)]], [xv 5])], 0, [xP 40 [xv 0, xv 1, xv 2, xv 5]])
theorem r_runk_w_ok : ruOk r_runk_w := by
  intro ρ hl0 hp
  obtain ⟨z, t0, rfl, hl1⟩ := len_inv hl0
  obtain ⟨s, t1, rfl, hl2⟩ := len_inv hl1
  obtain ⟨e, t2, rfl, hl3⟩ := len_inv hl2
  obtain ⟨l, t3, rfl, hl4⟩ := len_inv hl3
  obtain ⟨d, t4, rfl, hl5⟩ := len_inv hl4
  obtain ⟨k, t5, rfl, hl6⟩ := len_inv hl5
  have hl := List.eq_nil_of_length_eq_zero hl6
  subst hl
  have p1 := p_get3 (by decide) (fOk_hd hp)
  have p2 := i_get (fOk_hd (fOk_tl hp))
  have p3 := gg_get (fOk_hd (fOk_tl (fOk_tl hp)))
  have p4 := i_get (fOk_hd (fOk_tl (fOk_tl (fOk_tl hp))))
  simp only [List.map, xv, fev, fvl, gtI, Int.one_mul, Int.add_zero, Int.zero_add] at p1 p2 p3 p4
  have q := k_runk_w (z := z) (s := s) (e := e) (l := l) (d := d) (k := k) p1 p2 p3 p4
  refine ⟨[], rfl, fOk_cons (p_put3 rfl (by decide) ?_) fOk_nil⟩ <;> simp only [List.map, xv, fev, fvl, gtI, Int.one_mul, Int.add_zero, Int.zero_add, List.append_nil]
  exact q
def r_runk_n : eRul := (6, [xP 36 [xv 0, xv 1, xv 2, xv 3, xv 4], (.inl [[(0, 0)]], [xv 3]), xG (([(4, 1)], -3)), (.inl [[(3, 3)]], [xv 5])], 0, [xP 40 [xv 0, xv 1, xv 2, xv 5]])
theorem r_runk_n_ok : ruOk r_runk_n := by
  intro ρ hl0 hp
  obtain ⟨z, t0, rfl, hl1⟩ := len_inv hl0
  obtain ⟨s, t1, rfl, hl2⟩ := len_inv hl1
  obtain ⟨e, t2, rfl, hl3⟩ := len_inv hl2
  obtain ⟨l, t3, rfl, hl4⟩ := len_inv hl3
  obtain ⟨d, t4, rfl, hl5⟩ := len_inv hl4
  obtain ⟨k, t5, rfl, hl6⟩ := len_inv hl5
  have hl := List.eq_nil_of_length_eq_zero hl6
  subst hl
  have p1 := p_get3 (by decide) (fOk_hd hp)
  have p2 := i_get (fOk_hd (fOk_tl hp))
  have p3 := gg_get (fOk_hd (fOk_tl (fOk_tl hp)))
  have p4 := i_get (fOk_hd (fOk_tl (fOk_tl (fOk_tl hp))))
  simp only [List.map, xv, fev, fvl, gtI, Int.one_mul, Int.add_zero, Int.zero_add] at p1 p2 p3 p4
  have q := k_runk_n (z := z) (s := s) (e := e) (l := l) (d := d) (k := k) p1 p2 p3 p4
  refine ⟨[], rfl, fOk_cons (p_put3 rfl (by decide) ?_) fOk_nil⟩ <;> simp only [List.map, xv, fev, fvl, gtI, Int.one_mul, Int.add_zero, Int.zero_add, List.append_nil]
  exact q
def r_runk_a : eRul := (6, [xP 36 [xv 0, xv 1, xv 2, xv 3, xv 4], xG (([(3, -1)], 1)), xG (([(4, -1)], 1)), (.inl [[(0, 0)]], [xv 5])], 0, [xP 40 [xv 0, xv 1, xv 2, xv 5]])
theorem r_runk_a_ok : ruOk r_runk_a := by
  intro ρ hl0 hp
  obtain ⟨z, t0, rfl, hl1⟩ := len_inv hl0
  obtain ⟨s, t1, rfl, hl2⟩ := len_inv hl1
  obtain ⟨e, t2, rfl, hl3⟩ := len_inv hl2
  obtain ⟨l, t3, rfl, hl4⟩ := len_inv hl3
  obtain ⟨d, t4, rfl, hl5⟩ := len_inv hl4
  obtain ⟨k, t5, rfl, hl6⟩ := len_inv hl5
  have hl := List.eq_nil_of_length_eq_zero hl6
  subst hl
  have p1 := p_get3 (by decide) (fOk_hd hp)
  have p2 := gg_get (fOk_hd (fOk_tl hp))
  have p3 := gg_get (fOk_hd (fOk_tl (fOk_tl hp)))
  have p4 := i_get (fOk_hd (fOk_tl (fOk_tl (fOk_tl hp))))
  simp only [List.map, xv, fev, fvl, gtI, Int.one_mul, Int.add_zero, Int.zero_add] at p1 p2 p3 p4
  have q := k_runk_a (z := z) (s := s) (e := e) (l := l) (d := d) (k := k) p1 p2 p3 p4
  refine ⟨[], rfl, fOk_cons (p_put3 rfl (by decide) ?_) fOk_nil⟩ <;> simp only [List.map, xv, fev, fvl, gtI, Int.one_mul, Int.add_zero, Int.zero_add, List.append_nil]
  exact q
def r_runk_b : eRul := (6, [xP 36 [xv 0, xv 1, xv 2, xv 3, xv 4], (.inl [[(0, 0)]], [xv 4]), xG (([(3, -1)], 8)), (.inl [[(0, 0)]], [xv 5])], 0, [xP 40 [xv 0, xv 1, xv 2, xv 5]])
theorem r_runk_b_ok : ruOk r_runk_b := by
  intro ρ hl0 hp
  obtain ⟨z, t0, rfl, hl1⟩ := len_inv hl0
  obtain ⟨s, t1, rfl, hl2⟩ := len_inv hl1
  obtain ⟨e, t2, rfl, hl3⟩ := len_inv hl2
  obtain ⟨l, t3, rfl, hl4⟩ := len_inv hl3
  obtain ⟨d, t4, rfl, hl5⟩ := len_inv hl4
  obtain ⟨k, t5, rfl, hl6⟩ := len_inv hl5
  have hl := List.eq_nil_of_length_eq_zero hl6
  subst hl
  have p1 := p_get3 (by decide) (fOk_hd hp)
  have p2 := i_get (fOk_hd (fOk_tl hp))
  have p3 := gg_get (fOk_hd (fOk_tl (fOk_tl hp)))
  have p4 := i_get (fOk_hd (fOk_tl (fOk_tl (fOk_tl hp))))
  simp only [List.map, xv, fev, fvl, gtI, Int.one_mul, Int.add_zero, Int.zero_add] at p1 p2 p3 p4
  have q := k_runk_b (z := z) (s := s) (e := e) (l := l) (d := d) (k := k) p1 p2 p3 p4
  refine ⟨[], rfl, fOk_cons (p_put3 rfl (by decide) ?_) fOk_nil⟩ <;> simp only [List.map, xv, fev, fvl, gtI, Int.one_mul, Int.add_zero, Int.zero_add, List.append_nil]
  exact q
def r_runk_c : eRul := (6, [xP 36 [xv 0, xv 1, xv 2, xv 3, xv 4], (.inl [[(0, 0)]], [xv 3]), xG (([(4, -1)], 4)), (.inl [[(0, 0)]], [xv 5])], 0, [xP 40 [xv 0, xv 1, xv 2, xv 5]])
theorem r_runk_c_ok : ruOk r_runk_c := by
  intro ρ hl0 hp
  obtain ⟨z, t0, rfl, hl1⟩ := len_inv hl0
  obtain ⟨s, t1, rfl, hl2⟩ := len_inv hl1
  obtain ⟨e, t2, rfl, hl3⟩ := len_inv hl2
  obtain ⟨l, t3, rfl, hl4⟩ := len_inv hl3
  obtain ⟨d, t4, rfl, hl5⟩ := len_inv hl4
  obtain ⟨k, t5, rfl, hl6⟩ := len_inv hl5
  have hl := List.eq_nil_of_length_eq_zero hl6
  subst hl
  have p1 := p_get3 (by decide) (fOk_hd hp)
  have p2 := i_get (fOk_hd (fOk_tl hp))
  have p3 := gg_get (fOk_hd (fOk_tl (fOk_tl hp)))
  have p4 := i_get (fOk_hd (fOk_tl (fOk_tl (fOk_tl hp))))
  simp only [List.map, xv, fev, fvl, gtI, Int.one_mul, Int.add_zero, Int.zero_add] at p1 p2 p3 p4
  have q := k_runk_c (z := z) (s := s) (e := e) (l := l) (d := d) (k := k) p1 p2 p3 p4
  refine ⟨[], rfl, fOk_cons (p_put3 rfl (by decide) ?_) fOk_nil⟩ <;> simp only [List.map, xv, fev, fvl, gtI, Int.one_mul, Int.add_zero, Int.zero_add, List.append_nil]
  exact q
def r_valc_0 : eRul := (2, [xG (([(0, -1)], 0))], 0, [xP 37 [xv 1, xv 0, xv 0, ([], 0)]])
theorem r_valc_0_ok : ruOk r_valc_0 := by
  intro ρ hl0 hp
  obtain ⟨s, t0, rfl, hl1⟩ := len_inv hl0
  obtain ⟨z, t1, rfl, hl2⟩ := len_inv hl1
  have hl := List.eq_nil_of_length_eq_zero hl2
  subst hl
  have p1 := gg_get (fOk_hd hp)
  simp only [List.map, xv, fev, fvl, gtI, Int.one_mul, Int.add_zero, Int.zero_add] at p1
  have q := k_valc_0 (s := s) (z := z) p1
  refine ⟨[], rfl, fOk_cons (p_put3 rfl (by decide) ?_) fOk_nil⟩ <;> simp only [List.map, xv, fev, fvl, gtI, Int.one_mul, Int.add_zero, Int.zero_add, List.append_nil]
  exact q
def r_valc_d : eRul := (5, [xP 37 [xv 0, xv 1, xv 2, xv 3], xP 1 [xv 4, xv 0, xv 2], xP 32 [xv 4, ([], 1)], xG (([(1, -1), (2, 1)], -2))], 0, [xP 37 [xv 0, xv 1, ([(2, 1)], 1), ([(3, 10), (4, 1)], -48)]])
theorem r_valc_d_ok : ruOk r_valc_d := by
  intro ρ hl0 hp
  obtain ⟨z, t0, rfl, hl1⟩ := len_inv hl0
  obtain ⟨s, t1, rfl, hl2⟩ := len_inv hl1
  obtain ⟨i, t2, rfl, hl3⟩ := len_inv hl2
  obtain ⟨v, t3, rfl, hl4⟩ := len_inv hl3
  obtain ⟨b, t4, rfl, hl5⟩ := len_inv hl4
  have hl := List.eq_nil_of_length_eq_zero hl5
  subst hl
  have p1 := p_get3 (by decide) (fOk_hd hp)
  have p2 := p_get (fOk_hd (fOk_tl hp))
  have p3 := p_get3 (by decide) (fOk_hd (fOk_tl (fOk_tl hp)))
  have p4 := gg_get (fOk_hd (fOk_tl (fOk_tl (fOk_tl hp))))
  simp only [List.map, xv, fev, fvl, gtI, Int.one_mul, Int.add_zero, Int.zero_add, PR] at p1 p2 p3 p4
  have q := k_valc_d (z := z) (s := s) (i := i) (v := v) (b := b) p1 p2 p3 p4
  refine ⟨[], rfl, fOk_cons (p_put3 rfl (by decide) ?_) fOk_nil⟩ <;> simp only [List.map, xv, fev, fvl, gtI, Int.one_mul, Int.add_zero, Int.zero_add, List.append_nil]
  exact q
def r_valc_l : eRul := (5, [xP 37 [xv 0, xv 1, xv 2, xv 3], xP 1 [xv 4, xv 0, xv 2], xP 31 [xv 4, ([], 1)]], 0, [xP 37 [xv 0, xv 1, ([(2, 1)], 1), xv 3]])
theorem r_valc_l_ok : ruOk r_valc_l := by
  intro ρ hl0 hp
  obtain ⟨z, t0, rfl, hl1⟩ := len_inv hl0
  obtain ⟨s, t1, rfl, hl2⟩ := len_inv hl1
  obtain ⟨i, t2, rfl, hl3⟩ := len_inv hl2
  obtain ⟨v, t3, rfl, hl4⟩ := len_inv hl3
  obtain ⟨b, t4, rfl, hl5⟩ := len_inv hl4
  have hl := List.eq_nil_of_length_eq_zero hl5
  subst hl
  have p1 := p_get3 (by decide) (fOk_hd hp)
  have p2 := p_get (fOk_hd (fOk_tl hp))
  have p3 := p_get3 (by decide) (fOk_hd (fOk_tl (fOk_tl hp)))
  simp only [List.map, xv, fev, fvl, gtI, Int.one_mul, Int.add_zero, Int.zero_add, PR] at p1 p2 p3
  have q := k_valc_l (z := z) (s := s) (i := i) (v := v) (b := b) p1 p2 p3
  refine ⟨[], rfl, fOk_cons (p_put3 rfl (by decide) ?_) fOk_nil⟩ <;> simp only [List.map, xv, fev, fvl, gtI, Int.one_mul, Int.add_zero, Int.zero_add, List.append_nil]
  exact q
def r_valc_L : eRul := (5, [xP 37 [xv 0, xv 1, xv 2, xv 3], xP 1 [xv 4, xv 0, xv 2], xP 31 [xv 4, ([], 1)], xG (([(1, -1), (2, 1)], -2))], 0, [xP 37 [xv 0, xv 1, ([(2, 1)], 1), ([(3, 10), (4, 1)], -48)]])
theorem r_valc_L_ok : ruOk r_valc_L := by
  intro ρ hl0 hp
  obtain ⟨z, t0, rfl, hl1⟩ := len_inv hl0
  obtain ⟨s, t1, rfl, hl2⟩ := len_inv hl1
  obtain ⟨i, t2, rfl, hl3⟩ := len_inv hl2
  obtain ⟨v, t3, rfl, hl4⟩ := len_inv hl3
  obtain ⟨b, t4, rfl, hl5⟩ := len_inv hl4
  have hl := List.eq_nil_of_length_eq_zero hl5
  subst hl
  have p1 := p_get3 (by decide) (fOk_hd hp)
  have p2 := p_get (fOk_hd (fOk_tl hp))
  have p3 := p_get3 (by decide) (fOk_hd (fOk_tl (fOk_tl hp)))
  have p4 := gg_get (fOk_hd (fOk_tl (fOk_tl (fOk_tl hp))))
  simp only [List.map, xv, fev, fvl, gtI, Int.one_mul, Int.add_zero, Int.zero_add, PR] at p1 p2 p3 p4
  have q := k_valc_L (z := z) (s := s) (i := i) (v := v) (b := b) p1 p2 p3 p4
  refine ⟨[], rfl, fOk_cons (p_put3 rfl (by decide) ?_) fOk_nil⟩ <;> simp only [List.map, xv, fev, fvl, gtI, Int.one_mul, Int.add_zero, Int.zero_add, List.append_nil]
  exact q
def r_valc_x : eRul := (5, [xP 37 [xv 0, xv 1, xv 2, xv 3], xG (([(1, 1), (2, -1)], 3))], 0, [xP 37 [xv 0, xv 1, ([(2, 1)], 1), xv 4]])
theorem r_valc_x_ok : ruOk r_valc_x := by
  intro ρ hl0 hp
  obtain ⟨z, t0, rfl, hl1⟩ := len_inv hl0
  obtain ⟨s, t1, rfl, hl2⟩ := len_inv hl1
  obtain ⟨i, t2, rfl, hl3⟩ := len_inv hl2
  obtain ⟨u, t3, rfl, hl4⟩ := len_inv hl3
  obtain ⟨v, t4, rfl, hl5⟩ := len_inv hl4
  have hl := List.eq_nil_of_length_eq_zero hl5
  subst hl
  have p1 := p_get3 (by decide) (fOk_hd hp)
  have p2 := gg_get (fOk_hd (fOk_tl hp))
  simp only [List.map, xv, fev, fvl, gtI, Int.one_mul, Int.add_zero, Int.zero_add] at p1 p2
  have q := k_valc_x (z := z) (s := s) (i := i) (u := u) (v := v) p1 p2
  refine ⟨[], rfl, fOk_cons (p_put3 rfl (by decide) ?_) fOk_nil⟩ <;> simp only [List.map, xv, fev, fvl, gtI, Int.one_mul, Int.add_zero, Int.zero_add, List.append_nil]
  exact q
def r_valc_use : eRul := (4, [xP 37 [xv 0, xv 1, xv 2, xv 3], xG (([(1, -1), (2, 1)], -2)), (.inl [[(-2147483648, 2147483647)]], [xv 3])], 0, [(.inl [[(0, 814)]], [xv 3])])
theorem r_valc_use_ok : ruOk r_valc_use := by
  intro ρ hl0 hp
  obtain ⟨z, t0, rfl, hl1⟩ := len_inv hl0
  obtain ⟨s, t1, rfl, hl2⟩ := len_inv hl1
  obtain ⟨i, t2, rfl, hl3⟩ := len_inv hl2
  obtain ⟨v, t3, rfl, hl4⟩ := len_inv hl3
  have hl := List.eq_nil_of_length_eq_zero hl4
  subst hl
  have p1 := p_get3 (by decide) (fOk_hd hp)
  have p2 := gg_get (fOk_hd (fOk_tl hp))
  have p3 := i_get (fOk_hd (fOk_tl (fOk_tl hp)))
  simp only [List.map, xv, fev, fvl, gtI, Int.one_mul, Int.add_zero, Int.zero_add] at p1 p2 p3
  have q := k_valc_use (z := z) (s := s) (i := i) (v := v) p1 p2 p3
  refine ⟨[], rfl, fOk_cons (i_put rfl ?_ ?_) fOk_nil⟩ <;> simp only [List.map, xv, fev, fvl, gtI, Int.one_mul, Int.add_zero, Int.zero_add, List.append_nil]
  · exact q.1
  · exact q.2
def r_valc_use3 : eRul := (4, [xP 37 [xv 0, xv 1, xv 2, xv 3], xG (([(1, -1), (2, 1)], -3)), (.inl [[(-2147483648, 2147483647)]], [xv 3])], 0, [(.inl [[(0, 8214)]], [xv 3])])
theorem r_valc_use3_ok : ruOk r_valc_use3 := by
  intro ρ hl0 hp
  obtain ⟨z, t0, rfl, hl1⟩ := len_inv hl0
  obtain ⟨s, t1, rfl, hl2⟩ := len_inv hl1
  obtain ⟨i, t2, rfl, hl3⟩ := len_inv hl2
  obtain ⟨v, t3, rfl, hl4⟩ := len_inv hl3
  have hl := List.eq_nil_of_length_eq_zero hl4
  subst hl
  have p1 := p_get3 (by decide) (fOk_hd hp)
  have p2 := gg_get (fOk_hd (fOk_tl hp))
  have p3 := i_get (fOk_hd (fOk_tl (fOk_tl hp)))
  simp only [List.map, xv, fev, fvl, gtI, Int.one_mul, Int.add_zero, Int.zero_add] at p1 p2 p3
  have q := k_valc_use3 (z := z) (s := s) (i := i) (v := v) p1 p2 p3
  refine ⟨[], rfl, fOk_cons (i_put rfl ?_ ?_) fOk_nil⟩ <;> simp only [List.map, xv, fev, fvl, gtI, Int.one_mul, Int.add_zero, Int.zero_add, List.append_nil]
  · exact q.1
  · exact q.2
def r_wrdc_0 : eRul := (2, [xG (([(0, -1)], 0))], 0, [xP 38 [xv 1, xv 0, xv 0, ([], 0)]])
theorem r_wrdc_0_ok : ruOk r_wrdc_0 := by
  intro ρ hl0 hp
  obtain ⟨s, t0, rfl, hl1⟩ := len_inv hl0
  obtain ⟨z, t1, rfl, hl2⟩ := len_inv hl1
  have hl := List.eq_nil_of_length_eq_zero hl2
  subst hl
  have p1 := gg_get (fOk_hd hp)
  simp only [List.map, xv, fev, fvl, gtI, Int.one_mul, Int.add_zero, Int.zero_add] at p1
  have q := k_wrdc_0 (s := s) (z := z) p1
  refine ⟨[], rfl, fOk_cons (p_put3 rfl (by decide) ?_) fOk_nil⟩ <;> simp only [List.map, xv, fev, fvl, gtI, Int.one_mul, Int.add_zero, Int.zero_add, List.append_nil]
  exact q
def r_wrdc_l : eRul := (5, [xP 38 [xv 0, xv 1, xv 2, xv 3], xP 1 [xv 4, xv 0, xv 2], xP 31 [xv 4, ([], 1)], xG (([(1, -1), (2, 1)], -6))], 0, [xP 38 [xv 0, xv 1, ([(2, 1)], 1), ([(3, 32), (4, 1)], -96)]])
theorem r_wrdc_l_ok : ruOk r_wrdc_l := by
  intro ρ hl0 hp
  obtain ⟨z, t0, rfl, hl1⟩ := len_inv hl0
  obtain ⟨s, t1, rfl, hl2⟩ := len_inv hl1
  obtain ⟨i, t2, rfl, hl3⟩ := len_inv hl2
  obtain ⟨w, t3, rfl, hl4⟩ := len_inv hl3
  obtain ⟨b, t4, rfl, hl5⟩ := len_inv hl4
  have hl := List.eq_nil_of_length_eq_zero hl5
  subst hl
  have p1 := p_get3 (by decide) (fOk_hd hp)
  have p2 := p_get (fOk_hd (fOk_tl hp))
  have p3 := p_get3 (by decide) (fOk_hd (fOk_tl (fOk_tl hp)))
  have p4 := gg_get (fOk_hd (fOk_tl (fOk_tl (fOk_tl hp))))
  simp only [List.map, xv, fev, fvl, gtI, Int.one_mul, Int.add_zero, Int.zero_add, PR] at p1 p2 p3 p4
  have q := k_wrdc_l (z := z) (s := s) (i := i) (w := w) (b := b) p1 p2 p3 p4
  refine ⟨[], rfl, fOk_cons (p_put3 rfl (by decide) ?_) fOk_nil⟩ <;> simp only [List.map, xv, fev, fvl, gtI, Int.one_mul, Int.add_zero, Int.zero_add, List.append_nil]
  exact q
def r_wrdc_d : eRul := (5, [xP 38 [xv 0, xv 1, xv 2, xv 3], xP 1 [xv 4, xv 0, xv 2], xP 32 [xv 4, ([], 1)]], 0, [xP 38 [xv 0, xv 1, ([(2, 1)], 1), xv 3]])
theorem r_wrdc_d_ok : ruOk r_wrdc_d := by
  intro ρ hl0 hp
  obtain ⟨z, t0, rfl, hl1⟩ := len_inv hl0
  obtain ⟨s, t1, rfl, hl2⟩ := len_inv hl1
  obtain ⟨i, t2, rfl, hl3⟩ := len_inv hl2
  obtain ⟨w, t3, rfl, hl4⟩ := len_inv hl3
  obtain ⟨b, t4, rfl, hl5⟩ := len_inv hl4
  have hl := List.eq_nil_of_length_eq_zero hl5
  subst hl
  have p1 := p_get3 (by decide) (fOk_hd hp)
  have p2 := p_get (fOk_hd (fOk_tl hp))
  have p3 := p_get3 (by decide) (fOk_hd (fOk_tl (fOk_tl hp)))
  simp only [List.map, xv, fev, fvl, gtI, Int.one_mul, Int.add_zero, Int.zero_add, PR] at p1 p2 p3
  have q := k_wrdc_d (z := z) (s := s) (i := i) (w := w) (b := b) p1 p2 p3
  refine ⟨[], rfl, fOk_cons (p_put3 rfl (by decide) ?_) fOk_nil⟩ <;> simp only [List.map, xv, fev, fvl, gtI, Int.one_mul, Int.add_zero, Int.zero_add, List.append_nil]
  exact q
def r_wrdc_x : eRul := (5, [xP 38 [xv 0, xv 1, xv 2, xv 3], xG (([(1, 1), (2, -1)], 7))], 0, [xP 38 [xv 0, xv 1, ([(2, 1)], 1), xv 4]])
theorem r_wrdc_x_ok : ruOk r_wrdc_x := by
  intro ρ hl0 hp
  obtain ⟨z, t0, rfl, hl1⟩ := len_inv hl0
  obtain ⟨s, t1, rfl, hl2⟩ := len_inv hl1
  obtain ⟨i, t2, rfl, hl3⟩ := len_inv hl2
  obtain ⟨u, t3, rfl, hl4⟩ := len_inv hl3
  obtain ⟨w, t4, rfl, hl5⟩ := len_inv hl4
  have hl := List.eq_nil_of_length_eq_zero hl5
  subst hl
  have p1 := p_get3 (by decide) (fOk_hd hp)
  have p2 := gg_get (fOk_hd (fOk_tl hp))
  simp only [List.map, xv, fev, fvl, gtI, Int.one_mul, Int.add_zero, Int.zero_add] at p1 p2
  have q := k_wrdc_x (z := z) (s := s) (i := i) (u := u) (w := w) p1 p2
  refine ⟨[], rfl, fOk_cons (p_put3 rfl (by decide) ?_) fOk_nil⟩ <;> simp only [List.map, xv, fev, fvl, gtI, Int.one_mul, Int.add_zero, Int.zero_add, List.append_nil]
  exact q
def r_wrdc_use : eRul := (4, [xP 38 [xv 0, xv 1, xv 2, xv 3], xG (([(1, -1), (2, 1)], -6)), (.inl [[(-9223372036854775808, 9223372036854775807)]], [xv 3])], 0, [(.inl [[(0, 1073741823)]], [xv 3])])
theorem r_wrdc_use_ok : ruOk r_wrdc_use := by
  intro ρ hl0 hp
  obtain ⟨z, t0, rfl, hl1⟩ := len_inv hl0
  obtain ⟨s, t1, rfl, hl2⟩ := len_inv hl1
  obtain ⟨i, t2, rfl, hl3⟩ := len_inv hl2
  obtain ⟨w, t3, rfl, hl4⟩ := len_inv hl3
  have hl := List.eq_nil_of_length_eq_zero hl4
  subst hl
  have p1 := p_get3 (by decide) (fOk_hd hp)
  have p2 := gg_get (fOk_hd (fOk_tl hp))
  have p3 := i_get (fOk_hd (fOk_tl (fOk_tl hp)))
  simp only [List.map, xv, fev, fvl, gtI, Int.one_mul, Int.add_zero, Int.zero_add] at p1 p2 p3
  have q := k_wrdc_use (z := z) (s := s) (i := i) (w := w) p1 p2 p3
  refine ⟨[], rfl, fOk_cons (i_put rfl ?_ ?_) fOk_nil⟩ <;> simp only [List.map, xv, fev, fvl, gtI, Int.one_mul, Int.add_zero, Int.zero_add, List.append_nil]
  · exact q.1
  · exact q.2
def r_wrdr_0 : eRul := (2, [xG (([(0, -1)], 0))], 0, [xP 84 [xv 1, xv 0, xv 0, ([], 0)]])
theorem r_wrdr_0_ok : ruOk r_wrdr_0 := by
  intro ρ hl0 hp
  obtain ⟨s, t0, rfl, hl1⟩ := len_inv hl0
  obtain ⟨z, t1, rfl, hl2⟩ := len_inv hl1
  have hl := List.eq_nil_of_length_eq_zero hl2
  subst hl
  have p1 := gg_get (fOk_hd hp)
  simp only [List.map, xv, fev, fvl, gtI, Int.one_mul, Int.add_zero, Int.zero_add] at p1
  have q := k_wrdr_0 (s := s) (z := z) p1
  refine ⟨[], rfl, fOk_cons (p_put3 rfl (by decide) ?_) fOk_nil⟩ <;> simp only [List.map, xv, fev, fvl, gtI, Int.one_mul, Int.add_zero, Int.zero_add, List.append_nil]
  exact q
def r_wrdr_l : eRul := (5, [xP 84 [xv 0, xv 1, xv 2, xv 3], xP 1 [xv 4, xv 0, xv 2], xP 31 [xv 4, ([], 1)], xG (([(1, -1), (2, 1)], -6))], 0, [xP 84 [xv 0, xv 1, ([(2, 1)], 1), ([(3, 27), (4, 1)], -96)]])
theorem r_wrdr_l_ok : ruOk r_wrdr_l := by
  intro ρ hl0 hp
  obtain ⟨z, t0, rfl, hl1⟩ := len_inv hl0
  obtain ⟨s, t1, rfl, hl2⟩ := len_inv hl1
  obtain ⟨i, t2, rfl, hl3⟩ := len_inv hl2
  obtain ⟨w, t3, rfl, hl4⟩ := len_inv hl3
  obtain ⟨b, t4, rfl, hl5⟩ := len_inv hl4
  have hl := List.eq_nil_of_length_eq_zero hl5
  subst hl
  have p1 := p_get3 (by decide) (fOk_hd hp)
  have p2 := p_get (fOk_hd (fOk_tl hp))
  have p3 := p_get3 (by decide) (fOk_hd (fOk_tl (fOk_tl hp)))
  have p4 := gg_get (fOk_hd (fOk_tl (fOk_tl (fOk_tl hp))))
  simp only [List.map, xv, fev, fvl, gtI, Int.one_mul, Int.add_zero, Int.zero_add, PR] at p1 p2 p3 p4
  have q := k_wrdr_l (z := z) (s := s) (i := i) (w := w) (b := b) p1 p2 p3 p4
  refine ⟨[], rfl, fOk_cons (p_put3 rfl (by decide) ?_) fOk_nil⟩ <;> simp only [List.map, xv, fev, fvl, gtI, Int.one_mul, Int.add_zero, Int.zero_add, List.append_nil]
  exact q
def r_wrdr_d : eRul := (5, [xP 84 [xv 0, xv 1, xv 2, xv 3], xP 1 [xv 4, xv 0, xv 2], xP 32 [xv 4, ([], 1)], xG (([(1, -1), (2, 1)], -6))], 0, [xP 84 [xv 0, xv 1, ([(2, 1)], 1), ([(3, 27), (4, 1)], -96)]])
theorem r_wrdr_d_ok : ruOk r_wrdr_d := by
  intro ρ hl0 hp
  obtain ⟨z, t0, rfl, hl1⟩ := len_inv hl0
  obtain ⟨s, t1, rfl, hl2⟩ := len_inv hl1
  obtain ⟨i, t2, rfl, hl3⟩ := len_inv hl2
  obtain ⟨w, t3, rfl, hl4⟩ := len_inv hl3
  obtain ⟨b, t4, rfl, hl5⟩ := len_inv hl4
  have hl := List.eq_nil_of_length_eq_zero hl5
  subst hl
  have p1 := p_get3 (by decide) (fOk_hd hp)
  have p2 := p_get (fOk_hd (fOk_tl hp))
  have p3 := p_get3 (by decide) (fOk_hd (fOk_tl (fOk_tl hp)))
  have p4 := gg_get (fOk_hd (fOk_tl (fOk_tl (fOk_tl hp))))
  simp only [List.map, xv, fev, fvl, gtI, Int.one_mul, Int.add_zero, Int.zero_add, PR] at p1 p2 p3 p4
  have q := k_wrdr_d (z := z) (s := s) (i := i) (w := w) (b := b) p1 p2 p3 p4
  refine ⟨[], rfl, fOk_cons (p_put3 rfl (by decide) ?_) fOk_nil⟩ <;> simp only [List.map, xv, fev, fvl, gtI, Int.one_mul, Int.add_zero, Int.zero_add, List.append_nil]
  exact q
def r_wrdr_x : eRul := (5, [xP 84 [xv 0, xv 1, xv 2, xv 3], xG (([(1, 1), (2, -1)], 7))], 0, [xP 84 [xv 0, xv 1, ([(2, 1)], 1), xv 4]])
theorem r_wrdr_x_ok : ruOk r_wrdr_x := by
  intro ρ hl0 hp
  obtain ⟨z, t0, rfl, hl1⟩ := len_inv hl0
  obtain ⟨s, t1, rfl, hl2⟩ := len_inv hl1
  obtain ⟨i, t2, rfl, hl3⟩ := len_inv hl2
  obtain ⟨u, t3, rfl, hl4⟩ := len_inv hl3
  obtain ⟨w, t4, rfl, hl5⟩ := len_inv hl4
  have hl := List.eq_nil_of_length_eq_zero hl5
  subst hl
  have p1 := p_get3 (by decide) (fOk_hd hp)
  have p2 := gg_get (fOk_hd (fOk_tl hp))
  simp only [List.map, xv, fev, fvl, gtI, Int.one_mul, Int.add_zero, Int.zero_add] at p1 p2
  have q := k_wrdr_x (z := z) (s := s) (i := i) (u := u) (w := w) p1 p2
  refine ⟨[], rfl, fOk_cons (p_put3 rfl (by decide) ?_) fOk_nil⟩ <;> simp only [List.map, xv, fev, fvl, gtI, Int.one_mul, Int.add_zero, Int.zero_add, List.append_nil]
  exact q
def r_wrdr_use : eRul := (4, [xP 84 [xv 0, xv 1, xv 2, xv 3], xG (([(1, -1), (2, 1)], -6)), (.inl [[(-9223372036854775808, 9223372036854775807)]], [xv 3])], 0, [(.inl [[(-1000000000, 1000000000)]], [xv 3])])
theorem r_wrdr_use_ok : ruOk r_wrdr_use := by
  intro ρ hl0 hp
  obtain ⟨z, t0, rfl, hl1⟩ := len_inv hl0
  obtain ⟨s, t1, rfl, hl2⟩ := len_inv hl1
  obtain ⟨i, t2, rfl, hl3⟩ := len_inv hl2
  obtain ⟨w, t3, rfl, hl4⟩ := len_inv hl3
  have hl := List.eq_nil_of_length_eq_zero hl4
  subst hl
  have p1 := p_get3 (by decide) (fOk_hd hp)
  have p2 := gg_get (fOk_hd (fOk_tl hp))
  have p3 := i_get (fOk_hd (fOk_tl (fOk_tl hp)))
  simp only [List.map, xv, fev, fvl, gtI, Int.one_mul, Int.add_zero, Int.zero_add] at p1 p2 p3
  have q := k_wrdr_use (z := z) (s := s) (i := i) (w := w) p1 p2 p3
  refine ⟨[], rfl, fOk_cons (i_put rfl ?_ ?_) fOk_nil⟩ <;> simp only [List.map, xv, fev, fvl, gtI, Int.one_mul, Int.add_zero, Int.zero_add, List.append_nil]
  · exact q.1
  · exact q.2
def r_inl_a : eRul := (3, [xG (([(0, 1), (1, -1)], 0))], 0, [xP 41 [xv 0, xv 1, xv 2]])
theorem r_inl_a_ok : ruOk r_inl_a := by
  intro ρ hl0 hp
  obtain ⟨n, t0, rfl, hl1⟩ := len_inv hl0
  obtain ⟨M, t1, rfl, hl2⟩ := len_inv hl1
  obtain ⟨s, t2, rfl, hl3⟩ := len_inv hl2
  have hl := List.eq_nil_of_length_eq_zero hl3
  subst hl
  have p1 := gg_get (fOk_hd hp)
  simp only [List.map, xv, fev, fvl, gtI, Int.one_mul, Int.add_zero, Int.zero_add] at p1
  have q := k_inl_a (n := n) (M := M) (s := s) p1
  refine ⟨[], rfl, fOk_cons (p_put3 rfl (by decide) ?_) fOk_nil⟩ <;> simp only [List.map, xv, fev, fvl, gtI, Int.one_mul, Int.add_zero, Int.zero_add, List.append_nil]
  exact q
def r_inl_b : eRul := (3, [xG (([(0, 1), (1, -1)], 1))], 0, [xP 41 [xv 2, xv 1, xv 0]])
theorem r_inl_b_ok : ruOk r_inl_b := by
  intro ρ hl0 hp
  obtain ⟨s, t0, rfl, hl1⟩ := len_inv hl0
  obtain ⟨M, t1, rfl, hl2⟩ := len_inv hl1
  obtain ⟨n, t2, rfl, hl3⟩ := len_inv hl2
  have hl := List.eq_nil_of_length_eq_zero hl3
  subst hl
  have p1 := gg_get (fOk_hd hp)
  simp only [List.map, xv, fev, fvl, gtI, Int.one_mul, Int.add_zero, Int.zero_add] at p1
  have q := k_inl_b (s := s) (M := M) (n := n) p1
  refine ⟨[], rfl, fOk_cons (p_put3 rfl (by decide) ?_) fOk_nil⟩ <;> simp only [List.map, xv, fev, fvl, gtI, Int.one_mul, Int.add_zero, Int.zero_add, List.append_nil]
  exact q
def r_kwm_0 : eRul := (3, [xG (([(0, -1)], 0)), xG (([(0, 1), (1, -1)], 0))], 0, [xP 42 [xv 2, xv 0, xv 1, ([], 0), ([], 0), xv 0, ([], 1)]])
theorem r_kwm_0_ok : ruOk r_kwm_0 := by
  intro ρ hl0 hp
  obtain ⟨s, t0, rfl, hl1⟩ := len_inv hl0
  obtain ⟨e, t1, rfl, hl2⟩ := len_inv hl1
  obtain ⟨z, t2, rfl, hl3⟩ := len_inv hl2
  have hl := List.eq_nil_of_length_eq_zero hl3
  subst hl
  have p1 := gg_get (fOk_hd hp)
  have p2 := gg_get (fOk_hd (fOk_tl hp))
  simp only [List.map, xv, fev, fvl, gtI, Int.one_mul, Int.add_zero, Int.zero_add] at p1 p2
  have q := k_kwm_0 (s := s) (e := e) (z := z) p1 p2
  refine ⟨[], rfl, fOk_cons (p_put3 rfl (by decide) ?_) fOk_nil⟩ <;> simp only [List.map, xv, fev, fvl, gtI, Int.one_mul, Int.add_zero, Int.zero_add, List.append_nil]
  exact q
def r_kwm_hit : eRul := (7, [xP 42 [xv 0, xv 1, xv 2, xv 3, xv 4, xv 5, ([], 1)], xP 60 [([], 0), xv 3, xv 6], (.inl [[(32, 32)]], [xv 6]), xG (([(2, -1), (5, 1)], 0)), xG (([(2, 1), (5, -1)], 0)), xG (([(3, 1)], -125)), xG (([(3, -1)], 0))], 0, [xP 43 [xv 0, xv 1, xv 2, xv 4]])
theorem r_kwm_hit_ok : ruOk r_kwm_hit := by
  intro ρ hl0 hp
  obtain ⟨z, t0, rfl, hl1⟩ := len_inv hl0
  obtain ⟨s, t1, rfl, hl2⟩ := len_inv hl1
  obtain ⟨e, t2, rfl, hl3⟩ := len_inv hl2
  obtain ⟨i, t3, rfl, hl4⟩ := len_inv hl3
  obtain ⟨k, t4, rfl, hl5⟩ := len_inv hl4
  obtain ⟨a, t5, rfl, hl6⟩ := len_inv hl5
  obtain ⟨c, t6, rfl, hl7⟩ := len_inv hl6
  have hl := List.eq_nil_of_length_eq_zero hl7
  subst hl
  have p1 := p_get3 (by decide) (fOk_hd hp)
  have p2 := p_get3 (by decide) (fOk_hd (fOk_tl hp))
  have p3 := i_get (fOk_hd (fOk_tl (fOk_tl hp)))
  have p4 := gg_get (fOk_hd (fOk_tl (fOk_tl (fOk_tl hp))))
  have p5 := gg_get (fOk_hd (fOk_tl (fOk_tl (fOk_tl (fOk_tl hp)))))
  have p6 := gg_get (fOk_hd (fOk_tl (fOk_tl (fOk_tl (fOk_tl (fOk_tl hp))))))
  have p7 := gg_get (fOk_hd (fOk_tl (fOk_tl (fOk_tl (fOk_tl (fOk_tl (fOk_tl hp)))))))
  simp only [List.map, xv, fev, fvl, gtI, Int.one_mul, Int.add_zero, Int.zero_add] at p1 p2 p3 p4 p5 p6 p7
  have q := k_kwm_hit (z := z) (s := s) (e := e) (i := i) (k := k) (a := a) (c := c) p1 p2 p3 p4 p5 p6 p7
  refine ⟨[], rfl, fOk_cons (p_put3 rfl (by decide) ?_) fOk_nil⟩ <;> simp only [List.map, xv, fev, fvl, gtI, Int.one_mul, Int.add_zero, Int.zero_add, List.append_nil]
  exact q
def r_kwm_s0 : eRul := (7, [xP 42 [xv 0, xv 1, xv 2, xv 3, xv 4, xv 5, ([], 0)], xP 60 [([], 0), xv 3, xv 6], (.inl [[(32, 32)]], [xv 6]), xG (([(3, 1)], -125)), xG (([(3, -1)], 0))], 0, [xP 42 [xv 0, xv 1, xv 2, ([(3, 1)], 1), ([(4, 1)], 1), xv 1, ([], 1)]])
theorem r_kwm_s0_ok : ruOk r_kwm_s0 := by
  intro ρ hl0 hp
  obtain ⟨z, t0, rfl, hl1⟩ := len_inv hl0
  obtain ⟨s, t1, rfl, hl2⟩ := len_inv hl1
  obtain ⟨e, t2, rfl, hl3⟩ := len_inv hl2
  obtain ⟨i, t3, rfl, hl4⟩ := len_inv hl3
  obtain ⟨k, t4, rfl, hl5⟩ := len_inv hl4
  obtain ⟨a, t5, rfl, hl6⟩ := len_inv hl5
  obtain ⟨c, t6, rfl, hl7⟩ := len_inv hl6
  have hl := List.eq_nil_of_length_eq_zero hl7
  subst hl
  have p1 := p_get3 (by decide) (fOk_hd hp)
  have p2 := p_get3 (by decide) (fOk_hd (fOk_tl hp))
  have p3 := i_get (fOk_hd (fOk_tl (fOk_tl hp)))
  have p4 := gg_get (fOk_hd (fOk_tl (fOk_tl (fOk_tl hp))))
  have p5 := gg_get (fOk_hd (fOk_tl (fOk_tl (fOk_tl (fOk_tl hp)))))
  simp only [List.map, xv, fev, fvl, gtI, Int.one_mul, Int.add_zero, Int.zero_add] at p1 p2 p3 p4 p5
  have q := k_kwm_s0 (z := z) (s := s) (e := e) (i := i) (k := k) (a := a) (c := c) p1 p2 p3 p4 p5
  refine ⟨[], rfl, fOk_cons (p_put3 rfl (by decide) ?_) fOk_nil⟩ <;> simp only [List.map, xv, fev, fvl, gtI, Int.one_mul, Int.add_zero, Int.zero_add, List.append_nil]
  exact q
def r_kwm_s1 : eRul := (7, [xP 42 [xv 0, xv 1, xv 2, xv 3, xv 4, xv 5, ([], 1)], xP 60 [([], 0), xv 3, xv 6], (.inl [[(32, 32)]], [xv 6]), (.inl [[(-4294967296, -1)]], [([(2, -1), (5, 1)], 0)]), xG (([(3, 1)], -125)), xG (([(3, -1)], 0))], 0, [xP 42 [xv 0, xv 1, xv 2, ([(3, 1)], 1), ([(4, 1)], 1), xv 1, ([], 1)]])
theorem r_kwm_s1_ok : ruOk r_kwm_s1 := by
  intro ρ hl0 hp
  obtain ⟨z, t0, rfl, hl1⟩ := len_inv hl0
  obtain ⟨s, t1, rfl, hl2⟩ := len_inv hl1
  obtain ⟨e, t2, rfl, hl3⟩ := len_inv hl2
  obtain ⟨i, t3, rfl, hl4⟩ := len_inv hl3
  obtain ⟨k, t4, rfl, hl5⟩ := len_inv hl4
  obtain ⟨a, t5, rfl, hl6⟩ := len_inv hl5
  obtain ⟨c, t6, rfl, hl7⟩ := len_inv hl6
  have hl := List.eq_nil_of_length_eq_zero hl7
  subst hl
  have p1 := p_get3 (by decide) (fOk_hd hp)
  have p2 := p_get3 (by decide) (fOk_hd (fOk_tl hp))
  have p3 := i_get (fOk_hd (fOk_tl (fOk_tl hp)))
  have p4 := i_get (fOk_hd (fOk_tl (fOk_tl (fOk_tl hp))))
  have p5 := gg_get (fOk_hd (fOk_tl (fOk_tl (fOk_tl (fOk_tl hp)))))
  have p6 := gg_get (fOk_hd (fOk_tl (fOk_tl (fOk_tl (fOk_tl (fOk_tl hp))))))
  simp only [List.map, xv, fev, fvl, gtI, Int.one_mul, Int.add_zero, Int.zero_add] at p1 p2 p3 p4 p5 p6
  have q := k_kwm_s1 (z := z) (s := s) (e := e) (i := i) (k := k) (a := a) (c := c) p1 p2 p3 p4 p5 p6
  refine ⟨[], rfl, fOk_cons (p_put3 rfl (by decide) ?_) fOk_nil⟩ <;> simp only [List.map, xv, fev, fvl, gtI, Int.one_mul, Int.add_zero, Int.zero_add, List.append_nil]
  exact q
def r_kwm_s2 : eRul := (7, [xP 42 [xv 0, xv 1, xv 2, xv 3, xv 4, xv 5, ([], 1)], xP 60 [([], 0), xv 3, xv 6], (.inl [[(32, 32)]], [xv 6]), (.inl [[(-4294967296, -1)]], [([(2, 1), (5, -1)], 0)]), xG (([(3, 1)], -125)), xG (([(3, -1)], 0))], 0, [xP 42 [xv 0, xv 1, xv 2, ([(3, 1)], 1), ([(4, 1)], 1), xv 1, ([], 1)]])
theorem r_kwm_s2_ok : ruOk r_kwm_s2 := by
  intro ρ hl0 hp
  obtain ⟨z, t0, rfl, hl1⟩ := len_inv hl0
  obtain ⟨s, t1, rfl, hl2⟩ := len_inv hl1
  obtain ⟨e, t2, rfl, hl3⟩ := len_inv hl2
  obtain ⟨i, t3, rfl, hl4⟩ := len_inv hl3
  obtain ⟨k, t4, rfl, hl5⟩ := len_inv hl4
  obtain ⟨a, t5, rfl, hl6⟩ := len_inv hl5
  obtain ⟨c, t6, rfl, hl7⟩ := len_inv hl6
  have hl := List.eq_nil_of_length_eq_zero hl7
  subst hl
  have p1 := p_get3 (by decide) (fOk_hd hp)
  have p2 := p_get3 (by decide) (fOk_hd (fOk_tl hp))
  have p3 := i_get (fOk_hd (fOk_tl (fOk_tl hp)))
  have p4 := i_get (fOk_hd (fOk_tl (fOk_tl (fOk_tl hp))))
  have p5 := gg_get (fOk_hd (fOk_tl (fOk_tl (fOk_tl (fOk_tl hp)))))
  have p6 := gg_get (fOk_hd (fOk_tl (fOk_tl (fOk_tl (fOk_tl (fOk_tl hp))))))
  simp only [List.map, xv, fev, fvl, gtI, Int.one_mul, Int.add_zero, Int.zero_add] at p1 p2 p3 p4 p5 p6
  have q := k_kwm_s2 (z := z) (s := s) (e := e) (i := i) (k := k) (a := a) (c := c) p1 p2 p3 p4 p5 p6
  refine ⟨[], rfl, fOk_cons (p_put3 rfl (by decide) ?_) fOk_nil⟩ <;> simp only [List.map, xv, fev, fvl, gtI, Int.one_mul, Int.add_zero, Int.zero_add, List.append_nil]
  exact q
def r_kwm_nl0 : eRul := (8, [xP 42 [xv 0, xv 1, xv 2, xv 3, xv 4, xv 5, ([], 0)], xP 60 [([], 0), xv 3, xv 6], (.inl [[(-65536, 31)]], [xv 6]), xG (([(3, 1)], -125)), xG (([(3, -1)], 0))], 0, [xP 42 [xv 0, xv 1, xv 2, ([(3, 1)], 1), xv 4, xv 7, ([], 0)]])
theorem r_kwm_nl0_ok : ruOk r_kwm_nl0 := by
  intro ρ hl0 hp
  obtain ⟨z, t0, rfl, hl1⟩ := len_inv hl0
  obtain ⟨s, t1, rfl, hl2⟩ := len_inv hl1
  obtain ⟨e, t2, rfl, hl3⟩ := len_inv hl2
  obtain ⟨i, t3, rfl, hl4⟩ := len_inv hl3
  obtain ⟨k, t4, rfl, hl5⟩ := len_inv hl4
  obtain ⟨a, t5, rfl, hl6⟩ := len_inv hl5
  obtain ⟨c, t6, rfl, hl7⟩ := len_inv hl6
  obtain ⟨y, t7, rfl, hl8⟩ := len_inv hl7
  have hl := List.eq_nil_of_length_eq_zero hl8
  subst hl
  have p1 := p_get3 (by decide) (fOk_hd hp)
  have p2 := p_get3 (by decide) (fOk_hd (fOk_tl hp))
  have p3 := i_get (fOk_hd (fOk_tl (fOk_tl hp)))
  have p4 := gg_get (fOk_hd (fOk_tl (fOk_tl (fOk_tl hp))))
  have p5 := gg_get (fOk_hd (fOk_tl (fOk_tl (fOk_tl (fOk_tl hp)))))
  simp only [List.map, xv, fev, fvl, gtI, Int.one_mul, Int.add_zero, Int.zero_add] at p1 p2 p3 p4 p5
  have q := k_kwm_nl0 (z := z) (s := s) (e := e) (i := i) (k := k) (a := a) (c := c) (y := y) p1 p2 p3 p4 p5
  refine ⟨[], rfl, fOk_cons (p_put3 rfl (by decide) ?_) fOk_nil⟩ <;> simp only [List.map, xv, fev, fvl, gtI, Int.one_mul, Int.add_zero, Int.zero_add, List.append_nil]
  exact q
def r_kwm_nl1 : eRul := (8, [xP 42 [xv 0, xv 1, xv 2, xv 3, xv 4, xv 5, ([], 1)], xP 60 [([], 0), xv 3, xv 6], (.inl [[(-65536, 31)]], [xv 6]), xG (([(3, 1)], -125)), xG (([(3, -1)], 0)), xG (([(2, 1), (5, -1)], 0))], 0, [xP 42 [xv 0, xv 1, xv 2, ([(3, 1)], 1), xv 4, xv 7, ([], 0)]])
theorem r_kwm_nl1_ok : ruOk r_kwm_nl1 := by
  intro ρ hl0 hp
  obtain ⟨z, t0, rfl, hl1⟩ := len_inv hl0
  obtain ⟨s, t1, rfl, hl2⟩ := len_inv hl1
  obtain ⟨e, t2, rfl, hl3⟩ := len_inv hl2
  obtain ⟨i, t3, rfl, hl4⟩ := len_inv hl3
  obtain ⟨k, t4, rfl, hl5⟩ := len_inv hl4
  obtain ⟨a, t5, rfl, hl6⟩ := len_inv hl5
  obtain ⟨c, t6, rfl, hl7⟩ := len_inv hl6
  obtain ⟨y, t7, rfl, hl8⟩ := len_inv hl7
  have hl := List.eq_nil_of_length_eq_zero hl8
  subst hl
  have p1 := p_get3 (by decide) (fOk_hd hp)
  have p2 := p_get3 (by decide) (fOk_hd (fOk_tl hp))
  have p3 := i_get (fOk_hd (fOk_tl (fOk_tl hp)))
  have p4 := gg_get (fOk_hd (fOk_tl (fOk_tl (fOk_tl hp))))
  have p5 := gg_get (fOk_hd (fOk_tl (fOk_tl (fOk_tl (fOk_tl hp)))))
  have p6 := gg_get (fOk_hd (fOk_tl (fOk_tl (fOk_tl (fOk_tl (fOk_tl hp))))))
  simp only [List.map, xv, fev, fvl, gtI, Int.one_mul, Int.add_zero, Int.zero_add] at p1 p2 p3 p4 p5 p6
  have q := k_kwm_nl1 (z := z) (s := s) (e := e) (i := i) (k := k) (a := a) (c := c) (y := y) p1 p2 p3 p4 p5 p6
  refine ⟨[], rfl, fOk_cons (p_put3 rfl (by decide) ?_) fOk_nil⟩ <;> simp only [List.map, xv, fev, fvl, gtI, Int.one_mul, Int.add_zero, Int.zero_add, List.append_nil]
  exact q
def r_kwm_nl2 : eRul := (9, [xP 42 [xv 0, xv 1, xv 2, xv 3, xv 4, xv 5, ([], 1)], xP 60 [([], 0), xv 3, xv 6], (.inl [[(-65536, 31)]], [xv 6]), xG (([(3, 1)], -125)), xG (([(3, -1)], 0)), xP 1 [xv 7, xv 0, xv 5], (.inl [[(-4294967296, -1)]], [([(6, -1), (7, 1)], 0)])], 0, [xP 42 [xv 0, xv 1, xv 2, ([(3, 1)], 1), xv 4, xv 8, ([], 0)]])
theorem r_kwm_nl2_ok : ruOk r_kwm_nl2 := by
  intro ρ hl0 hp
  obtain ⟨z, t0, rfl, hl1⟩ := len_inv hl0
  obtain ⟨s, t1, rfl, hl2⟩ := len_inv hl1
  obtain ⟨e, t2, rfl, hl3⟩ := len_inv hl2
  obtain ⟨i, t3, rfl, hl4⟩ := len_inv hl3
  obtain ⟨k, t4, rfl, hl5⟩ := len_inv hl4
  obtain ⟨a, t5, rfl, hl6⟩ := len_inv hl5
  obtain ⟨c, t6, rfl, hl7⟩ := len_inv hl6
  obtain ⟨b, t7, rfl, hl8⟩ := len_inv hl7
  obtain ⟨y, t8, rfl, hl9⟩ := len_inv hl8
  have hl := List.eq_nil_of_length_eq_zero hl9
  subst hl
  have p1 := p_get3 (by decide) (fOk_hd hp)
  have p2 := p_get3 (by decide) (fOk_hd (fOk_tl hp))
  have p3 := i_get (fOk_hd (fOk_tl (fOk_tl hp)))
  have p4 := gg_get (fOk_hd (fOk_tl (fOk_tl (fOk_tl hp))))
  have p5 := gg_get (fOk_hd (fOk_tl (fOk_tl (fOk_tl (fOk_tl hp)))))
  have p6 := p_get (fOk_hd (fOk_tl (fOk_tl (fOk_tl (fOk_tl (fOk_tl hp))))))
  have p7 := i_get (fOk_hd (fOk_tl (fOk_tl (fOk_tl (fOk_tl (fOk_tl (fOk_tl hp)))))))
  simp only [List.map, xv, fev, fvl, gtI, Int.one_mul, Int.add_zero, Int.zero_add, PR] at p1 p2 p3 p4 p5 p6 p7
  have q := k_kwm_nl2 (z := z) (s := s) (e := e) (i := i) (k := k) (a := a) (c := c) (b := b) (y := y) p1 p2 p3 p4 p5 p6 p7
  refine ⟨[], rfl, fOk_cons (p_put3 rfl (by decide) ?_) fOk_nil⟩ <;> simp only [List.map, xv, fev, fvl, gtI, Int.one_mul, Int.add_zero, Int.zero_add, List.append_nil]
  exact q
def r_kwm_nl3 : eRul := (9, [xP 42 [xv 0, xv 1, xv 2, xv 3, xv 4, xv 5, ([], 1)], xP 60 [([], 0), xv 3, xv 6], (.inl [[(-65536, 31)]], [xv 6]), xG (([(3, 1)], -125)), xG (([(3, -1)], 0)), xP 1 [xv 7, xv 0, xv 5], (.inl [[(-4294967296, -1)]], [([(6, 1), (7, -1)], 0)])], 0, [xP 42 [xv 0, xv 1, xv 2, ([(3, 1)], 1), xv 4, xv 8, ([], 0)]])
theorem r_kwm_nl3_ok : ruOk r_kwm_nl3 := by
  intro ρ hl0 hp
  obtain ⟨z, t0, rfl, hl1⟩ := len_inv hl0
  obtain ⟨s, t1, rfl, hl2⟩ := len_inv hl1
  obtain ⟨e, t2, rfl, hl3⟩ := len_inv hl2
  obtain ⟨i, t3, rfl, hl4⟩ := len_inv hl3
  obtain ⟨k, t4, rfl, hl5⟩ := len_inv hl4
  obtain ⟨a, t5, rfl, hl6⟩ := len_inv hl5
  obtain ⟨c, t6, rfl, hl7⟩ := len_inv hl6
  obtain ⟨b, t7, rfl, hl8⟩ := len_inv hl7
  obtain ⟨y, t8, rfl, hl9⟩ := len_inv hl8
  have hl := List.eq_nil_of_length_eq_zero hl9
  subst hl
  have p1 := p_get3 (by decide) (fOk_hd hp)
  have p2 := p_get3 (by decide) (fOk_hd (fOk_tl hp))
  have p3 := i_get (fOk_hd (fOk_tl (fOk_tl hp)))
  have p4 := gg_get (fOk_hd (fOk_tl (fOk_tl (fOk_tl hp))))
  have p5 := gg_get (fOk_hd (fOk_tl (fOk_tl (fOk_tl (fOk_tl hp)))))
  have p6 := p_get (fOk_hd (fOk_tl (fOk_tl (fOk_tl (fOk_tl (fOk_tl hp))))))
  have p7 := i_get (fOk_hd (fOk_tl (fOk_tl (fOk_tl (fOk_tl (fOk_tl (fOk_tl hp)))))))
  simp only [List.map, xv, fev, fvl, gtI, Int.one_mul, Int.add_zero, Int.zero_add, PR] at p1 p2 p3 p4 p5 p6 p7
  have q := k_kwm_nl3 (z := z) (s := s) (e := e) (i := i) (k := k) (a := a) (c := c) (b := b) (y := y) p1 p2 p3 p4 p5 p6 p7
  refine ⟨[], rfl, fOk_cons (p_put3 rfl (by decide) ?_) fOk_nil⟩ <;> simp only [List.map, xv, fev, fvl, gtI, Int.one_mul, Int.add_zero, Int.zero_add, List.append_nil]
  exact q
def r_kwm_nl4 : eRul := (8, [xP 42 [xv 0, xv 1, xv 2, xv 3, xv 4, xv 5, ([], 1)], xP 60 [([], 0), xv 3, xv 6], (.inl [[(-65536, 31)]], [xv 6]), xG (([(3, 1)], -125)), xG (([(3, -1)], 0)), xP 1 [xv 7, xv 0, xv 5], xG (([(6, -1), (7, 1)], 0)), xG (([(6, 1), (7, -1)], 0)), xG (([(2, -1), (5, 1)], 1))], 0, [xP 42 [xv 0, xv 1, xv 2, ([(3, 1)], 1), xv 4, ([(5, 1)], 1), ([], 1)]])
theorem r_kwm_nl4_ok : ruOk r_kwm_nl4 := by
  intro ρ hl0 hp
  obtain ⟨z, t0, rfl, hl1⟩ := len_inv hl0
  obtain ⟨s, t1, rfl, hl2⟩ := len_inv hl1
  obtain ⟨e, t2, rfl, hl3⟩ := len_inv hl2
  obtain ⟨i, t3, rfl, hl4⟩ := len_inv hl3
  obtain ⟨k, t4, rfl, hl5⟩ := len_inv hl4
  obtain ⟨a, t5, rfl, hl6⟩ := len_inv hl5
  obtain ⟨c, t6, rfl, hl7⟩ := len_inv hl6
  obtain ⟨b, t7, rfl, hl8⟩ := len_inv hl7
  have hl := List.eq_nil_of_length_eq_zero hl8
  subst hl
  have p1 := p_get3 (by decide) (fOk_hd hp)
  have p2 := p_get3 (by decide) (fOk_hd (fOk_tl hp))
  have p3 := i_get (fOk_hd (fOk_tl (fOk_tl hp)))
  have p4 := gg_get (fOk_hd (fOk_tl (fOk_tl (fOk_tl hp))))
  have p5 := gg_get (fOk_hd (fOk_tl (fOk_tl (fOk_tl (fOk_tl hp)))))
  have p6 := p_get (fOk_hd (fOk_tl (fOk_tl (fOk_tl (fOk_tl (fOk_tl hp))))))
  have p7 := gg_get (fOk_hd (fOk_tl (fOk_tl (fOk_tl (fOk_tl (fOk_tl (fOk_tl hp)))))))
  have p8 := gg_get (fOk_hd (fOk_tl (fOk_tl (fOk_tl (fOk_tl (fOk_tl (fOk_tl (fOk_tl hp))))))))
  have p9 := gg_get (fOk_hd (fOk_tl (fOk_tl (fOk_tl (fOk_tl (fOk_tl (fOk_tl (fOk_tl (fOk_tl hp)))))))))
  simp only [List.map, xv, fev, fvl, gtI, Int.one_mul, Int.add_zero, Int.zero_add, PR] at p1 p2 p3 p4 p5 p6 p7 p8 p9
  have q := k_kwm_nl4 (z := z) (s := s) (e := e) (i := i) (k := k) (a := a) (c := c) (b := b) p1 p2 p3 p4 p5 p6 p7 p8 p9
  refine ⟨[], rfl, fOk_cons (p_put3 rfl (by decide) ?_) fOk_nil⟩ <;> simp only [List.map, xv, fev, fvl, gtI, Int.one_mul, Int.add_zero, Int.zero_add, List.append_nil]
  exact q
def r_kwm_ng0 : eRul := (8, [xP 42 [xv 0, xv 1, xv 2, xv 3, xv 4, xv 5, ([], 0)], xP 60 [([], 0), xv 3, xv 6], (.inl [[(33, 65536)]], [xv 6]), xG (([(3, 1)], -125)), xG (([(3, -1)], 0))], 0, [xP 42 [xv 0, xv 1, xv 2, ([(3, 1)], 1), xv 4, xv 7, ([], 0)]])
theorem r_kwm_ng0_ok : ruOk r_kwm_ng0 := by
  intro ρ hl0 hp
  obtain ⟨z, t0, rfl, hl1⟩ := len_inv hl0
  obtain ⟨s, t1, rfl, hl2⟩ := len_inv hl1
  obtain ⟨e, t2, rfl, hl3⟩ := len_inv hl2
  obtain ⟨i, t3, rfl, hl4⟩ := len_inv hl3
  obtain ⟨k, t4, rfl, hl5⟩ := len_inv hl4
  obtain ⟨a, t5, rfl, hl6⟩ := len_inv hl5
  obtain ⟨c, t6, rfl, hl7⟩ := len_inv hl6
  obtain ⟨y, t7, rfl, hl8⟩ := len_inv hl7
  have hl := List.eq_nil_of_length_eq_zero hl8
  subst hl
  have p1 := p_get3 (by decide) (fOk_hd hp)
  have p2 := p_get3 (by decide) (fOk_hd (fOk_tl hp))
  have p3 := i_get (fOk_hd (fOk_tl (fOk_tl hp)))
  have p4 := gg_get (fOk_hd (fOk_tl (fOk_tl (fOk_tl hp))))
  have p5 := gg_get (fOk_hd (fOk_tl (fOk_tl (fOk_tl (fOk_tl hp)))))
  simp only [List.map, xv, fev, fvl, gtI, Int.one_mul, Int.add_zero, Int.zero_add] at p1 p2 p3 p4 p5
  have q := k_kwm_ng0 (z := z) (s := s) (e := e) (i := i) (k := k) (a := a) (c := c) (y := y) p1 p2 p3 p4 p5
  refine ⟨[], rfl, fOk_cons (p_put3 rfl (by decide) ?_) fOk_nil⟩ <;> simp only [List.map, xv, fev, fvl, gtI, Int.one_mul, Int.add_zero, Int.zero_add, List.append_nil]
  exact q
def r_kwm_ng1 : eRul := (8, [xP 42 [xv 0, xv 1, xv 2, xv 3, xv 4, xv 5, ([], 1)], xP 60 [([], 0), xv 3, xv 6], (.inl [[(33, 65536)]], [xv 6]), xG (([(3, 1)], -125)), xG (([(3, -1)], 0)), xG (([(2, 1), (5, -1)], 0))], 0, [xP 42 [xv 0, xv 1, xv 2, ([(3, 1)], 1), xv 4, xv 7, ([], 0)]])
theorem r_kwm_ng1_ok : ruOk r_kwm_ng1 := by
  intro ρ hl0 hp
  obtain ⟨z, t0, rfl, hl1⟩ := len_inv hl0
  obtain ⟨s, t1, rfl, hl2⟩ := len_inv hl1
  obtain ⟨e, t2, rfl, hl3⟩ := len_inv hl2
  obtain ⟨i, t3, rfl, hl4⟩ := len_inv hl3
  obtain ⟨k, t4, rfl, hl5⟩ := len_inv hl4
  obtain ⟨a, t5, rfl, hl6⟩ := len_inv hl5
  obtain ⟨c, t6, rfl, hl7⟩ := len_inv hl6
  obtain ⟨y, t7, rfl, hl8⟩ := len_inv hl7
  have hl := List.eq_nil_of_length_eq_zero hl8
  subst hl
  have p1 := p_get3 (by decide) (fOk_hd hp)
  have p2 := p_get3 (by decide) (fOk_hd (fOk_tl hp))
  have p3 := i_get (fOk_hd (fOk_tl (fOk_tl hp)))
  have p4 := gg_get (fOk_hd (fOk_tl (fOk_tl (fOk_tl hp))))
  have p5 := gg_get (fOk_hd (fOk_tl (fOk_tl (fOk_tl (fOk_tl hp)))))
  have p6 := gg_get (fOk_hd (fOk_tl (fOk_tl (fOk_tl (fOk_tl (fOk_tl hp))))))
  simp only [List.map, xv, fev, fvl, gtI, Int.one_mul, Int.add_zero, Int.zero_add] at p1 p2 p3 p4 p5 p6
  have q := k_kwm_ng1 (z := z) (s := s) (e := e) (i := i) (k := k) (a := a) (c := c) (y := y) p1 p2 p3 p4 p5 p6
  refine ⟨[], rfl, fOk_cons (p_put3 rfl (by decide) ?_) fOk_nil⟩ <;> simp only [List.map, xv, fev, fvl, gtI, Int.one_mul, Int.add_zero, Int.zero_add, List.append_nil]
  exact q
def r_kwm_ng2 : eRul := (9, [xP 42 [xv 0, xv 1, xv 2, xv 3, xv 4, xv 5, ([], 1)], xP 60 [([], 0), xv 3, xv 6], (.inl [[(33, 65536)]], [xv 6]), xG (([(3, 1)], -125)), xG (([(3, -1)], 0)), xP 1 [xv 7, xv 0, xv 5], (.inl [[(-4294967296, -1)]], [([(6, -1), (7, 1)], 0)])], 0, [xP 42 [xv 0, xv 1, xv 2, ([(3, 1)], 1), xv 4, xv 8, ([], 0)]])
theorem r_kwm_ng2_ok : ruOk r_kwm_ng2 := by
  intro ρ hl0 hp
  obtain ⟨z, t0, rfl, hl1⟩ := len_inv hl0
  obtain ⟨s, t1, rfl, hl2⟩ := len_inv hl1
  obtain ⟨e, t2, rfl, hl3⟩ := len_inv hl2
  obtain ⟨i, t3, rfl, hl4⟩ := len_inv hl3
  obtain ⟨k, t4, rfl, hl5⟩ := len_inv hl4
  obtain ⟨a, t5, rfl, hl6⟩ := len_inv hl5
  obtain ⟨c, t6, rfl, hl7⟩ := len_inv hl6
  obtain ⟨b, t7, rfl, hl8⟩ := len_inv hl7
  obtain ⟨y, t8, rfl, hl9⟩ := len_inv hl8
  have hl := List.eq_nil_of_length_eq_zero hl9
  subst hl
  have p1 := p_get3 (by decide) (fOk_hd hp)
  have p2 := p_get3 (by decide) (fOk_hd (fOk_tl hp))
  have p3 := i_get (fOk_hd (fOk_tl (fOk_tl hp)))
  have p4 := gg_get (fOk_hd (fOk_tl (fOk_tl (fOk_tl hp))))
  have p5 := gg_get (fOk_hd (fOk_tl (fOk_tl (fOk_tl (fOk_tl hp)))))
  have p6 := p_get (fOk_hd (fOk_tl (fOk_tl (fOk_tl (fOk_tl (fOk_tl hp))))))
  have p7 := i_get (fOk_hd (fOk_tl (fOk_tl (fOk_tl (fOk_tl (fOk_tl (fOk_tl hp)))))))
  simp only [List.map, xv, fev, fvl, gtI, Int.one_mul, Int.add_zero, Int.zero_add, PR] at p1 p2 p3 p4 p5 p6 p7
  have q := k_kwm_ng2 (z := z) (s := s) (e := e) (i := i) (k := k) (a := a) (c := c) (b := b) (y := y) p1 p2 p3 p4 p5 p6 p7
  refine ⟨[], rfl, fOk_cons (p_put3 rfl (by decide) ?_) fOk_nil⟩ <;> simp only [List.map, xv, fev, fvl, gtI, Int.one_mul, Int.add_zero, Int.zero_add, List.append_nil]
  exact q
def r_kwm_ng3 : eRul := (9, [xP 42 [xv 0, xv 1, xv 2, xv 3, xv 4, xv 5, ([], 1)], xP 60 [([], 0), xv 3, xv 6], (.inl [[(33, 65536)]], [xv 6]), xG (([(3, 1)], -125)), xG (([(3, -1)], 0)), xP 1 [xv 7, xv 0, xv 5], (.inl [[(-4294967296, -1)]], [([(6, 1), (7, -1)], 0)])], 0, [xP 42 [xv 0, xv 1, xv 2, ([(3, 1)], 1), xv 4, xv 8, ([], 0)]])
theorem r_kwm_ng3_ok : ruOk r_kwm_ng3 := by
  intro ρ hl0 hp
  obtain ⟨z, t0, rfl, hl1⟩ := len_inv hl0
  obtain ⟨s, t1, rfl, hl2⟩ := len_inv hl1
  obtain ⟨e, t2, rfl, hl3⟩ := len_inv hl2
  obtain ⟨i, t3, rfl, hl4⟩ := len_inv hl3
  obtain ⟨k, t4, rfl, hl5⟩ := len_inv hl4
  obtain ⟨a, t5, rfl, hl6⟩ := len_inv hl5
  obtain ⟨c, t6, rfl, hl7⟩ := len_inv hl6
  obtain ⟨b, t7, rfl, hl8⟩ := len_inv hl7
  obtain ⟨y, t8, rfl, hl9⟩ := len_inv hl8
  have hl := List.eq_nil_of_length_eq_zero hl9
  subst hl
  have p1 := p_get3 (by decide) (fOk_hd hp)
  have p2 := p_get3 (by decide) (fOk_hd (fOk_tl hp))
  have p3 := i_get (fOk_hd (fOk_tl (fOk_tl hp)))
  have p4 := gg_get (fOk_hd (fOk_tl (fOk_tl (fOk_tl hp))))
  have p5 := gg_get (fOk_hd (fOk_tl (fOk_tl (fOk_tl (fOk_tl hp)))))
  have p6 := p_get (fOk_hd (fOk_tl (fOk_tl (fOk_tl (fOk_tl (fOk_tl hp))))))
  have p7 := i_get (fOk_hd (fOk_tl (fOk_tl (fOk_tl (fOk_tl (fOk_tl (fOk_tl hp)))))))
  simp only [List.map, xv, fev, fvl, gtI, Int.one_mul, Int.add_zero, Int.zero_add, PR] at p1 p2 p3 p4 p5 p6 p7
  have q := k_kwm_ng3 (z := z) (s := s) (e := e) (i := i) (k := k) (a := a) (c := c) (b := b) (y := y) p1 p2 p3 p4 p5 p6 p7
  refine ⟨[], rfl, fOk_cons (p_put3 rfl (by decide) ?_) fOk_nil⟩ <;> simp only [List.map, xv, fev, fvl, gtI, Int.one_mul, Int.add_zero, Int.zero_add, List.append_nil]
  exact q
def r_kwm_ng4 : eRul := (8, [xP 42 [xv 0, xv 1, xv 2, xv 3, xv 4, xv 5, ([], 1)], xP 60 [([], 0), xv 3, xv 6], (.inl [[(33, 65536)]], [xv 6]), xG (([(3, 1)], -125)), xG (([(3, -1)], 0)), xP 1 [xv 7, xv 0, xv 5], xG (([(6, -1), (7, 1)], 0)), xG (([(6, 1), (7, -1)], 0)), xG (([(2, -1), (5, 1)], 1))], 0, [xP 42 [xv 0, xv 1, xv 2, ([(3, 1)], 1), xv 4, ([(5, 1)], 1), ([], 1)]])
theorem r_kwm_ng4_ok : ruOk r_kwm_ng4 := by
  intro ρ hl0 hp
  obtain ⟨z, t0, rfl, hl1⟩ := len_inv hl0
  obtain ⟨s, t1, rfl, hl2⟩ := len_inv hl1
  obtain ⟨e, t2, rfl, hl3⟩ := len_inv hl2
  obtain ⟨i, t3, rfl, hl4⟩ := len_inv hl3
  obtain ⟨k, t4, rfl, hl5⟩ := len_inv hl4
  obtain ⟨a, t5, rfl, hl6⟩ := len_inv hl5
  obtain ⟨c, t6, rfl, hl7⟩ := len_inv hl6
  obtain ⟨b, t7, rfl, hl8⟩ := len_inv hl7
  have hl := List.eq_nil_of_length_eq_zero hl8
  subst hl
  have p1 := p_get3 (by decide) (fOk_hd hp)
  have p2 := p_get3 (by decide) (fOk_hd (fOk_tl hp))
  have p3 := i_get (fOk_hd (fOk_tl (fOk_tl hp)))
  have p4 := gg_get (fOk_hd (fOk_tl (fOk_tl (fOk_tl hp))))
  have p5 := gg_get (fOk_hd (fOk_tl (fOk_tl (fOk_tl (fOk_tl hp)))))
  have p6 := p_get (fOk_hd (fOk_tl (fOk_tl (fOk_tl (fOk_tl (fOk_tl hp))))))
  have p7 := gg_get (fOk_hd (fOk_tl (fOk_tl (fOk_tl (fOk_tl (fOk_tl (fOk_tl hp)))))))
  have p8 := gg_get (fOk_hd (fOk_tl (fOk_tl (fOk_tl (fOk_tl (fOk_tl (fOk_tl (fOk_tl hp))))))))
  have p9 := gg_get (fOk_hd (fOk_tl (fOk_tl (fOk_tl (fOk_tl (fOk_tl (fOk_tl (fOk_tl (fOk_tl hp)))))))))
  simp only [List.map, xv, fev, fvl, gtI, Int.one_mul, Int.add_zero, Int.zero_add, PR] at p1 p2 p3 p4 p5 p6 p7 p8 p9
  have q := k_kwm_ng4 (z := z) (s := s) (e := e) (i := i) (k := k) (a := a) (c := c) (b := b) p1 p2 p3 p4 p5 p6 p7 p8 p9
  refine ⟨[], rfl, fOk_cons (p_put3 rfl (by decide) ?_) fOk_nil⟩ <;> simp only [List.map, xv, fev, fvl, gtI, Int.one_mul, Int.add_zero, Int.zero_add, List.append_nil]
  exact q
def r_kwm_end : eRul := (8, [xP 42 [xv 0, xv 1, xv 2, xv 3, xv 4, xv 5, xv 6], xG (([(3, -1)], 126)), (.inl [[(-1, -1)]], [xv 7])], 0, [xP 43 [xv 0, xv 1, xv 2, xv 7]])
theorem r_kwm_end_ok : ruOk r_kwm_end := by
  intro ρ hl0 hp
  obtain ⟨z, t0, rfl, hl1⟩ := len_inv hl0
  obtain ⟨s, t1, rfl, hl2⟩ := len_inv hl1
  obtain ⟨e, t2, rfl, hl3⟩ := len_inv hl2
  obtain ⟨i, t3, rfl, hl4⟩ := len_inv hl3
  obtain ⟨k, t4, rfl, hl5⟩ := len_inv hl4
  obtain ⟨a, t5, rfl, hl6⟩ := len_inv hl5
  obtain ⟨b, t6, rfl, hl7⟩ := len_inv hl6
  obtain ⟨r, t7, rfl, hl8⟩ := len_inv hl7
  have hl := List.eq_nil_of_length_eq_zero hl8
  subst hl
  have p1 := p_get3 (by decide) (fOk_hd hp)
  have p2 := gg_get (fOk_hd (fOk_tl hp))
  have p3 := i_get (fOk_hd (fOk_tl (fOk_tl hp)))
  simp only [List.map, xv, fev, fvl, gtI, Int.one_mul, Int.add_zero, Int.zero_add] at p1 p2 p3
  have q := k_kwm_end (z := z) (s := s) (e := e) (i := i) (k := k) (a := a) (b := b) (r := r) p1 p2 p3
  refine ⟨[], rfl, fOk_cons (p_put3 rfl (by decide) ?_) fOk_nil⟩ <;> simp only [List.map, xv, fev, fvl, gtI, Int.one_mul, Int.add_zero, Int.zero_add, List.append_nil]
  exact q
def r_kwm_use : eRul := (7, [xP 42 [xv 0, xv 1, xv 2, xv 3, xv 4, xv 5, xv 6], xG (([(3, -1)], 0)), xG (([(3, 1)], -126)), (.inl [[(-2147483648, 2147483647)]], [xv 4])], 0, [(.inl [[(0, 24)]], [xv 4])])
theorem r_kwm_use_ok : ruOk r_kwm_use := by
  intro ρ hl0 hp
  obtain ⟨z, t0, rfl, hl1⟩ := len_inv hl0
  obtain ⟨s, t1, rfl, hl2⟩ := len_inv hl1
  obtain ⟨e, t2, rfl, hl3⟩ := len_inv hl2
  obtain ⟨i, t3, rfl, hl4⟩ := len_inv hl3
  obtain ⟨k, t4, rfl, hl5⟩ := len_inv hl4
  obtain ⟨a, t5, rfl, hl6⟩ := len_inv hl5
  obtain ⟨b, t6, rfl, hl7⟩ := len_inv hl6
  have hl := List.eq_nil_of_length_eq_zero hl7
  subst hl
  have p1 := p_get3 (by decide) (fOk_hd hp)
  have p2 := gg_get (fOk_hd (fOk_tl hp))
  have p3 := gg_get (fOk_hd (fOk_tl (fOk_tl hp)))
  have p4 := i_get (fOk_hd (fOk_tl (fOk_tl (fOk_tl hp))))
  simp only [List.map, xv, fev, fvl, gtI, Int.one_mul, Int.add_zero, Int.zero_add] at p1 p2 p3 p4
  have q := k_kwm_use (z := z) (s := s) (e := e) (i := i) (k := k) (a := a) (b := b) p1 p2 p3 p4
  refine ⟨[], rfl, fOk_cons (i_put rfl ?_ ?_) fOk_nil⟩ <;> simp only [List.map, xv, fev, fvl, gtI, Int.one_mul, Int.add_zero, Int.zero_add, List.append_nil]
  · exact q.1
  · exact q.2
def r_kwm_use2 : eRul := (7, [xP 42 [xv 0, xv 1, xv 2, xv 3, xv 4, xv 5, xv 6], xG (([(3, -1)], 0)), xG (([(3, 1)], -125)), (.inl [[(-2147483648, 2147483647)]], [xv 4])], 0, [(.inl [[(0, 23)]], [xv 4])])
theorem r_kwm_use2_ok : ruOk r_kwm_use2 := by
  intro ρ hl0 hp
  obtain ⟨z, t0, rfl, hl1⟩ := len_inv hl0
  obtain ⟨s, t1, rfl, hl2⟩ := len_inv hl1
  obtain ⟨e, t2, rfl, hl3⟩ := len_inv hl2
  obtain ⟨i, t3, rfl, hl4⟩ := len_inv hl3
  obtain ⟨k, t4, rfl, hl5⟩ := len_inv hl4
  obtain ⟨a, t5, rfl, hl6⟩ := len_inv hl5
  obtain ⟨b, t6, rfl, hl7⟩ := len_inv hl6
  have hl := List.eq_nil_of_length_eq_zero hl7
  subst hl
  have p1 := p_get3 (by decide) (fOk_hd hp)
  have p2 := gg_get (fOk_hd (fOk_tl hp))
  have p3 := gg_get (fOk_hd (fOk_tl (fOk_tl hp)))
  have p4 := i_get (fOk_hd (fOk_tl (fOk_tl (fOk_tl hp))))
  simp only [List.map, xv, fev, fvl, gtI, Int.one_mul, Int.add_zero, Int.zero_add] at p1 p2 p3 p4
  have q := k_kwm_use2 (z := z) (s := s) (e := e) (i := i) (k := k) (a := a) (b := b) p1 p2 p3 p4
  refine ⟨[], rfl, fOk_cons (i_put rfl ?_ ?_) fOk_nil⟩ <;> simp only [List.map, xv, fev, fvl, gtI, Int.one_mul, Int.add_zero, Int.zero_add, List.append_nil]
  · exact q.1
  · exact q.2
def r_tc_0 : eRul := (9, [xP 35 [xv 0, xv 1, xv 2, xv 3], xG (([(3, -1), (4, 1)], 0)), xG (([(1, -1), (4, 1)], 1)), (.inl [[(0, 0)]], [xv 5]), (.inl [[(-1, -1)]], [xv 6]), xG (([(2, -1)], 0))], 0, [xP 53 [xv 0, xv 1, xv 4, xv 2, xv 5, xv 4, xv 3, xv 6, xv 7, xv 8]])
theorem r_tc_0_ok : ruOk r_tc_0 := by
  intro ρ hl0 hp
  obtain ⟨z, t0, rfl, hl1⟩ := len_inv hl0
  obtain ⟨n, t1, rfl, hl2⟩ := len_inv hl1
  obtain ⟨p, t2, rfl, hl3⟩ := len_inv hl2
  obtain ⟨s, t3, rfl, hl4⟩ := len_inv hl3
  obtain ⟨M, t4, rfl, hl5⟩ := len_inv hl4
  obtain ⟨kind, t5, rfl, hl6⟩ := len_inv hl5
  obtain ⟨kw, t6, rfl, hl7⟩ := len_inv hl6
  obtain ⟨v, t7, rfl, hl8⟩ := len_inv hl7
  obtain ⟨w, t8, rfl, hl9⟩ := len_inv hl8
  have hl := List.eq_nil_of_length_eq_zero hl9
  subst hl
  have p1 := p_get3 (by decide) (fOk_hd hp)
  have p2 := gg_get (fOk_hd (fOk_tl hp))
  have p3 := gg_get (fOk_hd (fOk_tl (fOk_tl hp)))
  have p4 := i_get (fOk_hd (fOk_tl (fOk_tl (fOk_tl hp))))
  have p5 := i_get (fOk_hd (fOk_tl (fOk_tl (fOk_tl (fOk_tl hp)))))
  have p6 := gg_get (fOk_hd (fOk_tl (fOk_tl (fOk_tl (fOk_tl (fOk_tl hp))))))
  simp only [List.map, xv, fev, fvl, gtI, Int.one_mul, Int.add_zero, Int.zero_add] at p1 p2 p3 p4 p5 p6
  have q := k_tc_0 (z := z) (n := n) (p := p) (s := s) (M := M) (kind := kind) (kw := kw) (v := v) (w := w) p1 p2 p3 p4 p5 p6
  refine ⟨[], rfl, fOk_cons (p_put3 rfl (by decide) ?_) fOk_nil⟩ <;> simp only [List.map, xv, fev, fvl, gtI, Int.one_mul, Int.add_zero, Int.zero_add, List.append_nil]
  exact q
def r_tc_1 : eRul := (10, [xP 35 [xv 0, xv 1, xv 2, xv 3], xP 41 [xv 1, xv 4, xv 3], xG (([(1, 1), (3, -1)], 0)), (.inl [[(1, 1)]], [xv 5]), (.inl [[(-1, -1)]], [xv 6])], 0, [xP 53 [xv 0, xv 1, xv 4, xv 2, xv 5, xv 3, xv 7, xv 6, xv 8, xv 9]])
theorem r_tc_1_ok : ruOk r_tc_1 := by
  intro ρ hl0 hp
  obtain ⟨z, t0, rfl, hl1⟩ := len_inv hl0
  obtain ⟨n, t1, rfl, hl2⟩ := len_inv hl1
  obtain ⟨p, t2, rfl, hl3⟩ := len_inv hl2
  obtain ⟨s, t3, rfl, hl4⟩ := len_inv hl3
  obtain ⟨M, t4, rfl, hl5⟩ := len_inv hl4
  obtain ⟨kind, t5, rfl, hl6⟩ := len_inv hl5
  obtain ⟨kw, t6, rfl, hl7⟩ := len_inv hl6
  obtain ⟨f, t7, rfl, hl8⟩ := len_inv hl7
  obtain ⟨v, t8, rfl, hl9⟩ := len_inv hl8
  obtain ⟨w, t9, rfl, hl10⟩ := len_inv hl9
  have hl := List.eq_nil_of_length_eq_zero hl10
  subst hl
  have p1 := p_get3 (by decide) (fOk_hd hp)
  have p2 := p_get3 (by decide) (fOk_hd (fOk_tl hp))
  have p3 := gg_get (fOk_hd (fOk_tl (fOk_tl hp)))
  have p4 := i_get (fOk_hd (fOk_tl (fOk_tl (fOk_tl hp))))
  have p5 := i_get (fOk_hd (fOk_tl (fOk_tl (fOk_tl (fOk_tl hp)))))
  simp only [List.map, xv, fev, fvl, gtI, Int.one_mul, Int.add_zero, Int.zero_add] at p1 p2 p3 p4 p5
  have q := k_tc_1 (z := z) (n := n) (p := p) (s := s) (M := M) (kind := kind) (kw := kw) (f := f) (v := v) (w := w) p1 p2 p3 p4 p5
  refine ⟨[], rfl, fOk_cons (p_put3 rfl (by decide) ?_) fOk_nil⟩ <;> simp only [List.map, xv, fev, fvl, gtI, Int.one_mul, Int.add_zero, Int.zero_add, List.append_nil]
  exact q
def r_tc_2 : eRul := (10, [xP 35 [xv 0, xv 1, xv 2, xv 3], xP 41 [xv 1, xv 4, xv 3], xG (([(1, -1), (3, 1)], 1)), xP 87 [xv 0, xv 3], xP 39 [xv 0, xv 1, xv 3, xv 5], xP 40 [xv 0, xv 3, xv 5, ([], 2)], xP 43 [xv 0, xv 3, xv 5, xv 6], xP 38 [xv 0, xv 3, xv 5, xv 7], (.inl [[(2, 2)]], [xv 8])], 0, [xP 53 [xv 0, xv 1, xv 4, xv 2, xv 8, xv 3, xv 5, xv 6, xv 9, xv 7]])
theorem r_tc_2_ok : ruOk r_tc_2 := by
  intro ρ hl0 hp
  obtain ⟨z, t0, rfl, hl1⟩ := len_inv hl0
  obtain ⟨n, t1, rfl, hl2⟩ := len_inv hl1
  obtain ⟨p, t2, rfl, hl3⟩ := len_inv hl2
  obtain ⟨s, t3, rfl, hl4⟩ := len_inv hl3
  obtain ⟨M, t4, rfl, hl5⟩ := len_inv hl4
  obtain ⟨e, t5, rfl, hl6⟩ := len_inv hl5
  obtain ⟨kw, t6, rfl, hl7⟩ := len_inv hl6
  obtain ⟨w, t7, rfl, hl8⟩ := len_inv hl7
  obtain ⟨kind, t8, rfl, hl9⟩ := len_inv hl8
  obtain ⟨v, t9, rfl, hl10⟩ := len_inv hl9
  have hl := List.eq_nil_of_length_eq_zero hl10
  subst hl
  have p1 := p_get3 (by decide) (fOk_hd hp)
  have p2 := p_get3 (by decide) (fOk_hd (fOk_tl hp))
  have p3 := gg_get (fOk_hd (fOk_tl (fOk_tl hp)))
  have p4 := p_get3 (by decide) (fOk_hd (fOk_tl (fOk_tl (fOk_tl hp))))
  have p5 := p_get3 (by decide) (fOk_hd (fOk_tl (fOk_tl (fOk_tl (fOk_tl hp)))))
  have p6 := p_get3 (by decide) (fOk_hd (fOk_tl (fOk_tl (fOk_tl (fOk_tl (fOk_tl hp))))))
  have p7 := p_get3 (by decide) (fOk_hd (fOk_tl (fOk_tl (fOk_tl (fOk_tl (fOk_tl (fOk_tl hp)))))))
  have p8 := p_get3 (by decide) (fOk_hd (fOk_tl (fOk_tl (fOk_tl (fOk_tl (fOk_tl (fOk_tl (fOk_tl hp))))))))
  have p9 := i_get (fOk_hd (fOk_tl (fOk_tl (fOk_tl (fOk_tl (fOk_tl (fOk_tl (fOk_tl (fOk_tl hp)))))))))
  simp only [List.map, xv, fev, fvl, gtI, Int.one_mul, Int.add_zero, Int.zero_add] at p1 p2 p3 p4 p5 p6 p7 p8 p9
  have q := k_tc_2 (z := z) (n := n) (p := p) (s := s) (M := M) (e := e) (kw := kw) (w := w) (kind := kind) (v := v) p1 p2 p3 p4 p5 p6 p7 p8 p9
  refine ⟨[], rfl, fOk_cons (p_put3 rfl (by decide) ?_) fOk_nil⟩ <;> simp only [List.map, xv, fev, fvl, gtI, Int.one_mul, Int.add_zero, Int.zero_add, List.append_nil]
  exact q
def r_tc_3 : eRul := (10, [xP 35 [xv 0, xv 1, xv 2, xv 3], xP 41 [xv 1, xv 4, xv 3], xG (([(1, -1), (3, 1)], 1)), xP 87 [xv 0, xv 3], xP 39 [xv 0, xv 1, xv 3, xv 5], xP 40 [xv 0, xv 3, xv 5, ([], 3)], xP 37 [xv 0, xv 3, xv 5, xv 6], (.inl [[(3, 3)]], [xv 7]), (.inl [[(-1, -1)]], [xv 8])], 0, [xP 53 [xv 0, xv 1, xv 4, xv 2, xv 7, xv 3, xv 5, xv 8, xv 6, xv 9]])
theorem r_tc_3_ok : ruOk r_tc_3 := by
  intro ρ hl0 hp
  obtain ⟨z, t0, rfl, hl1⟩ := len_inv hl0
  obtain ⟨n, t1, rfl, hl2⟩ := len_inv hl1
  obtain ⟨p, t2, rfl, hl3⟩ := len_inv hl2
  obtain ⟨s, t3, rfl, hl4⟩ := len_inv hl3
  obtain ⟨M, t4, rfl, hl5⟩ := len_inv hl4
  obtain ⟨e, t5, rfl, hl6⟩ := len_inv hl5
  obtain ⟨v, t6, rfl, hl7⟩ := len_inv hl6
  obtain ⟨kind, t7, rfl, hl8⟩ := len_inv hl7
  obtain ⟨kw, t8, rfl, hl9⟩ := len_inv hl8
  obtain ⟨w, t9, rfl, hl10⟩ := len_inv hl9
  have hl := List.eq_nil_of_length_eq_zero hl10
  subst hl
  have p1 := p_get3 (by decide) (fOk_hd hp)
  have p2 := p_get3 (by decide) (fOk_hd (fOk_tl hp))
  have p3 := gg_get (fOk_hd (fOk_tl (fOk_tl hp)))
  have p4 := p_get3 (by decide) (fOk_hd (fOk_tl (fOk_tl (fOk_tl hp))))
  have p5 := p_get3 (by decide) (fOk_hd (fOk_tl (fOk_tl (fOk_tl (fOk_tl hp)))))
  have p6 := p_get3 (by decide) (fOk_hd (fOk_tl (fOk_tl (fOk_tl (fOk_tl (fOk_tl hp))))))
  have p7 := p_get3 (by decide) (fOk_hd (fOk_tl (fOk_tl (fOk_tl (fOk_tl (fOk_tl (fOk_tl hp)))))))
  have p8 := i_get (fOk_hd (fOk_tl (fOk_tl (fOk_tl (fOk_tl (fOk_tl (fOk_tl (fOk_tl hp))))))))
  have p9 := i_get (fOk_hd (fOk_tl (fOk_tl (fOk_tl (fOk_tl (fOk_tl (fOk_tl (fOk_tl (fOk_tl hp)))))))))
  simp only [List.map, xv, fev, fvl, gtI, Int.one_mul, Int.add_zero, Int.zero_add] at p1 p2 p3 p4 p5 p6 p7 p8 p9
  have q := k_tc_3 (z := z) (n := n) (p := p) (s := s) (M := M) (e := e) (v := v) (kind := kind) (kw := kw) (w := w) p1 p2 p3 p4 p5 p6 p7 p8 p9
  refine ⟨[], rfl, fOk_cons (p_put3 rfl (by decide) ?_) fOk_nil⟩ <;> simp only [List.map, xv, fev, fvl, gtI, Int.one_mul, Int.add_zero, Int.zero_add, List.append_nil]
  exact q
def r_tc_x : eRul := (10, [xP 35 [xv 0, xv 1, xv 2, xv 3], xP 41 [xv 1, xv 4, xv 3], xG (([(1, -1), (3, 1)], 1)), xP 87 [xv 0, xv 3], xP 39 [xv 0, xv 1, xv 3, xv 5], xP 40 [xv 0, xv 3, xv 5, ([], 0)], (.inl [[(0, 0)]], [xv 6]), (.inl [[(-1, -1)]], [xv 7])], 0, [xP 53 [xv 0, xv 1, xv 4, xv 2, xv 6, xv 3, xv 5, xv 7, xv 8, xv 9]])
theorem r_tc_x_ok : ruOk r_tc_x := by
  intro ρ hl0 hp
  obtain ⟨z, t0, rfl, hl1⟩ := len_inv hl0
  obtain ⟨n, t1, rfl, hl2⟩ := len_inv hl1
  obtain ⟨p, t2, rfl, hl3⟩ := len_inv hl2
  obtain ⟨s, t3, rfl, hl4⟩ := len_inv hl3
  obtain ⟨M, t4, rfl, hl5⟩ := len_inv hl4
  obtain ⟨e, t5, rfl, hl6⟩ := len_inv hl5
  obtain ⟨kind, t6, rfl, hl7⟩ := len_inv hl6
  obtain ⟨kw, t7, rfl, hl8⟩ := len_inv hl7
  obtain ⟨v, t8, rfl, hl9⟩ := len_inv hl8
  obtain ⟨w, t9, rfl, hl10⟩ := len_inv hl9
  have hl := List.eq_nil_of_length_eq_zero hl10
  subst hl
  have p1 := p_get3 (by decide) (fOk_hd hp)
  have p2 := p_get3 (by decide) (fOk_hd (fOk_tl hp))
  have p3 := gg_get (fOk_hd (fOk_tl (fOk_tl hp)))
  have p4 := p_get3 (by decide) (fOk_hd (fOk_tl (fOk_tl (fOk_tl hp))))
  have p5 := p_get3 (by decide) (fOk_hd (fOk_tl (fOk_tl (fOk_tl (fOk_tl hp)))))
  have p6 := p_get3 (by decide) (fOk_hd (fOk_tl (fOk_tl (fOk_tl (fOk_tl (fOk_tl hp))))))
  have p7 := i_get (fOk_hd (fOk_tl (fOk_tl (fOk_tl (fOk_tl (fOk_tl (fOk_tl hp)))))))
  have p8 := i_get (fOk_hd (fOk_tl (fOk_tl (fOk_tl (fOk_tl (fOk_tl (fOk_tl (fOk_tl hp))))))))
  simp only [List.map, xv, fev, fvl, gtI, Int.one_mul, Int.add_zero, Int.zero_add] at p1 p2 p3 p4 p5 p6 p7 p8
  have q := k_tc_x (z := z) (n := n) (p := p) (s := s) (M := M) (e := e) (kind := kind) (kw := kw) (v := v) (w := w) p1 p2 p3 p4 p5 p6 p7 p8
  refine ⟨[], rfl, fOk_cons (p_put3 rfl (by decide) ?_) fOk_nil⟩ <;> simp only [List.map, xv, fev, fvl, gtI, Int.one_mul, Int.add_zero, Int.zero_add, List.append_nil]
  exact q
def r_tc_4 : eRul := (9, [xP 35 [xv 0, xv 1, xv 2, xv 3], xP 41 [xv 1, xv 4, xv 3], xG (([(1, -1), (3, 1)], 1)), xP 1 [xv 5, xv 0, xv 3], xP 31 [xv 5, ([], 0)], xP 32 [xv 5, ([], 0)], xP 33 [xv 5, ([], 1)], (.inl [[(4, 4)]], [xv 6]), (.inl [[(-1, -1)]], [xv 7])], 0, [xP 53 [xv 0, xv 1, xv 4, xv 2, xv 6, xv 3, ([(3, 1)], 1), xv 7, xv 5, xv 8]])
theorem r_tc_4_ok : ruOk r_tc_4 := by
  intro ρ hl0 hp
  obtain ⟨z, t0, rfl, hl1⟩ := len_inv hl0
  obtain ⟨n, t1, rfl, hl2⟩ := len_inv hl1
  obtain ⟨p, t2, rfl, hl3⟩ := len_inv hl2
  obtain ⟨s, t3, rfl, hl4⟩ := len_inv hl3
  obtain ⟨M, t4, rfl, hl5⟩ := len_inv hl4
  obtain ⟨b, t5, rfl, hl6⟩ := len_inv hl5
  obtain ⟨kind, t6, rfl, hl7⟩ := len_inv hl6
  obtain ⟨kw, t7, rfl, hl8⟩ := len_inv hl7
  obtain ⟨w, t8, rfl, hl9⟩ := len_inv hl8
  have hl := List.eq_nil_of_length_eq_zero hl9
  subst hl
  have p1 := p_get3 (by decide) (fOk_hd hp)
  have p2 := p_get3 (by decide) (fOk_hd (fOk_tl hp))
  have p3 := gg_get (fOk_hd (fOk_tl (fOk_tl hp)))
  have p4 := p_get (fOk_hd (fOk_tl (fOk_tl (fOk_tl hp))))
  have p5 := p_get3 (by decide) (fOk_hd (fOk_tl (fOk_tl (fOk_tl (fOk_tl hp)))))
  have p6 := p_get3 (by decide) (fOk_hd (fOk_tl (fOk_tl (fOk_tl (fOk_tl (fOk_tl hp))))))
  have p7 := p_get3 (by decide) (fOk_hd (fOk_tl (fOk_tl (fOk_tl (fOk_tl (fOk_tl (fOk_tl hp)))))))
  have p8 := i_get (fOk_hd (fOk_tl (fOk_tl (fOk_tl (fOk_tl (fOk_tl (fOk_tl (fOk_tl hp))))))))
  have p9 := i_get (fOk_hd (fOk_tl (fOk_tl (fOk_tl (fOk_tl (fOk_tl (fOk_tl (fOk_tl (fOk_tl hp)))))))))
  simp only [List.map, xv, fev, fvl, gtI, Int.one_mul, Int.add_zero, Int.zero_add, PR] at p1 p2 p3 p4 p5 p6 p7 p8 p9
  have q := k_tc_4 (z := z) (n := n) (p := p) (s := s) (M := M) (b := b) (kind := kind) (kw := kw) (w := w) p1 p2 p3 p4 p5 p6 p7 p8 p9
  refine ⟨[], rfl, fOk_cons (p_put3 rfl (by decide) ?_) fOk_nil⟩ <;> simp only [List.map, xv, fev, fvl, gtI, Int.one_mul, Int.add_zero, Int.zero_add, List.append_nil]
  exact q
def r_tc_y : eRul := (11, [xP 35 [xv 0, xv 1, xv 2, xv 3], xP 41 [xv 1, xv 4, xv 3], xG (([(1, -1), (3, 1)], 1)), xP 1 [xv 5, xv 0, xv 3], xP 31 [xv 5, ([], 0)], xP 32 [xv 5, ([], 0)], xP 33 [xv 5, ([], 0)], (.inl [[(0, 0)]], [xv 6]), (.inl [[(-1, -1)]], [xv 7])], 0, [xP 53 [xv 0, xv 1, xv 4, xv 2, xv 6, xv 3, xv 8, xv 7, xv 9, xv 10]])
theorem r_tc_y_ok : ruOk r_tc_y := by
  intro ρ hl0 hp
  obtain ⟨z, t0, rfl, hl1⟩ := len_inv hl0
  obtain ⟨n, t1, rfl, hl2⟩ := len_inv hl1
  obtain ⟨p, t2, rfl, hl3⟩ := len_inv hl2
  obtain ⟨s, t3, rfl, hl4⟩ := len_inv hl3
  obtain ⟨M, t4, rfl, hl5⟩ := len_inv hl4
  obtain ⟨b, t5, rfl, hl6⟩ := len_inv hl5
  obtain ⟨kind, t6, rfl, hl7⟩ := len_inv hl6
  obtain ⟨kw, t7, rfl, hl8⟩ := len_inv hl7
  obtain ⟨f, t8, rfl, hl9⟩ := len_inv hl8
  obtain ⟨v, t9, rfl, hl10⟩ := len_inv hl9
  obtain ⟨w, t10, rfl, hl11⟩ := len_inv hl10
  have hl := List.eq_nil_of_length_eq_zero hl11
  subst hl
  have p1 := p_get3 (by decide) (fOk_hd hp)
  have p2 := p_get3 (by decide) (fOk_hd (fOk_tl hp))
  have p3 := gg_get (fOk_hd (fOk_tl (fOk_tl hp)))
  have p4 := p_get (fOk_hd (fOk_tl (fOk_tl (fOk_tl hp))))
  have p5 := p_get3 (by decide) (fOk_hd (fOk_tl (fOk_tl (fOk_tl (fOk_tl hp)))))
  have p6 := p_get3 (by decide) (fOk_hd (fOk_tl (fOk_tl (fOk_tl (fOk_tl (fOk_tl hp))))))
  have p7 := p_get3 (by decide) (fOk_hd (fOk_tl (fOk_tl (fOk_tl (fOk_tl (fOk_tl (fOk_tl hp)))))))
  have p8 := i_get (fOk_hd (fOk_tl (fOk_tl (fOk_tl (fOk_tl (fOk_tl (fOk_tl (fOk_tl hp))))))))
  have p9 := i_get (fOk_hd (fOk_tl (fOk_tl (fOk_tl (fOk_tl (fOk_tl (fOk_tl (fOk_tl (fOk_tl hp)))))))))
  simp only [List.map, xv, fev, fvl, gtI, Int.one_mul, Int.add_zero, Int.zero_add, PR] at p1 p2 p3 p4 p5 p6 p7 p8 p9
  have q := k_tc_y (z := z) (n := n) (p := p) (s := s) (M := M) (b := b) (kind := kind) (kw := kw) (f := f) (v := v) (w := w) p1 p2 p3 p4 p5 p6 p7 p8 p9
  refine ⟨[], rfl, fOk_cons (p_put3 rfl (by decide) ?_) fOk_nil⟩ <;> simp only [List.map, xv, fev, fvl, gtI, Int.one_mul, Int.add_zero, Int.zero_add, List.append_nil]
  exact q
def r_tr_0 : eRul := (9, [xP 35 [xv 0, xv 1, xv 2, xv 3], xG (([(3, -1), (4, 1)], 0)), xG (([(1, -1), (4, 1)], 1)), (.inl [[(1, 1)]], [xv 5]), xG (([(2, -1)], 0))], 0, [xP 54 [xv 0, xv 1, xv 4, xv 2, xv 5, xv 4, xv 3, xv 6, xv 7, xv 8]])
theorem r_tr_0_ok : ruOk r_tr_0 := by
  intro ρ hl0 hp
  obtain ⟨z, t0, rfl, hl1⟩ := len_inv hl0
  obtain ⟨n, t1, rfl, hl2⟩ := len_inv hl1
  obtain ⟨p, t2, rfl, hl3⟩ := len_inv hl2
  obtain ⟨s, t3, rfl, hl4⟩ := len_inv hl3
  obtain ⟨M, t4, rfl, hl5⟩ := len_inv hl4
  obtain ⟨kind, t5, rfl, hl6⟩ := len_inv hl5
  obtain ⟨v, t6, rfl, hl7⟩ := len_inv hl6
  obtain ⟨g, t7, rfl, hl8⟩ := len_inv hl7
  obtain ⟨w, t8, rfl, hl9⟩ := len_inv hl8
  have hl := List.eq_nil_of_length_eq_zero hl9
  subst hl
  have p1 := p_get3 (by decide) (fOk_hd hp)
  have p2 := gg_get (fOk_hd (fOk_tl hp))
  have p3 := gg_get (fOk_hd (fOk_tl (fOk_tl hp)))
  have p4 := i_get (fOk_hd (fOk_tl (fOk_tl (fOk_tl hp))))
  have p5 := gg_get (fOk_hd (fOk_tl (fOk_tl (fOk_tl (fOk_tl hp)))))
  simp only [List.map, xv, fev, fvl, gtI, Int.one_mul, Int.add_zero, Int.zero_add] at p1 p2 p3 p4 p5
  have q := k_tr_0 (z := z) (n := n) (p := p) (s := s) (M := M) (kind := kind) (v := v) (g := g) (w := w) p1 p2 p3 p4 p5
  refine ⟨[], rfl, fOk_cons (p_put3 rfl (by decide) ?_) fOk_nil⟩ <;> simp only [List.map, xv, fev, fvl, gtI, Int.one_mul, Int.add_zero, Int.zero_add, List.append_nil]
  exact q
def r_tr_1 : eRul := (10, [xP 35 [xv 0, xv 1, xv 2, xv 3], xP 41 [xv 1, xv 4, xv 3], xG (([(1, 1), (3, -1)], 0)), (.inl [[(0, 0)]], [xv 5])], 0, [xP 54 [xv 0, xv 1, xv 4, xv 2, xv 5, xv 3, xv 6, xv 7, xv 8, xv 9]])
theorem r_tr_1_ok : ruOk r_tr_1 := by
  intro ρ hl0 hp
  obtain ⟨z, t0, rfl, hl1⟩ := len_inv hl0
  obtain ⟨n, t1, rfl, hl2⟩ := len_inv hl1
  obtain ⟨p, t2, rfl, hl3⟩ := len_inv hl2
  obtain ⟨s, t3, rfl, hl4⟩ := len_inv hl3
  obtain ⟨M, t4, rfl, hl5⟩ := len_inv hl4
  obtain ⟨kind, t5, rfl, hl6⟩ := len_inv hl5
  obtain ⟨f, t6, rfl, hl7⟩ := len_inv hl6
  obtain ⟨v, t7, rfl, hl8⟩ := len_inv hl7
  obtain ⟨g, t8, rfl, hl9⟩ := len_inv hl8
  obtain ⟨w, t9, rfl, hl10⟩ := len_inv hl9
  have hl := List.eq_nil_of_length_eq_zero hl10
  subst hl
  have p1 := p_get3 (by decide) (fOk_hd hp)
  have p2 := p_get3 (by decide) (fOk_hd (fOk_tl hp))
  have p3 := gg_get (fOk_hd (fOk_tl (fOk_tl hp)))
  have p4 := i_get (fOk_hd (fOk_tl (fOk_tl (fOk_tl hp))))
  simp only [List.map, xv, fev, fvl, gtI, Int.one_mul, Int.add_zero, Int.zero_add] at p1 p2 p3 p4
  have q := k_tr_1 (z := z) (n := n) (p := p) (s := s) (M := M) (kind := kind) (f := f) (v := v) (g := g) (w := w) p1 p2 p3 p4
  refine ⟨[], rfl, fOk_cons (p_put3 rfl (by decide) ?_) fOk_nil⟩ <;> simp only [List.map, xv, fev, fvl, gtI, Int.one_mul, Int.add_zero, Int.zero_add, List.append_nil]
  exact q
def r_tr_2 : eRul := (10, [xP 35 [xv 0, xv 1, xv 2, xv 3], xP 41 [xv 1, xv 4, xv 3], xG (([(1, -1), (3, 1)], 1)), xP 87 [xv 0, xv 3], xP 39 [xv 0, xv 1, xv 3, xv 5], xP 40 [xv 0, xv 3, xv 5, ([], 2)], xP 84 [xv 0, xv 3, xv 5, xv 6], (.inl [[(2, 2)]], [xv 7])], 0, [xP 54 [xv 0, xv 1, xv 4, xv 2, xv 7, xv 3, xv 5, xv 8, xv 9, xv 6]])
theorem r_tr_2_ok : ruOk r_tr_2 := by
  intro ρ hl0 hp
  obtain ⟨z, t0, rfl, hl1⟩ := len_inv hl0
  obtain ⟨n, t1, rfl, hl2⟩ := len_inv hl1
  obtain ⟨p, t2, rfl, hl3⟩ := len_inv hl2
  obtain ⟨s, t3, rfl, hl4⟩ := len_inv hl3
  obtain ⟨M, t4, rfl, hl5⟩ := len_inv hl4
  obtain ⟨e, t5, rfl, hl6⟩ := len_inv hl5
  obtain ⟨w, t6, rfl, hl7⟩ := len_inv hl6
  obtain ⟨kind, t7, rfl, hl8⟩ := len_inv hl7
  obtain ⟨v, t8, rfl, hl9⟩ := len_inv hl8
  obtain ⟨g, t9, rfl, hl10⟩ := len_inv hl9
  have hl := List.eq_nil_of_length_eq_zero hl10
  subst hl
  have p1 := p_get3 (by decide) (fOk_hd hp)
  have p2 := p_get3 (by decide) (fOk_hd (fOk_tl hp))
  have p3 := gg_get (fOk_hd (fOk_tl (fOk_tl hp)))
  have p4 := p_get3 (by decide) (fOk_hd (fOk_tl (fOk_tl (fOk_tl hp))))
  have p5 := p_get3 (by decide) (fOk_hd (fOk_tl (fOk_tl (fOk_tl (fOk_tl hp)))))
  have p6 := p_get3 (by decide) (fOk_hd (fOk_tl (fOk_tl (fOk_tl (fOk_tl (fOk_tl hp))))))
  have p7 := p_get3 (by decide) (fOk_hd (fOk_tl (fOk_tl (fOk_tl (fOk_tl (fOk_tl (fOk_tl hp)))))))
  have p8 := i_get (fOk_hd (fOk_tl (fOk_tl (fOk_tl (fOk_tl (fOk_tl (fOk_tl (fOk_tl hp))))))))
  simp only [List.map, xv, fev, fvl, gtI, Int.one_mul, Int.add_zero, Int.zero_add] at p1 p2 p3 p4 p5 p6 p7 p8
  have q := k_tr_2 (z := z) (n := n) (p := p) (s := s) (M := M) (e := e) (w := w) (kind := kind) (v := v) (g := g) p1 p2 p3 p4 p5 p6 p7 p8
  refine ⟨[], rfl, fOk_cons (p_put3 rfl (by decide) ?_) fOk_nil⟩ <;> simp only [List.map, xv, fev, fvl, gtI, Int.one_mul, Int.add_zero, Int.zero_add, List.append_nil]
  exact q
def r_tr_3 : eRul := (10, [xP 35 [xv 0, xv 1, xv 2, xv 3], xP 41 [xv 1, xv 4, xv 3], xG (([(1, -1), (3, 1)], 1)), xP 87 [xv 0, xv 3], xP 39 [xv 0, xv 1, xv 3, xv 5], xP 40 [xv 0, xv 3, xv 5, ([], 3)], xP 37 [xv 0, xv 3, xv 5, xv 6], (.inl [[(3, 3)]], [xv 7])], 0, [xP 54 [xv 0, xv 1, xv 4, xv 2, xv 7, xv 3, xv 5, xv 6, xv 8, xv 9]])
theorem r_tr_3_ok : ruOk r_tr_3 := by
  intro ρ hl0 hp
  obtain ⟨z, t0, rfl, hl1⟩ := len_inv hl0
  obtain ⟨n, t1, rfl, hl2⟩ := len_inv hl1
  obtain ⟨p, t2, rfl, hl3⟩ := len_inv hl2
  obtain ⟨s, t3, rfl, hl4⟩ := len_inv hl3
  obtain ⟨M, t4, rfl, hl5⟩ := len_inv hl4
  obtain ⟨e, t5, rfl, hl6⟩ := len_inv hl5
  obtain ⟨v, t6, rfl, hl7⟩ := len_inv hl6
  obtain ⟨kind, t7, rfl, hl8⟩ := len_inv hl7
  obtain ⟨g, t8, rfl, hl9⟩ := len_inv hl8
  obtain ⟨w, t9, rfl, hl10⟩ := len_inv hl9
  have hl := List.eq_nil_of_length_eq_zero hl10
  subst hl
  have p1 := p_get3 (by decide) (fOk_hd hp)
  have p2 := p_get3 (by decide) (fOk_hd (fOk_tl hp))
  have p3 := gg_get (fOk_hd (fOk_tl (fOk_tl hp)))
  have p4 := p_get3 (by decide) (fOk_hd (fOk_tl (fOk_tl (fOk_tl hp))))
  have p5 := p_get3 (by decide) (fOk_hd (fOk_tl (fOk_tl (fOk_tl (fOk_tl hp)))))
  have p6 := p_get3 (by decide) (fOk_hd (fOk_tl (fOk_tl (fOk_tl (fOk_tl (fOk_tl hp))))))
  have p7 := p_get3 (by decide) (fOk_hd (fOk_tl (fOk_tl (fOk_tl (fOk_tl (fOk_tl (fOk_tl hp)))))))
  have p8 := i_get (fOk_hd (fOk_tl (fOk_tl (fOk_tl (fOk_tl (fOk_tl (fOk_tl (fOk_tl hp))))))))
  simp only [List.map, xv, fev, fvl, gtI, Int.one_mul, Int.add_zero, Int.zero_add] at p1 p2 p3 p4 p5 p6 p7 p8
  have q := k_tr_3 (z := z) (n := n) (p := p) (s := s) (M := M) (e := e) (v := v) (kind := kind) (g := g) (w := w) p1 p2 p3 p4 p5 p6 p7 p8
  refine ⟨[], rfl, fOk_cons (p_put3 rfl (by decide) ?_) fOk_nil⟩ <;> simp only [List.map, xv, fev, fvl, gtI, Int.one_mul, Int.add_zero, Int.zero_add, List.append_nil]
  exact q
def r_tr_x : eRul := (10, [xP 35 [xv 0, xv 1, xv 2, xv 3], xP 41 [xv 1, xv 4, xv 3], xG (([(1, -1), (3, 1)], 1)), xP 87 [xv 0, xv 3], xP 39 [xv 0, xv 1, xv 3, xv 5], xP 40 [xv 0, xv 3, xv 5, ([], 0)], (.inl [[(1, 1)]], [xv 6])], 0, [xP 54 [xv 0, xv 1, xv 4, xv 2, xv 6, xv 3, xv 5, xv 7, xv 8, xv 9]])
theorem r_tr_x_ok : ruOk r_tr_x := by
  intro ρ hl0 hp
  obtain ⟨z, t0, rfl, hl1⟩ := len_inv hl0
  obtain ⟨n, t1, rfl, hl2⟩ := len_inv hl1
  obtain ⟨p, t2, rfl, hl3⟩ := len_inv hl2
  obtain ⟨s, t3, rfl, hl4⟩ := len_inv hl3
  obtain ⟨M, t4, rfl, hl5⟩ := len_inv hl4
  obtain ⟨e, t5, rfl, hl6⟩ := len_inv hl5
  obtain ⟨kind, t6, rfl, hl7⟩ := len_inv hl6
  obtain ⟨v, t7, rfl, hl8⟩ := len_inv hl7
  obtain ⟨g, t8, rfl, hl9⟩ := len_inv hl8
  obtain ⟨w, t9, rfl, hl10⟩ := len_inv hl9
  have hl := List.eq_nil_of_length_eq_zero hl10
  subst hl
  have p1 := p_get3 (by decide) (fOk_hd hp)
  have p2 := p_get3 (by decide) (fOk_hd (fOk_tl hp))
  have p3 := gg_get (fOk_hd (fOk_tl (fOk_tl hp)))
  have p4 := p_get3 (by decide) (fOk_hd (fOk_tl (fOk_tl (fOk_tl hp))))
  have p5 := p_get3 (by decide) (fOk_hd (fOk_tl (fOk_tl (fOk_tl (fOk_tl hp)))))
  have p6 := p_get3 (by decide) (fOk_hd (fOk_tl (fOk_tl (fOk_tl (fOk_tl (fOk_tl hp))))))
  have p7 := i_get (fOk_hd (fOk_tl (fOk_tl (fOk_tl (fOk_tl (fOk_tl (fOk_tl hp)))))))
  simp only [List.map, xv, fev, fvl, gtI, Int.one_mul, Int.add_zero, Int.zero_add] at p1 p2 p3 p4 p5 p6 p7
  have q := k_tr_x (z := z) (n := n) (p := p) (s := s) (M := M) (e := e) (kind := kind) (v := v) (g := g) (w := w) p1 p2 p3 p4 p5 p6 p7
  refine ⟨[], rfl, fOk_cons (p_put3 rfl (by decide) ?_) fOk_nil⟩ <;> simp only [List.map, xv, fev, fvl, gtI, Int.one_mul, Int.add_zero, Int.zero_add, List.append_nil]
  exact q
def r_tr_4 : eRul := (9, [xP 35 [xv 0, xv 1, xv 2, xv 3], xP 41 [xv 1, xv 4, xv 3], xG (([(1, -1), (3, 1)], 1)), xP 1 [xv 5, xv 0, xv 3], xP 31 [xv 5, ([], 0)], xP 32 [xv 5, ([], 0)], xP 33 [xv 5, ([], 1)], (.inl [[(4, 4)]], [xv 6])], 0, [xP 54 [xv 0, xv 1, xv 4, xv 2, xv 6, xv 3, ([(3, 1)], 1), xv 7, xv 5, xv 8]])
theorem r_tr_4_ok : ruOk r_tr_4 := by
  intro ρ hl0 hp
  obtain ⟨z, t0, rfl, hl1⟩ := len_inv hl0
  obtain ⟨n, t1, rfl, hl2⟩ := len_inv hl1
  obtain ⟨p, t2, rfl, hl3⟩ := len_inv hl2
  obtain ⟨s, t3, rfl, hl4⟩ := len_inv hl3
  obtain ⟨M, t4, rfl, hl5⟩ := len_inv hl4
  obtain ⟨b, t5, rfl, hl6⟩ := len_inv hl5
  obtain ⟨kind, t6, rfl, hl7⟩ := len_inv hl6
  obtain ⟨v, t7, rfl, hl8⟩ := len_inv hl7
  obtain ⟨w, t8, rfl, hl9⟩ := len_inv hl8
  have hl := List.eq_nil_of_length_eq_zero hl9
  subst hl
  have p1 := p_get3 (by decide) (fOk_hd hp)
  have p2 := p_get3 (by decide) (fOk_hd (fOk_tl hp))
  have p3 := gg_get (fOk_hd (fOk_tl (fOk_tl hp)))
  have p4 := p_get (fOk_hd (fOk_tl (fOk_tl (fOk_tl hp))))
  have p5 := p_get3 (by decide) (fOk_hd (fOk_tl (fOk_tl (fOk_tl (fOk_tl hp)))))
  have p6 := p_get3 (by decide) (fOk_hd (fOk_tl (fOk_tl (fOk_tl (fOk_tl (fOk_tl hp))))))
  have p7 := p_get3 (by decide) (fOk_hd (fOk_tl (fOk_tl (fOk_tl (fOk_tl (fOk_tl (fOk_tl hp)))))))
  have p8 := i_get (fOk_hd (fOk_tl (fOk_tl (fOk_tl (fOk_tl (fOk_tl (fOk_tl (fOk_tl hp))))))))
  simp only [List.map, xv, fev, fvl, gtI, Int.one_mul, Int.add_zero, Int.zero_add, PR] at p1 p2 p3 p4 p5 p6 p7 p8
  have q := k_tr_4 (z := z) (n := n) (p := p) (s := s) (M := M) (b := b) (kind := kind) (v := v) (w := w) p1 p2 p3 p4 p5 p6 p7 p8
  refine ⟨[], rfl, fOk_cons (p_put3 rfl (by decide) ?_) fOk_nil⟩ <;> simp only [List.map, xv, fev, fvl, gtI, Int.one_mul, Int.add_zero, Int.zero_add, List.append_nil]
  exact q
def r_tr_y : eRul := (11, [xP 35 [xv 0, xv 1, xv 2, xv 3], xP 41 [xv 1, xv 4, xv 3], xG (([(1, -1), (3, 1)], 1)), xP 1 [xv 5, xv 0, xv 3], xP 31 [xv 5, ([], 0)], xP 32 [xv 5, ([], 0)], xP 33 [xv 5, ([], 0)], (.inl [[(1, 1)]], [xv 6])], 0, [xP 54 [xv 0, xv 1, xv 4, xv 2, xv 6, xv 3, xv 7, xv 8, xv 9, xv 10]])
theorem r_tr_y_ok : ruOk r_tr_y := by
  intro ρ hl0 hp
  obtain ⟨z, t0, rfl, hl1⟩ := len_inv hl0
  obtain ⟨n, t1, rfl, hl2⟩ := len_inv hl1
  obtain ⟨p, t2, rfl, hl3⟩ := len_inv hl2
  obtain ⟨s, t3, rfl, hl4⟩ := len_inv hl3
  obtain ⟨M, t4, rfl, hl5⟩ := len_inv hl4
  obtain ⟨b, t5, rfl, hl6⟩ := len_inv hl5
  obtain ⟨kind, t6, rfl, hl7⟩ := len_inv hl6
  obtain ⟨f, t7, rfl, hl8⟩ := len_inv hl7
  obtain ⟨v, t8, rfl, hl9⟩ := len_inv hl8
  obtain ⟨g, t9, rfl, hl10⟩ := len_inv hl9
  obtain ⟨w, t10, rfl, hl11⟩ := len_inv hl10
  have hl := List.eq_nil_of_length_eq_zero hl11
  subst hl
  have p1 := p_get3 (by decide) (fOk_hd hp)
  have p2 := p_get3 (by decide) (fOk_hd (fOk_tl hp))
  have p3 := gg_get (fOk_hd (fOk_tl (fOk_tl hp)))
  have p4 := p_get (fOk_hd (fOk_tl (fOk_tl (fOk_tl hp))))
  have p5 := p_get3 (by decide) (fOk_hd (fOk_tl (fOk_tl (fOk_tl (fOk_tl hp)))))
  have p6 := p_get3 (by decide) (fOk_hd (fOk_tl (fOk_tl (fOk_tl (fOk_tl (fOk_tl hp))))))
  have p7 := p_get3 (by decide) (fOk_hd (fOk_tl (fOk_tl (fOk_tl (fOk_tl (fOk_tl (fOk_tl hp)))))))
  have p8 := i_get (fOk_hd (fOk_tl (fOk_tl (fOk_tl (fOk_tl (fOk_tl (fOk_tl (fOk_tl hp))))))))
  simp only [List.map, xv, fev, fvl, gtI, Int.one_mul, Int.add_zero, Int.zero_add, PR] at p1 p2 p3 p4 p5 p6 p7 p8
  have q := k_tr_y (z := z) (n := n) (p := p) (s := s) (M := M) (b := b) (kind := kind) (f := f) (v := v) (g := g) (w := w) p1 p2 p3 p4 p5 p6 p7 p8
  refine ⟨[], rfl, fOk_cons (p_put3 rfl (by decide) ?_) fOk_nil⟩ <;> simp only [List.map, xv, fev, fvl, gtI, Int.one_mul, Int.add_zero, Int.zero_add, List.append_nil]
  exact q
def r_nam_1 : eRul := (3, [(.inl [[(2, 2)]], [xv 0]), (.inl [[(-1, -1)]], [xv 1]), (.inl [[(1, 1)]], [xv 2])], 0, [xP 55 [xv 0, xv 1, xv 2]])
theorem r_nam_1_ok : ruOk r_nam_1 := by
  intro ρ hl0 hp
  obtain ⟨kind, t0, rfl, hl1⟩ := len_inv hl0
  obtain ⟨kw, t1, rfl, hl2⟩ := len_inv hl1
  obtain ⟨r, t2, rfl, hl3⟩ := len_inv hl2
  have hl := List.eq_nil_of_length_eq_zero hl3
  subst hl
  have p1 := i_get (fOk_hd hp)
  have p2 := i_get (fOk_hd (fOk_tl hp))
  have p3 := i_get (fOk_hd (fOk_tl (fOk_tl hp)))
  simp only [List.map, xv, fev, fvl, gtI, Int.one_mul, Int.add_zero, Int.zero_add] at p1 p2 p3
  have q := k_nam_1 (kind := kind) (kw := kw) (r := r) p1 p2 p3
  refine ⟨[], rfl, fOk_cons (p_put3 rfl (by decide) ?_) fOk_nil⟩ <;> simp only [List.map, xv, fev, fvl, gtI, Int.one_mul, Int.add_zero, Int.zero_add, List.append_nil]
  exact q
def r_nam_a : eRul := (3, [xG (([(0, 1)], -1)), (.inl [[(0, 0)]], [xv 1])], 0, [xP 55 [xv 0, xv 2, xv 1]])
theorem r_nam_a_ok : ruOk r_nam_a := by
  intro ρ hl0 hp
  obtain ⟨kind, t0, rfl, hl1⟩ := len_inv hl0
  obtain ⟨r, t1, rfl, hl2⟩ := len_inv hl1
  obtain ⟨kw, t2, rfl, hl3⟩ := len_inv hl2
  have hl := List.eq_nil_of_length_eq_zero hl3
  subst hl
  have p1 := gg_get (fOk_hd hp)
  have p2 := i_get (fOk_hd (fOk_tl hp))
  simp only [List.map, xv, fev, fvl, gtI, Int.one_mul, Int.add_zero, Int.zero_add] at p1 p2
  have q := k_nam_a (kind := kind) (r := r) (kw := kw) p1 p2
  refine ⟨[], rfl, fOk_cons (p_put3 rfl (by decide) ?_) fOk_nil⟩ <;> simp only [List.map, xv, fev, fvl, gtI, Int.one_mul, Int.add_zero, Int.zero_add, List.append_nil]
  exact q
def r_nam_b : eRul := (3, [xG (([(0, -1)], 3)), (.inl [[(0, 0)]], [xv 1])], 0, [xP 55 [xv 0, xv 2, xv 1]])
theorem r_nam_b_ok : ruOk r_nam_b := by
  intro ρ hl0 hp
  obtain ⟨kind, t0, rfl, hl1⟩ := len_inv hl0
  obtain ⟨r, t1, rfl, hl2⟩ := len_inv hl1
  obtain ⟨kw, t2, rfl, hl3⟩ := len_inv hl2
  have hl := List.eq_nil_of_length_eq_zero hl3
  subst hl
  have p1 := gg_get (fOk_hd hp)
  have p2 := i_get (fOk_hd (fOk_tl hp))
  simp only [List.map, xv, fev, fvl, gtI, Int.one_mul, Int.add_zero, Int.zero_add] at p1 p2
  have q := k_nam_b (kind := kind) (r := r) (kw := kw) p1 p2
  refine ⟨[], rfl, fOk_cons (p_put3 rfl (by decide) ?_) fOk_nil⟩ <;> simp only [List.map, xv, fev, fvl, gtI, Int.one_mul, Int.add_zero, Int.zero_add, List.append_nil]
  exact q
def r_nam_c : eRul := (3, [xG (([(0, -1)], 0)), (.inl [[(0, 0)]], [xv 1])], 0, [xP 55 [xv 2, xv 0, xv 1]])
theorem r_nam_c_ok : ruOk r_nam_c := by
  intro ρ hl0 hp
  obtain ⟨kw, t0, rfl, hl1⟩ := len_inv hl0
  obtain ⟨r, t1, rfl, hl2⟩ := len_inv hl1
  obtain ⟨kind, t2, rfl, hl3⟩ := len_inv hl2
  have hl := List.eq_nil_of_length_eq_zero hl3
  subst hl
  have p1 := gg_get (fOk_hd hp)
  have p2 := i_get (fOk_hd (fOk_tl hp))
  simp only [List.map, xv, fev, fvl, gtI, Int.one_mul, Int.add_zero, Int.zero_add] at p1 p2
  have q := k_nam_c (kw := kw) (r := r) (kind := kind) p1 p2
  refine ⟨[], rfl, fOk_cons (p_put3 rfl (by decide) ?_) fOk_nil⟩ <;> simp only [List.map, xv, fev, fvl, gtI, Int.one_mul, Int.add_zero, Int.zero_add, List.append_nil]
  exact q
def r_nam_d : eRul := (3, [xG (([(0, 1)], 2)), (.inl [[(0, 0)]], [xv 1])], 0, [xP 55 [xv 2, xv 0, xv 1]])
theorem r_nam_d_ok : ruOk r_nam_d := by
  intro ρ hl0 hp
  obtain ⟨kw, t0, rfl, hl1⟩ := len_inv hl0
  obtain ⟨r, t1, rfl, hl2⟩ := len_inv hl1
  obtain ⟨kind, t2, rfl, hl3⟩ := len_inv hl2
  have hl := List.eq_nil_of_length_eq_zero hl3
  subst hl
  have p1 := gg_get (fOk_hd hp)
  have p2 := i_get (fOk_hd (fOk_tl hp))
  simp only [List.map, xv, fev, fvl, gtI, Int.one_mul, Int.add_zero, Int.zero_add] at p1 p2
  have q := k_nam_d (kw := kw) (r := r) (kind := kind) p1 p2
  refine ⟨[], rfl, fOk_cons (p_put3 rfl (by decide) ?_) fOk_nil⟩ <;> simp only [List.map, xv, fev, fvl, gtI, Int.one_mul, Int.add_zero, Int.zero_add, List.append_nil]
  exact q
def r_sgn_1 : eRul := (4, [(.inl [[(4, 4)]], [xv 0]), xG (([(1, 1), (2, -1)], 0)), xG (([(1, -1), (2, 1)], 0)), (.inl [[(1, 1)]], [xv 3])], 0, [xP 56 [xv 0, xv 1, xv 2, xv 3]])
theorem r_sgn_1_ok : ruOk r_sgn_1 := by
  intro ρ hl0 hp
  obtain ⟨kind, t0, rfl, hl1⟩ := len_inv hl0
  obtain ⟨v, t1, rfl, hl2⟩ := len_inv hl1
  obtain ⟨c, t2, rfl, hl3⟩ := len_inv hl2
  obtain ⟨r, t3, rfl, hl4⟩ := len_inv hl3
  have hl := List.eq_nil_of_length_eq_zero hl4
  subst hl
  have p1 := i_get (fOk_hd hp)
  have p2 := gg_get (fOk_hd (fOk_tl hp))
  have p3 := gg_get (fOk_hd (fOk_tl (fOk_tl hp)))
  have p4 := i_get (fOk_hd (fOk_tl (fOk_tl (fOk_tl hp))))
  simp only [List.map, xv, fev, fvl, gtI, Int.one_mul, Int.add_zero, Int.zero_add] at p1 p2 p3 p4
  have q := k_sgn_1 (kind := kind) (v := v) (c := c) (r := r) p1 p2 p3 p4
  refine ⟨[], rfl, fOk_cons (p_put3 rfl (by decide) ?_) fOk_nil⟩ <;> simp only [List.map, xv, fev, fvl, gtI, Int.one_mul, Int.add_zero, Int.zero_add, List.append_nil]
  exact q
def r_sgn_a : eRul := (4, [xG (([(0, 1)], -3)), (.inl [[(0, 0)]], [xv 1])], 0, [xP 56 [xv 0, xv 2, xv 3, xv 1]])
theorem r_sgn_a_ok : ruOk r_sgn_a := by
  intro ρ hl0 hp
  obtain ⟨kind, t0, rfl, hl1⟩ := len_inv hl0
  obtain ⟨r, t1, rfl, hl2⟩ := len_inv hl1
  obtain ⟨v, t2, rfl, hl3⟩ := len_inv hl2
  obtain ⟨c, t3, rfl, hl4⟩ := len_inv hl3
  have hl := List.eq_nil_of_length_eq_zero hl4
  subst hl
  have p1 := gg_get (fOk_hd hp)
  have p2 := i_get (fOk_hd (fOk_tl hp))
  simp only [List.map, xv, fev, fvl, gtI, Int.one_mul, Int.add_zero, Int.zero_add] at p1 p2
  have q := k_sgn_a (kind := kind) (r := r) (v := v) (c := c) p1 p2
  refine ⟨[], rfl, fOk_cons (p_put3 rfl (by decide) ?_) fOk_nil⟩ <;> simp only [List.map, xv, fev, fvl, gtI, Int.one_mul, Int.add_zero, Int.zero_add, List.append_nil]
  exact q
def r_sgn_d : eRul := (4, [xG (([(0, -1)], 5)), (.inl [[(0, 0)]], [xv 1])], 0, [xP 56 [xv 0, xv 2, xv 3, xv 1]])
theorem r_sgn_d_ok : ruOk r_sgn_d := by
  intro ρ hl0 hp
  obtain ⟨kind, t0, rfl, hl1⟩ := len_inv hl0
  obtain ⟨r, t1, rfl, hl2⟩ := len_inv hl1
  obtain ⟨v, t2, rfl, hl3⟩ := len_inv hl2
  obtain ⟨c, t3, rfl, hl4⟩ := len_inv hl3
  have hl := List.eq_nil_of_length_eq_zero hl4
  subst hl
  have p1 := gg_get (fOk_hd hp)
  have p2 := i_get (fOk_hd (fOk_tl hp))
  simp only [List.map, xv, fev, fvl, gtI, Int.one_mul, Int.add_zero, Int.zero_add] at p1 p2
  have q := k_sgn_d (kind := kind) (r := r) (v := v) (c := c) p1 p2
  refine ⟨[], rfl, fOk_cons (p_put3 rfl (by decide) ?_) fOk_nil⟩ <;> simp only [List.map, xv, fev, fvl, gtI, Int.one_mul, Int.add_zero, Int.zero_add, List.append_nil]
  exact q
def r_sgn_b : eRul := (4, [(.inl [[(-4294967296, -1)]], [([(0, 1), (1, -1)], 0)]), (.inl [[(0, 0)]], [xv 2])], 0, [xP 56 [xv 3, xv 0, xv 1, xv 2]])
theorem r_sgn_b_ok : ruOk r_sgn_b := by
  intro ρ hl0 hp
  obtain ⟨v, t0, rfl, hl1⟩ := len_inv hl0
  obtain ⟨c, t1, rfl, hl2⟩ := len_inv hl1
  obtain ⟨r, t2, rfl, hl3⟩ := len_inv hl2
  obtain ⟨kind, t3, rfl, hl4⟩ := len_inv hl3
  have hl := List.eq_nil_of_length_eq_zero hl4
  subst hl
  have p1 := i_get (fOk_hd hp)
  have p2 := i_get (fOk_hd (fOk_tl hp))
  simp only [List.map, xv, fev, fvl, gtI, Int.one_mul, Int.add_zero, Int.zero_add] at p1 p2
  have q := k_sgn_b (v := v) (c := c) (r := r) (kind := kind) p1 p2
  refine ⟨[], rfl, fOk_cons (p_put3 rfl (by decide) ?_) fOk_nil⟩ <;> simp only [List.map, xv, fev, fvl, gtI, Int.one_mul, Int.add_zero, Int.zero_add, List.append_nil]
  exact q
def r_sgn_c : eRul := (4, [(.inl [[(-4294967296, -1)]], [([(0, 1), (1, -1)], 0)]), (.inl [[(0, 0)]], [xv 2])], 0, [xP 56 [xv 3, xv 1, xv 0, xv 2]])
theorem r_sgn_c_ok : ruOk r_sgn_c := by
  intro ρ hl0 hp
  obtain ⟨c, t0, rfl, hl1⟩ := len_inv hl0
  obtain ⟨v, t1, rfl, hl2⟩ := len_inv hl1
  obtain ⟨r, t2, rfl, hl3⟩ := len_inv hl2
  obtain ⟨kind, t3, rfl, hl4⟩ := len_inv hl3
  have hl := List.eq_nil_of_length_eq_zero hl4
  subst hl
  have p1 := i_get (fOk_hd hp)
  have p2 := i_get (fOk_hd (fOk_tl hp))
  simp only [List.map, xv, fev, fvl, gtI, Int.one_mul, Int.add_zero, Int.zero_add] at p1 p2
  have q := k_sgn_c (c := c) (v := v) (r := r) (kind := kind) p1 p2
  refine ⟨[], rfl, fOk_cons (p_put3 rfl (by decide) ?_) fOk_nil⟩ <;> simp only [List.map, xv, fev, fvl, gtI, Int.one_mul, Int.add_zero, Int.zero_add, List.append_nil]
  exact q
def r_win_1 : eRul := (4, [xG (([(0, 1), (1, -1)], 0)), xG (([(1, 1), (2, -1)], 0)), (.inl [[(1, 1)]], [xv 3])], 0, [xP 58 [xv 1, xv 0, xv 2, xv 3]])
theorem r_win_1_ok : ruOk r_win_1 := by
  intro ρ hl0 hp
  obtain ⟨l, t0, rfl, hl1⟩ := len_inv hl0
  obtain ⟨v, t1, rfl, hl2⟩ := len_inv hl1
  obtain ⟨h, t2, rfl, hl3⟩ := len_inv hl2
  obtain ⟨r, t3, rfl, hl4⟩ := len_inv hl3
  have hl := List.eq_nil_of_length_eq_zero hl4
  subst hl
  have p1 := gg_get (fOk_hd hp)
  have p2 := gg_get (fOk_hd (fOk_tl hp))
  have p3 := i_get (fOk_hd (fOk_tl (fOk_tl hp)))
  simp only [List.map, xv, fev, fvl, gtI, Int.one_mul, Int.add_zero, Int.zero_add] at p1 p2 p3
  have q := k_win_1 (l := l) (v := v) (h := h) (r := r) p1 p2 p3
  refine ⟨[], rfl, fOk_cons (p_put3 rfl (by decide) ?_) fOk_nil⟩ <;> simp only [List.map, xv, fev, fvl, gtI, Int.one_mul, Int.add_zero, Int.zero_add, List.append_nil]
  exact q
def r_win_a : eRul := (4, [xG (([(0, 1), (1, -1)], 1)), (.inl [[(0, 0)]], [xv 2])], 0, [xP 58 [xv 0, xv 1, xv 3, xv 2]])
theorem r_win_a_ok : ruOk r_win_a := by
  intro ρ hl0 hp
  obtain ⟨v, t0, rfl, hl1⟩ := len_inv hl0
  obtain ⟨l, t1, rfl, hl2⟩ := len_inv hl1
  obtain ⟨r, t2, rfl, hl3⟩ := len_inv hl2
  obtain ⟨h, t3, rfl, hl4⟩ := len_inv hl3
  have hl := List.eq_nil_of_length_eq_zero hl4
  subst hl
  have p1 := gg_get (fOk_hd hp)
  have p2 := i_get (fOk_hd (fOk_tl hp))
  simp only [List.map, xv, fev, fvl, gtI, Int.one_mul, Int.add_zero, Int.zero_add] at p1 p2
  have q := k_win_a (v := v) (l := l) (r := r) (h := h) p1 p2
  refine ⟨[], rfl, fOk_cons (p_put3 rfl (by decide) ?_) fOk_nil⟩ <;> simp only [List.map, xv, fev, fvl, gtI, Int.one_mul, Int.add_zero, Int.zero_add, List.append_nil]
  exact q
def r_win_b : eRul := (4, [xG (([(0, 1), (1, -1)], 1)), (.inl [[(0, 0)]], [xv 2])], 0, [xP 58 [xv 1, xv 3, xv 0, xv 2]])
theorem r_win_b_ok : ruOk r_win_b := by
  intro ρ hl0 hp
  obtain ⟨h, t0, rfl, hl1⟩ := len_inv hl0
  obtain ⟨v, t1, rfl, hl2⟩ := len_inv hl1
  obtain ⟨r, t2, rfl, hl3⟩ := len_inv hl2
  obtain ⟨l, t3, rfl, hl4⟩ := len_inv hl3
  have hl := List.eq_nil_of_length_eq_zero hl4
  subst hl
  have p1 := gg_get (fOk_hd hp)
  have p2 := i_get (fOk_hd (fOk_tl hp))
  simp only [List.map, xv, fev, fvl, gtI, Int.one_mul, Int.add_zero, Int.zero_add] at p1 p2
  have q := k_win_b (h := h) (v := v) (r := r) (l := l) p1 p2
  refine ⟨[], rfl, fOk_cons (p_put3 rfl (by decide) ?_) fOk_nil⟩ <;> simp only [List.map, xv, fev, fvl, gtI, Int.one_mul, Int.add_zero, Int.zero_add, List.append_nil]
  exact q
def r_nkd_a : eRul := (1, [xG (([(0, 1)], -2))], 0, [xP 57 [xv 0]])
theorem r_nkd_a_ok : ruOk r_nkd_a := by
  intro ρ hl0 hp
  obtain ⟨kind, t0, rfl, hl1⟩ := len_inv hl0
  have hl := List.eq_nil_of_length_eq_zero hl1
  subst hl
  have p1 := gg_get (fOk_hd hp)
  simp only [List.map, xv, fev, fvl, gtI, Int.one_mul, Int.add_zero, Int.zero_add] at p1
  have q := k_nkd_a (kind := kind) p1
  refine ⟨[], rfl, fOk_cons (p_put3 rfl (by decide) ?_) fOk_nil⟩ <;> simp only [List.map, xv, fev, fvl, gtI, Int.one_mul, Int.add_zero, Int.zero_add, List.append_nil]
  exact q
def r_nkd_b : eRul := (1, [xG (([(0, -1)], 4))], 0, [xP 57 [xv 0]])
theorem r_nkd_b_ok : ruOk r_nkd_b := by
  intro ρ hl0 hp
  obtain ⟨kind, t0, rfl, hl1⟩ := len_inv hl0
  have hl := List.eq_nil_of_length_eq_zero hl1
  subst hl
  have p1 := gg_get (fOk_hd hp)
  simp only [List.map, xv, fev, fvl, gtI, Int.one_mul, Int.add_zero, Int.zero_add] at p1
  have q := k_nkd_b (kind := kind) p1
  refine ⟨[], rfl, fOk_cons (p_put3 rfl (by decide) ?_) fOk_nil⟩ <;> simp only [List.map, xv, fev, fvl, gtI, Int.one_mul, Int.add_zero, Int.zero_add, List.append_nil]
  exact q
def r_notf_0 : eRul := (3, [xG (([(0, -1)], 0))], 0, [xP 59 [xv 1, xv 0, ([], 0), xv 2]])
theorem r_notf_0_ok : ruOk r_notf_0 := by
  intro ρ hl0 hp
  obtain ⟨b, t0, rfl, hl1⟩ := len_inv hl0
  obtain ⟨z, t1, rfl, hl2⟩ := len_inv hl1
  obtain ⟨w, t2, rfl, hl3⟩ := len_inv hl2
  have hl := List.eq_nil_of_length_eq_zero hl3
  subst hl
  have p1 := gg_get (fOk_hd hp)
  simp only [List.map, xv, fev, fvl, gtI, Int.one_mul, Int.add_zero, Int.zero_add] at p1
  have q := k_notf_0 (b := b) (z := z) (w := w) p1
  refine ⟨[], rfl, fOk_cons (p_put3 rfl (by decide) ?_) fOk_nil⟩ <;> simp only [List.map, xv, fev, fvl, gtI, Int.one_mul, Int.add_zero, Int.zero_add, List.append_nil]
  exact q
def r_notf_l : eRul := (5, [xP 59 [xv 0, xv 1, xv 2, xv 3], xP 1 [xv 4, xv 0, ([(1, 1), (2, 1)], 0)], (.inl [[(-18446744073709551616, -1)]], [([(3, -1), (4, 1)], 0)])], 0, [xP 59 [xv 0, xv 1, ([(2, 1)], 1), xv 3]])
theorem r_notf_l_ok : ruOk r_notf_l := by
  intro ρ hl0 hp
  obtain ⟨z, t0, rfl, hl1⟩ := len_inv hl0
  obtain ⟨b, t1, rfl, hl2⟩ := len_inv hl1
  obtain ⟨i, t2, rfl, hl3⟩ := len_inv hl2
  obtain ⟨w, t3, rfl, hl4⟩ := len_inv hl3
  obtain ⟨x, t4, rfl, hl5⟩ := len_inv hl4
  have hl := List.eq_nil_of_length_eq_zero hl5
  subst hl
  have p1 := p_get3 (by decide) (fOk_hd hp)
  have p2 := p_get (fOk_hd (fOk_tl hp))
  have p3 := i_get (fOk_hd (fOk_tl (fOk_tl hp)))
  simp only [List.map, xv, fev, fvl, gtI, Int.one_mul, Int.add_zero, Int.zero_add, PR] at p1 p2 p3
  have q := k_notf_l (z := z) (b := b) (i := i) (w := w) (x := x) p1 p2 p3
  refine ⟨[], rfl, fOk_cons (p_put3 rfl (by decide) ?_) fOk_nil⟩ <;> simp only [List.map, xv, fev, fvl, gtI, Int.one_mul, Int.add_zero, Int.zero_add, List.append_nil]
  exact q
def r_notf_g : eRul := (5, [xP 59 [xv 0, xv 1, xv 2, xv 3], xP 1 [xv 4, xv 0, ([(1, 1), (2, 1)], 0)], (.inl [[(-18446744073709551616, -1)]], [([(3, 1), (4, -1)], 0)])], 0, [xP 59 [xv 0, xv 1, ([(2, 1)], 1), xv 3]])
theorem r_notf_g_ok : ruOk r_notf_g := by
  intro ρ hl0 hp
  obtain ⟨z, t0, rfl, hl1⟩ := len_inv hl0
  obtain ⟨b, t1, rfl, hl2⟩ := len_inv hl1
  obtain ⟨i, t2, rfl, hl3⟩ := len_inv hl2
  obtain ⟨w, t3, rfl, hl4⟩ := len_inv hl3
  obtain ⟨x, t4, rfl, hl5⟩ := len_inv hl4
  have hl := List.eq_nil_of_length_eq_zero hl5
  subst hl
  have p1 := p_get3 (by decide) (fOk_hd hp)
  have p2 := p_get (fOk_hd (fOk_tl hp))
  have p3 := i_get (fOk_hd (fOk_tl (fOk_tl hp)))
  simp only [List.map, xv, fev, fvl, gtI, Int.one_mul, Int.add_zero, Int.zero_add, PR] at p1 p2 p3
  have q := k_notf_g (z := z) (b := b) (i := i) (w := w) (x := x) p1 p2 p3
  refine ⟨[], rfl, fOk_cons (p_put3 rfl (by decide) ?_) fOk_nil⟩ <;> simp only [List.map, xv, fev, fvl, gtI, Int.one_mul, Int.add_zero, Int.zero_add, List.append_nil]
  exact q
def r_fnd_1 : eRul := (6, [xP 59 [xv 0, xv 1, xv 2, xv 3], xP 1 [xv 4, xv 0, ([(1, 1), (2, 1)], 0)], xG (([(3, -1), (4, 1)], 0)), xG (([(3, 1), (4, -1)], 0)), xG (([(2, 1), (5, -1)], 1)), xG (([(2, -1)], 0))], 0, [xP 61 [xv 0, xv 1, xv 5, xv 3, xv 2]])
theorem r_fnd_1_ok : ruOk r_fnd_1 := by
  intro ρ hl0 hp
  obtain ⟨z, t0, rfl, hl1⟩ := len_inv hl0
  obtain ⟨b, t1, rfl, hl2⟩ := len_inv hl1
  obtain ⟨i, t2, rfl, hl3⟩ := len_inv hl2
  obtain ⟨w, t3, rfl, hl4⟩ := len_inv hl3
  obtain ⟨x, t4, rfl, hl5⟩ := len_inv hl4
  obtain ⟨m, t5, rfl, hl6⟩ := len_inv hl5
  have hl := List.eq_nil_of_length_eq_zero hl6
  subst hl
  have p1 := p_get3 (by decide) (fOk_hd hp)
  have p2 := p_get (fOk_hd (fOk_tl hp))
  have p3 := gg_get (fOk_hd (fOk_tl (fOk_tl hp)))
  have p4 := gg_get (fOk_hd (fOk_tl (fOk_tl (fOk_tl hp))))
  have p5 := gg_get (fOk_hd (fOk_tl (fOk_tl (fOk_tl (fOk_tl hp)))))
  have p6 := gg_get (fOk_hd (fOk_tl (fOk_tl (fOk_tl (fOk_tl (fOk_tl hp))))))
  simp only [List.map, xv, fev, fvl, gtI, Int.one_mul, Int.add_zero, Int.zero_add, PR] at p1 p2 p3 p4 p5 p6
  have q := k_fnd_1 (z := z) (b := b) (i := i) (w := w) (x := x) (m := m) p1 p2 p3 p4 p5 p6
  refine ⟨[], rfl, fOk_cons (p_put3 rfl (by decide) ?_) fOk_nil⟩ <;> simp only [List.map, xv, fev, fvl, gtI, Int.one_mul, Int.add_zero, Int.zero_add, List.append_nil]
  exact q
def r_fnd_0 : eRul := (6, [xP 59 [xv 0, xv 1, xv 2, xv 3], xG (([(2, -1), (4, 1)], 0)), xG (([(4, -1)], 0)), (.inl [[(-1, -1)]], [xv 5])], 0, [xP 61 [xv 0, xv 1, xv 4, xv 3, xv 5]])
theorem r_fnd_0_ok : ruOk r_fnd_0 := by
  intro ρ hl0 hp
  obtain ⟨z, t0, rfl, hl1⟩ := len_inv hl0
  obtain ⟨b, t1, rfl, hl2⟩ := len_inv hl1
  obtain ⟨i, t2, rfl, hl3⟩ := len_inv hl2
  obtain ⟨w, t3, rfl, hl4⟩ := len_inv hl3
  obtain ⟨m, t4, rfl, hl5⟩ := len_inv hl4
  obtain ⟨r, t5, rfl, hl6⟩ := len_inv hl5
  have hl := List.eq_nil_of_length_eq_zero hl6
  subst hl
  have p1 := p_get3 (by decide) (fOk_hd hp)
  have p2 := gg_get (fOk_hd (fOk_tl hp))
  have p3 := gg_get (fOk_hd (fOk_tl (fOk_tl hp)))
  have p4 := i_get (fOk_hd (fOk_tl (fOk_tl (fOk_tl hp))))
  simp only [List.map, xv, fev, fvl, gtI, Int.one_mul, Int.add_zero, Int.zero_add] at p1 p2 p3 p4
  have q := k_fnd_0 (z := z) (b := b) (i := i) (w := w) (m := m) (r := r) p1 p2 p3 p4
  refine ⟨[], rfl, fOk_cons (p_put3 rfl (by decide) ?_) fOk_nil⟩ <;> simp only [List.map, xv, fev, fvl, gtI, Int.one_mul, Int.add_zero, Int.zero_add, List.append_nil]
  exact q
def r_knw : eRul := (4, [xP 1 [xv 0, xv 1, xv 2], xG (([(0, 1), (3, -1)], 0)), xG (([(0, -1), (3, 1)], 0)), xG (([(2, -1)], 0)), xG (([(2, 1)], -18))], 0, [xP 88 [xv 1, xv 3]])
theorem r_knw_ok : ruOk r_knw := by
  intro ρ hl0 hp
  obtain ⟨x, t0, rfl, hl1⟩ := len_inv hl0
  obtain ⟨z, t1, rfl, hl2⟩ := len_inv hl1
  obtain ⟨i, t2, rfl, hl3⟩ := len_inv hl2
  obtain ⟨w, t3, rfl, hl4⟩ := len_inv hl3
  have hl := List.eq_nil_of_length_eq_zero hl4
  subst hl
  have p1 := p_get (fOk_hd hp)
  have p2 := gg_get (fOk_hd (fOk_tl hp))
  have p3 := gg_get (fOk_hd (fOk_tl (fOk_tl hp)))
  have p4 := gg_get (fOk_hd (fOk_tl (fOk_tl (fOk_tl hp))))
  have p5 := gg_get (fOk_hd (fOk_tl (fOk_tl (fOk_tl (fOk_tl hp)))))
  simp only [List.map, xv, fev, fvl, gtI, Int.one_mul, Int.add_zero, Int.zero_add, PR] at p1 p2 p3 p4 p5
  have q := k_knw (x := x) (z := z) (i := i) (w := w) p1 p2 p3 p4 p5
  refine ⟨[], rfl, fOk_cons (p_put3 rfl (by decide) ?_) fOk_nil⟩ <;> simp only [List.map, xv, fev, fvl, gtI, Int.one_mul, Int.add_zero, Int.zero_add, List.append_nil]
  exact q
def r_bit0_0 : eRul := (4, [xP 45 [xv 0, xv 1, ([], 1)], (.inl [[(0, 0)]], [xv 0]), (.inl [[(0, 0)]], [xv 2]), (.inl [[(0, 15)]], [xv 1]), (.inl [[(0, 0)]], [xv 3])], 0, [xP 62 [xv 1, xv 2, xv 3]])
theorem r_bit0_0_ok : ruOk r_bit0_0 := by
  intro ρ hl0 hp
  obtain ⟨x, t0, rfl, hl1⟩ := len_inv hl0
  obtain ⟨t, t1, rfl, hl2⟩ := len_inv hl1
  obtain ⟨k, t2, rfl, hl3⟩ := len_inv hl2
  obtain ⟨r, t3, rfl, hl4⟩ := len_inv hl3
  have hl := List.eq_nil_of_length_eq_zero hl4
  subst hl
  have p1 := p_get3 (by decide) (fOk_hd hp)
  have p2 := i_get (fOk_hd (fOk_tl hp))
  have p3 := i_get (fOk_hd (fOk_tl (fOk_tl hp)))
  have p4 := i_get (fOk_hd (fOk_tl (fOk_tl (fOk_tl hp))))
  have p5 := i_get (fOk_hd (fOk_tl (fOk_tl (fOk_tl (fOk_tl hp)))))
  simp only [List.map, xv, fev, fvl, gtI, Int.one_mul, Int.add_zero, Int.zero_add] at p1 p2 p3 p4 p5
  have q := k_bit0_0 (x := x) (t := t) (k := k) (r := r) p1 p2 p3 p4 p5
  refine ⟨[], rfl, fOk_cons (p_put3 rfl (by decide) ?_) fOk_nil⟩ <;> simp only [List.map, xv, fev, fvl, gtI, Int.one_mul, Int.add_zero, Int.zero_add, List.append_nil]
  exact q
def r_bit1_0 : eRul := (4, [xP 45 [xv 0, xv 1, ([], 1)], (.inl [[(1, 15)]], [xv 0]), (.inl [[(0, 0)]], [xv 2]), (.inl [[(0, 15)]], [xv 1]), (.inl [[(1, 1)]], [xv 3])], 0, [xP 62 [xv 1, xv 2, xv 3]])
theorem r_bit1_0_ok : ruOk r_bit1_0 := by
  intro ρ hl0 hp
  obtain ⟨x, t0, rfl, hl1⟩ := len_inv hl0
  obtain ⟨t, t1, rfl, hl2⟩ := len_inv hl1
  obtain ⟨k, t2, rfl, hl3⟩ := len_inv hl2
  obtain ⟨r, t3, rfl, hl4⟩ := len_inv hl3
  have hl := List.eq_nil_of_length_eq_zero hl4
  subst hl
  have p1 := p_get3 (by decide) (fOk_hd hp)
  have p2 := i_get (fOk_hd (fOk_tl hp))
  have p3 := i_get (fOk_hd (fOk_tl (fOk_tl hp)))
  have p4 := i_get (fOk_hd (fOk_tl (fOk_tl (fOk_tl hp))))
  have p5 := i_get (fOk_hd (fOk_tl (fOk_tl (fOk_tl (fOk_tl hp)))))
  simp only [List.map, xv, fev, fvl, gtI, Int.one_mul, Int.add_zero, Int.zero_add] at p1 p2 p3 p4 p5
  have q := k_bit1_0 (x := x) (t := t) (k := k) (r := r) p1 p2 p3 p4 p5
  refine ⟨[], rfl, fOk_cons (p_put3 rfl (by decide) ?_) fOk_nil⟩ <;> simp only [List.map, xv, fev, fvl, gtI, Int.one_mul, Int.add_zero, Int.zero_add, List.append_nil]
  exact q
def r_setb_0 : eRul := (3, [xP 46 [xv 0, xv 1, ([], 1)], (.inl [[(0, 0)]], [xv 2]), (.inl [[(0, 15)]], [xv 1])], 0, [xP 63 [xv 0, xv 1, xv 2]])
theorem r_setb_0_ok : ruOk r_setb_0 := by
  intro ρ hl0 hp
  obtain ⟨y, t0, rfl, hl1⟩ := len_inv hl0
  obtain ⟨t, t1, rfl, hl2⟩ := len_inv hl1
  obtain ⟨k, t2, rfl, hl3⟩ := len_inv hl2
  have hl := List.eq_nil_of_length_eq_zero hl3
  subst hl
  have p1 := p_get3 (by decide) (fOk_hd hp)
  have p2 := i_get (fOk_hd (fOk_tl hp))
  have p3 := i_get (fOk_hd (fOk_tl (fOk_tl hp)))
  simp only [List.map, xv, fev, fvl, gtI, Int.one_mul, Int.add_zero, Int.zero_add] at p1 p2 p3
  have q := k_setb_0 (y := y) (t := t) (k := k) p1 p2 p3
  refine ⟨[], rfl, fOk_cons (p_put3 rfl (by decide) ?_) fOk_nil⟩ <;> simp only [List.map, xv, fev, fvl, gtI, Int.one_mul, Int.add_zero, Int.zero_add, List.append_nil]
  exact q
def r_bit0_1 : eRul := (4, [xP 45 [xv 0, xv 1, ([], 2)], (.inl [[(0, 0)]], [xv 0]), (.inl [[(1, 1)]], [xv 2]), (.inl [[(0, 15)]], [xv 1]), (.inl [[(0, 0)]], [xv 3])], 0, [xP 62 [xv 1, xv 2, xv 3]])
theorem r_bit0_1_ok : ruOk r_bit0_1 := by
  intro ρ hl0 hp
  obtain ⟨x, t0, rfl, hl1⟩ := len_inv hl0
  obtain ⟨t, t1, rfl, hl2⟩ := len_inv hl1
  obtain ⟨k, t2, rfl, hl3⟩ := len_inv hl2
  obtain ⟨r, t3, rfl, hl4⟩ := len_inv hl3
  have hl := List.eq_nil_of_length_eq_zero hl4
  subst hl
  have p1 := p_get3 (by decide) (fOk_hd hp)
  have p2 := i_get (fOk_hd (fOk_tl hp))
  have p3 := i_get (fOk_hd (fOk_tl (fOk_tl hp)))
  have p4 := i_get (fOk_hd (fOk_tl (fOk_tl (fOk_tl hp))))
  have p5 := i_get (fOk_hd (fOk_tl (fOk_tl (fOk_tl (fOk_tl hp)))))
  simp only [List.map, xv, fev, fvl, gtI, Int.one_mul, Int.add_zero, Int.zero_add] at p1 p2 p3 p4 p5
  have q := k_bit0_1 (x := x) (t := t) (k := k) (r := r) p1 p2 p3 p4 p5
  refine ⟨[], rfl, fOk_cons (p_put3 rfl (by decide) ?_) fOk_nil⟩ <;> simp only [List.map, xv, fev, fvl, gtI, Int.one_mul, Int.add_zero, Int.zero_add, List.append_nil]
  exact q
def r_bit1_1 : eRul := (4, [xP 45 [xv 0, xv 1, ([], 2)], (.inl [[(1, 15)]], [xv 0]), (.inl [[(1, 1)]], [xv 2]), (.inl [[(0, 15)]], [xv 1]), (.inl [[(1, 1)]], [xv 3])], 0, [xP 62 [xv 1, xv 2, xv 3]])
theorem r_bit1_1_ok : ruOk r_bit1_1 := by
  intro ρ hl0 hp
  obtain ⟨x, t0, rfl, hl1⟩ := len_inv hl0
  obtain ⟨t, t1, rfl, hl2⟩ := len_inv hl1
  obtain ⟨k, t2, rfl, hl3⟩ := len_inv hl2
  obtain ⟨r, t3, rfl, hl4⟩ := len_inv hl3
  have hl := List.eq_nil_of_length_eq_zero hl4
  subst hl
  have p1 := p_get3 (by decide) (fOk_hd hp)
  have p2 := i_get (fOk_hd (fOk_tl hp))
  have p3 := i_get (fOk_hd (fOk_tl (fOk_tl hp)))
  have p4 := i_get (fOk_hd (fOk_tl (fOk_tl (fOk_tl hp))))
  have p5 := i_get (fOk_hd (fOk_tl (fOk_tl (fOk_tl (fOk_tl hp)))))
  simp only [List.map, xv, fev, fvl, gtI, Int.one_mul, Int.add_zero, Int.zero_add] at p1 p2 p3 p4 p5
  have q := k_bit1_1 (x := x) (t := t) (k := k) (r := r) p1 p2 p3 p4 p5
  refine ⟨[], rfl, fOk_cons (p_put3 rfl (by decide) ?_) fOk_nil⟩ <;> simp only [List.map, xv, fev, fvl, gtI, Int.one_mul, Int.add_zero, Int.zero_add, List.append_nil]
  exact q
def r_setb_1 : eRul := (3, [xP 46 [xv 0, xv 1, ([], 2)], (.inl [[(1, 1)]], [xv 2]), (.inl [[(0, 15)]], [xv 1])], 0, [xP 63 [xv 0, xv 1, xv 2]])
theorem r_setb_1_ok : ruOk r_setb_1 := by
  intro ρ hl0 hp
  obtain ⟨y, t0, rfl, hl1⟩ := len_inv hl0
  obtain ⟨t, t1, rfl, hl2⟩ := len_inv hl1
  obtain ⟨k, t2, rfl, hl3⟩ := len_inv hl2
  have hl := List.eq_nil_of_length_eq_zero hl3
  subst hl
  have p1 := p_get3 (by decide) (fOk_hd hp)
  have p2 := i_get (fOk_hd (fOk_tl hp))
  have p3 := i_get (fOk_hd (fOk_tl (fOk_tl hp)))
  simp only [List.map, xv, fev, fvl, gtI, Int.one_mul, Int.add_zero, Int.zero_add] at p1 p2 p3
  have q := k_setb_1 (y := y) (t := t) (k := k) p1 p2 p3
  refine ⟨[], rfl, fOk_cons (p_put3 rfl (by decide) ?_) fOk_nil⟩ <;> simp only [List.map, xv, fev, fvl, gtI, Int.one_mul, Int.add_zero, Int.zero_add, List.append_nil]
  exact q
def r_bit0_2 : eRul := (4, [xP 45 [xv 0, xv 1, ([], 4)], (.inl [[(0, 0)]], [xv 0]), (.inl [[(2, 2)]], [xv 2]), (.inl [[(0, 15)]], [xv 1]), (.inl [[(0, 0)]], [xv 3])], 0, [xP 62 [xv 1, xv 2, xv 3]])
theorem r_bit0_2_ok : ruOk r_bit0_2 := by
  intro ρ hl0 hp
  obtain ⟨x, t0, rfl, hl1⟩ := len_inv hl0
  obtain ⟨t, t1, rfl, hl2⟩ := len_inv hl1
  obtain ⟨k, t2, rfl, hl3⟩ := len_inv hl2
  obtain ⟨r, t3, rfl, hl4⟩ := len_inv hl3
  have hl := List.eq_nil_of_length_eq_zero hl4
  subst hl
  have p1 := p_get3 (by decide) (fOk_hd hp)
  have p2 := i_get (fOk_hd (fOk_tl hp))
  have p3 := i_get (fOk_hd (fOk_tl (fOk_tl hp)))
  have p4 := i_get (fOk_hd (fOk_tl (fOk_tl (fOk_tl hp))))
  have p5 := i_get (fOk_hd (fOk_tl (fOk_tl (fOk_tl (fOk_tl hp)))))
  simp only [List.map, xv, fev, fvl, gtI, Int.one_mul, Int.add_zero, Int.zero_add] at p1 p2 p3 p4 p5
  have q := k_bit0_2 (x := x) (t := t) (k := k) (r := r) p1 p2 p3 p4 p5
  refine ⟨[], rfl, fOk_cons (p_put3 rfl (by decide) ?_) fOk_nil⟩ <;> simp only [List.map, xv, fev, fvl, gtI, Int.one_mul, Int.add_zero, Int.zero_add, List.append_nil]
  exact q
def r_bit1_2 : eRul := (4, [xP 45 [xv 0, xv 1, ([], 4)], (.inl [[(1, 15)]], [xv 0]), (.inl [[(2, 2)]], [xv 2]), (.inl [[(0, 15)]], [xv 1]), (.inl [[(1, 1)]], [xv 3])], 0, [xP 62 [xv 1, xv 2, xv 3]])
theorem r_bit1_2_ok : ruOk r_bit1_2 := by
  intro ρ hl0 hp
  obtain ⟨x, t0, rfl, hl1⟩ := len_inv hl0
  obtain ⟨t, t1, rfl, hl2⟩ := len_inv hl1
  obtain ⟨k, t2, rfl, hl3⟩ := len_inv hl2
  obtain ⟨r, t3, rfl, hl4⟩ := len_inv hl3
  have hl := List.eq_nil_of_length_eq_zero hl4
  subst hl
  have p1 := p_get3 (by decide) (fOk_hd hp)
  have p2 := i_get (fOk_hd (fOk_tl hp))
  have p3 := i_get (fOk_hd (fOk_tl (fOk_tl hp)))
  have p4 := i_get (fOk_hd (fOk_tl (fOk_tl (fOk_tl hp))))
  have p5 := i_get (fOk_hd (fOk_tl (fOk_tl (fOk_tl (fOk_tl hp)))))
  simp only [List.map, xv, fev, fvl, gtI, Int.one_mul, Int.add_zero, Int.zero_add] at p1 p2 p3 p4 p5
  have q := k_bit1_2 (x := x) (t := t) (k := k) (r := r) p1 p2 p3 p4 p5
  refine ⟨[], rfl, fOk_cons (p_put3 rfl (by decide) ?_) fOk_nil⟩ <;> simp only [List.map, xv, fev, fvl, gtI, Int.one_mul, Int.add_zero, Int.zero_add, List.append_nil]
  exact q
def r_setb_2 : eRul := (3, [xP 46 [xv 0, xv 1, ([], 4)], (.inl [[(2, 2)]], [xv 2]), (.inl [[(0, 15)]], [xv 1])], 0, [xP 63 [xv 0, xv 1, xv 2]])
theorem r_setb_2_ok : ruOk r_setb_2 := by
  intro ρ hl0 hp
  obtain ⟨y, t0, rfl, hl1⟩ := len_inv hl0
  obtain ⟨t, t1, rfl, hl2⟩ := len_inv hl1
  obtain ⟨k, t2, rfl, hl3⟩ := len_inv hl2
  have hl := List.eq_nil_of_length_eq_zero hl3
  subst hl
  have p1 := p_get3 (by decide) (fOk_hd hp)
  have p2 := i_get (fOk_hd (fOk_tl hp))
  have p3 := i_get (fOk_hd (fOk_tl (fOk_tl hp)))
  simp only [List.map, xv, fev, fvl, gtI, Int.one_mul, Int.add_zero, Int.zero_add] at p1 p2 p3
  have q := k_setb_2 (y := y) (t := t) (k := k) p1 p2 p3
  refine ⟨[], rfl, fOk_cons (p_put3 rfl (by decide) ?_) fOk_nil⟩ <;> simp only [List.map, xv, fev, fvl, gtI, Int.one_mul, Int.add_zero, Int.zero_add, List.append_nil]
  exact q
def r_bit0_3 : eRul := (4, [xP 45 [xv 0, xv 1, ([], 8)], (.inl [[(0, 0)]], [xv 0]), (.inl [[(3, 3)]], [xv 2]), (.inl [[(0, 15)]], [xv 1]), (.inl [[(0, 0)]], [xv 3])], 0, [xP 62 [xv 1, xv 2, xv 3]])
theorem r_bit0_3_ok : ruOk r_bit0_3 := by
  intro ρ hl0 hp
  obtain ⟨x, t0, rfl, hl1⟩ := len_inv hl0
  obtain ⟨t, t1, rfl, hl2⟩ := len_inv hl1
  obtain ⟨k, t2, rfl, hl3⟩ := len_inv hl2
  obtain ⟨r, t3, rfl, hl4⟩ := len_inv hl3
  have hl := List.eq_nil_of_length_eq_zero hl4
  subst hl
  have p1 := p_get3 (by decide) (fOk_hd hp)
  have p2 := i_get (fOk_hd (fOk_tl hp))
  have p3 := i_get (fOk_hd (fOk_tl (fOk_tl hp)))
  have p4 := i_get (fOk_hd (fOk_tl (fOk_tl (fOk_tl hp))))
  have p5 := i_get (fOk_hd (fOk_tl (fOk_tl (fOk_tl (fOk_tl hp)))))
  simp only [List.map, xv, fev, fvl, gtI, Int.one_mul, Int.add_zero, Int.zero_add] at p1 p2 p3 p4 p5
  have q := k_bit0_3 (x := x) (t := t) (k := k) (r := r) p1 p2 p3 p4 p5
  refine ⟨[], rfl, fOk_cons (p_put3 rfl (by decide) ?_) fOk_nil⟩ <;> simp only [List.map, xv, fev, fvl, gtI, Int.one_mul, Int.add_zero, Int.zero_add, List.append_nil]
  exact q
def r_bit1_3 : eRul := (4, [xP 45 [xv 0, xv 1, ([], 8)], (.inl [[(1, 15)]], [xv 0]), (.inl [[(3, 3)]], [xv 2]), (.inl [[(0, 15)]], [xv 1]), (.inl [[(1, 1)]], [xv 3])], 0, [xP 62 [xv 1, xv 2, xv 3]])
theorem r_bit1_3_ok : ruOk r_bit1_3 := by
  intro ρ hl0 hp
  obtain ⟨x, t0, rfl, hl1⟩ := len_inv hl0
  obtain ⟨t, t1, rfl, hl2⟩ := len_inv hl1
  obtain ⟨k, t2, rfl, hl3⟩ := len_inv hl2
  obtain ⟨r, t3, rfl, hl4⟩ := len_inv hl3
  have hl := List.eq_nil_of_length_eq_zero hl4
  subst hl
  have p1 := p_get3 (by decide) (fOk_hd hp)
  have p2 := i_get (fOk_hd (fOk_tl hp))
  have p3 := i_get (fOk_hd (fOk_tl (fOk_tl hp)))
  have p4 := i_get (fOk_hd (fOk_tl (fOk_tl (fOk_tl hp))))
  have p5 := i_get (fOk_hd (fOk_tl (fOk_tl (fOk_tl (fOk_tl hp)))))
  simp only [List.map, xv, fev, fvl, gtI, Int.one_mul, Int.add_zero, Int.zero_add] at p1 p2 p3 p4 p5
  have q := k_bit1_3 (x := x) (t := t) (k := k) (r := r) p1 p2 p3 p4 p5
  refine ⟨[], rfl, fOk_cons (p_put3 rfl (by decide) ?_) fOk_nil⟩ <;> simp only [List.map, xv, fev, fvl, gtI, Int.one_mul, Int.add_zero, Int.zero_add, List.append_nil]
  exact q
def r_setb_3 : eRul := (3, [xP 46 [xv 0, xv 1, ([], 8)], (.inl [[(3, 3)]], [xv 2]), (.inl [[(0, 15)]], [xv 1])], 0, [xP 63 [xv 0, xv 1, xv 2]])
theorem r_setb_3_ok : ruOk r_setb_3 := by
  intro ρ hl0 hp
  obtain ⟨y, t0, rfl, hl1⟩ := len_inv hl0
  obtain ⟨t, t1, rfl, hl2⟩ := len_inv hl1
  obtain ⟨k, t2, rfl, hl3⟩ := len_inv hl2
  have hl := List.eq_nil_of_length_eq_zero hl3
  subst hl
  have p1 := p_get3 (by decide) (fOk_hd hp)
  have p2 := i_get (fOk_hd (fOk_tl hp))
  have p3 := i_get (fOk_hd (fOk_tl (fOk_tl hp)))
  simp only [List.map, xv, fev, fvl, gtI, Int.one_mul, Int.add_zero, Int.zero_add] at p1 p2 p3
  have q := k_setb_3 (y := y) (t := t) (k := k) p1 p2 p3
  refine ⟨[], rfl, fOk_cons (p_put3 rfl (by decide) ?_) fOk_nil⟩ <;> simp only [List.map, xv, fev, fvl, gtI, Int.one_mul, Int.add_zero, Int.zero_add, List.append_nil]
  exact q
def r_bit_sh : eRul := (5, [xP 49 [xv 0, xv 1, xv 2], xP 45 [xv 3, xv 0, ([], 1)], (.inl [[(0, 5)]], [xv 2]), (.inl [[(0, 63)]], [xv 1]), xG (([(3, -1), (4, 1)], 0)), xG (([(3, 1), (4, -1)], 0))], 0, [xP 62 [xv 1, xv 2, xv 4]])
theorem r_bit_sh_ok : ruOk r_bit_sh := by
  intro ρ hl0 hp
  obtain ⟨y, t0, rfl, hl1⟩ := len_inv hl0
  obtain ⟨t, t1, rfl, hl2⟩ := len_inv hl1
  obtain ⟨k, t2, rfl, hl3⟩ := len_inv hl2
  obtain ⟨x, t3, rfl, hl4⟩ := len_inv hl3
  obtain ⟨r, t4, rfl, hl5⟩ := len_inv hl4
  have hl := List.eq_nil_of_length_eq_zero hl5
  subst hl
  have p1 := p_get3 (by decide) (fOk_hd hp)
  have p2 := p_get3 (by decide) (fOk_hd (fOk_tl hp))
  have p3 := i_get (fOk_hd (fOk_tl (fOk_tl hp)))
  have p4 := i_get (fOk_hd (fOk_tl (fOk_tl (fOk_tl hp))))
  have p5 := gg_get (fOk_hd (fOk_tl (fOk_tl (fOk_tl (fOk_tl hp)))))
  have p6 := gg_get (fOk_hd (fOk_tl (fOk_tl (fOk_tl (fOk_tl (fOk_tl hp))))))
  simp only [List.map, xv, fev, fvl, gtI, Int.one_mul, Int.add_zero, Int.zero_add] at p1 p2 p3 p4 p5 p6
  have q := k_bit_sh (y := y) (t := t) (k := k) (x := x) (r := r) p1 p2 p3 p4 p5 p6
  refine ⟨[], rfl, fOk_cons (p_put3 rfl (by decide) ?_) fOk_nil⟩ <;> simp only [List.map, xv, fev, fvl, gtI, Int.one_mul, Int.add_zero, Int.zero_add, List.append_nil]
  exact q
def r_bit_rg : eRul := (3, [xP 62 [xv 0, xv 1, xv 2]], 0, [(.inl [[(0, 1)]], [xv 2])])
theorem r_bit_rg_ok : ruOk r_bit_rg := by
  intro ρ hl0 hp
  obtain ⟨t, t0, rfl, hl1⟩ := len_inv hl0
  obtain ⟨k, t1, rfl, hl2⟩ := len_inv hl1
  obtain ⟨r, t2, rfl, hl3⟩ := len_inv hl2
  have hl := List.eq_nil_of_length_eq_zero hl3
  subst hl
  have p1 := p_get3 (by decide) (fOk_hd hp)
  simp only [List.map, xv, fev, fvl, gtI, Int.one_mul, Int.add_zero, Int.zero_add] at p1
  have q := k_bit_rg (t := t) (k := k) (r := r) p1
  refine ⟨[], rfl, fOk_cons (i_put rfl ?_ ?_) fOk_nil⟩ <;> simp only [List.map, xv, fev, fvl, gtI, Int.one_mul, Int.add_zero, Int.zero_add, List.append_nil]
  · exact q.1
  · exact q.2
def r_setb_sh : eRul := (4, [xP 48 [xv 0, ([], 1), xv 1], xP 46 [xv 2, xv 3, xv 0], (.inl [[(0, 5)]], [xv 1]), (.inl [[(0, 63)]], [xv 3])], 0, [xP 63 [xv 2, xv 3, xv 1]])
theorem r_setb_sh_ok : ruOk r_setb_sh := by
  intro ρ hl0 hp
  obtain ⟨m, t0, rfl, hl1⟩ := len_inv hl0
  obtain ⟨k, t1, rfl, hl2⟩ := len_inv hl1
  obtain ⟨y, t2, rfl, hl3⟩ := len_inv hl2
  obtain ⟨t, t3, rfl, hl4⟩ := len_inv hl3
  have hl := List.eq_nil_of_length_eq_zero hl4
  subst hl
  have p1 := p_get3 (by decide) (fOk_hd hp)
  have p2 := p_get3 (by decide) (fOk_hd (fOk_tl hp))
  have p3 := i_get (fOk_hd (fOk_tl (fOk_tl hp)))
  have p4 := i_get (fOk_hd (fOk_tl (fOk_tl (fOk_tl hp))))
  simp only [List.map, xv, fev, fvl, gtI, Int.one_mul, Int.add_zero, Int.zero_add] at p1 p2 p3 p4
  have q := k_setb_sh (m := m) (k := k) (y := y) (t := t) p1 p2 p3 p4
  refine ⟨[], rfl, fOk_cons (p_put3 rfl (by decide) ?_) fOk_nil⟩ <;> simp only [List.map, xv, fev, fvl, gtI, Int.one_mul, Int.add_zero, Int.zero_add, List.append_nil]
  exact q
def r_setb_rg : eRul := (3, [xP 63 [xv 0, xv 1, xv 2], (.inl [[(0, 63)]], [xv 1]), (.inl [[(0, 5)]], [xv 2]), (.inl [[(-2147483648, 2147483647)]], [xv 0])], 0, [(.inl [[(0, 63)]], [xv 0])])
theorem r_setb_rg_ok : ruOk r_setb_rg := by
  intro ρ hl0 hp
  obtain ⟨y, t0, rfl, hl1⟩ := len_inv hl0
  obtain ⟨t, t1, rfl, hl2⟩ := len_inv hl1
  obtain ⟨k, t2, rfl, hl3⟩ := len_inv hl2
  have hl := List.eq_nil_of_length_eq_zero hl3
  subst hl
  have p1 := p_get3 (by decide) (fOk_hd hp)
  have p2 := i_get (fOk_hd (fOk_tl hp))
  have p3 := i_get (fOk_hd (fOk_tl (fOk_tl hp)))
  have p4 := i_get (fOk_hd (fOk_tl (fOk_tl (fOk_tl hp))))
  simp only [List.map, xv, fev, fvl, gtI, Int.one_mul, Int.add_zero, Int.zero_add] at p1 p2 p3 p4
  have q := k_setb_rg (y := y) (t := t) (k := k) p1 p2 p3 p4
  refine ⟨[], rfl, fOk_cons (i_put rfl ?_ ?_) fOk_nil⟩ <;> simp only [List.map, xv, fev, fvl, gtI, Int.one_mul, Int.add_zero, Int.zero_add, List.append_nil]
  · exact q.1
  · exact q.2
def r_nslp_0 : eRul := (3, [xG (([(0, -1)], 0))], 0, [xP 81 [xv 1, xv 0, ([], 0), xv 2]])
theorem r_nslp_0_ok : ruOk r_nslp_0 := by
  intro ρ hl0 hp
  obtain ⟨b, t0, rfl, hl1⟩ := len_inv hl0
  obtain ⟨z, t1, rfl, hl2⟩ := len_inv hl1
  obtain ⟨r, t2, rfl, hl3⟩ := len_inv hl2
  have hl := List.eq_nil_of_length_eq_zero hl3
  subst hl
  have p1 := gg_get (fOk_hd hp)
  simp only [List.map, xv, fev, fvl, gtI, Int.one_mul, Int.add_zero, Int.zero_add] at p1
  have q := k_nslp_0 (b := b) (z := z) (r := r) p1
  refine ⟨[], rfl, fOk_cons (p_put3 rfl (by decide) ?_) fOk_nil⟩ <;> simp only [List.map, xv, fev, fvl, gtI, Int.one_mul, Int.add_zero, Int.zero_add, List.append_nil]
  exact q
def r_nslp_l : eRul := (5, [xP 81 [xv 0, xv 1, xv 2, xv 3], xP 1 [xv 4, xv 0, ([(1, 1), (2, 1)], 0)], (.inl [[(-4294967296, -1)]], [([(3, -1), (4, 1)], 0)])], 0, [xP 81 [xv 0, xv 1, ([(2, 1)], 1), xv 3]])
theorem r_nslp_l_ok : ruOk r_nslp_l := by
  intro ρ hl0 hp
  obtain ⟨z, t0, rfl, hl1⟩ := len_inv hl0
  obtain ⟨b, t1, rfl, hl2⟩ := len_inv hl1
  obtain ⟨i, t2, rfl, hl3⟩ := len_inv hl2
  obtain ⟨r, t3, rfl, hl4⟩ := len_inv hl3
  obtain ⟨x, t4, rfl, hl5⟩ := len_inv hl4
  have hl := List.eq_nil_of_length_eq_zero hl5
  subst hl
  have p1 := p_get3 (by decide) (fOk_hd hp)
  have p2 := p_get (fOk_hd (fOk_tl hp))
  have p3 := i_get (fOk_hd (fOk_tl (fOk_tl hp)))
  simp only [List.map, xv, fev, fvl, gtI, Int.one_mul, Int.add_zero, Int.zero_add, PR] at p1 p2 p3
  have q := k_nslp_l (z := z) (b := b) (i := i) (r := r) (x := x) p1 p2 p3
  refine ⟨[], rfl, fOk_cons (p_put3 rfl (by decide) ?_) fOk_nil⟩ <;> simp only [List.map, xv, fev, fvl, gtI, Int.one_mul, Int.add_zero, Int.zero_add, List.append_nil]
  exact q
def r_nslp_g : eRul := (5, [xP 81 [xv 0, xv 1, xv 2, xv 3], xP 1 [xv 4, xv 0, ([(1, 1), (2, 1)], 0)], (.inl [[(-4294967296, -1)]], [([(3, 1), (4, -1)], 0)])], 0, [xP 81 [xv 0, xv 1, ([(2, 1)], 1), xv 3]])
theorem r_nslp_g_ok : ruOk r_nslp_g := by
  intro ρ hl0 hp
  obtain ⟨z, t0, rfl, hl1⟩ := len_inv hl0
  obtain ⟨b, t1, rfl, hl2⟩ := len_inv hl1
  obtain ⟨i, t2, rfl, hl3⟩ := len_inv hl2
  obtain ⟨r, t3, rfl, hl4⟩ := len_inv hl3
  obtain ⟨x, t4, rfl, hl5⟩ := len_inv hl4
  have hl := List.eq_nil_of_length_eq_zero hl5
  subst hl
  have p1 := p_get3 (by decide) (fOk_hd hp)
  have p2 := p_get (fOk_hd (fOk_tl hp))
  have p3 := i_get (fOk_hd (fOk_tl (fOk_tl hp)))
  simp only [List.map, xv, fev, fvl, gtI, Int.one_mul, Int.add_zero, Int.zero_add, PR] at p1 p2 p3
  have q := k_nslp_g (z := z) (b := b) (i := i) (r := r) (x := x) p1 p2 p3
  refine ⟨[], rfl, fOk_cons (p_put3 rfl (by decide) ?_) fOk_nil⟩ <;> simp only [List.map, xv, fev, fvl, gtI, Int.one_mul, Int.add_zero, Int.zero_add, List.append_nil]
  exact q
def r_slp_1 : eRul := (7, [xP 1 [xv 0, xv 1, ([(2, 1), (3, 1)], 0)], xG (([(0, 1), (4, -1)], 0)), xG (([(0, -1), (4, 1)], 0)), xG (([(3, -1)], 0)), xG (([(2, -1)], 0)), xG (([(3, 1), (5, -1)], 1)), (.inl [[(1, 1)]], [xv 6])], 0, [xP 80 [xv 1, xv 2, xv 5, xv 4, xv 6]])
theorem r_slp_1_ok : ruOk r_slp_1 := by
  intro ρ hl0 hp
  obtain ⟨x, t0, rfl, hl1⟩ := len_inv hl0
  obtain ⟨z, t1, rfl, hl2⟩ := len_inv hl1
  obtain ⟨b, t2, rfl, hl3⟩ := len_inv hl2
  obtain ⟨i, t3, rfl, hl4⟩ := len_inv hl3
  obtain ⟨r, t4, rfl, hl5⟩ := len_inv hl4
  obtain ⟨m, t5, rfl, hl6⟩ := len_inv hl5
  obtain ⟨o, t6, rfl, hl7⟩ := len_inv hl6
  have hl := List.eq_nil_of_length_eq_zero hl7
  subst hl
  have p1 := p_get (fOk_hd hp)
  have p2 := gg_get (fOk_hd (fOk_tl hp))
  have p3 := gg_get (fOk_hd (fOk_tl (fOk_tl hp)))
  have p4 := gg_get (fOk_hd (fOk_tl (fOk_tl (fOk_tl hp))))
  have p5 := gg_get (fOk_hd (fOk_tl (fOk_tl (fOk_tl (fOk_tl hp)))))
  have p6 := gg_get (fOk_hd (fOk_tl (fOk_tl (fOk_tl (fOk_tl (fOk_tl hp))))))
  have p7 := i_get (fOk_hd (fOk_tl (fOk_tl (fOk_tl (fOk_tl (fOk_tl (fOk_tl hp)))))))
  simp only [List.map, xv, fev, fvl, gtI, Int.one_mul, Int.add_zero, Int.zero_add, PR] at p1 p2 p3 p4 p5 p6 p7
  have q := k_slp_1 (x := x) (z := z) (b := b) (i := i) (r := r) (m := m) (o := o) p1 p2 p3 p4 p5 p6 p7
  refine ⟨[], rfl, fOk_cons (p_put3 rfl (by decide) ?_) fOk_nil⟩ <;> simp only [List.map, xv, fev, fvl, gtI, Int.one_mul, Int.add_zero, Int.zero_add, List.append_nil]
  exact q
def r_slp_0 : eRul := (6, [xP 81 [xv 0, xv 1, xv 2, xv 3], xG (([(2, -1), (4, 1)], 0)), (.inl [[(0, 0)]], [xv 5])], 0, [xP 80 [xv 0, xv 1, xv 4, xv 3, xv 5]])
theorem r_slp_0_ok : ruOk r_slp_0 := by
  intro ρ hl0 hp
  obtain ⟨z, t0, rfl, hl1⟩ := len_inv hl0
  obtain ⟨b, t1, rfl, hl2⟩ := len_inv hl1
  obtain ⟨i, t2, rfl, hl3⟩ := len_inv hl2
  obtain ⟨r, t3, rfl, hl4⟩ := len_inv hl3
  obtain ⟨m, t4, rfl, hl5⟩ := len_inv hl4
  obtain ⟨o, t5, rfl, hl6⟩ := len_inv hl5
  have hl := List.eq_nil_of_length_eq_zero hl6
  subst hl
  have p1 := p_get3 (by decide) (fOk_hd hp)
  have p2 := gg_get (fOk_hd (fOk_tl hp))
  have p3 := i_get (fOk_hd (fOk_tl (fOk_tl hp)))
  simp only [List.map, xv, fev, fvl, gtI, Int.one_mul, Int.add_zero, Int.zero_add] at p1 p2 p3
  have q := k_slp_0 (z := z) (b := b) (i := i) (r := r) (m := m) (o := o) p1 p2 p3
  refine ⟨[], rfl, fOk_cons (p_put3 rfl (by decide) ?_) fOk_nil⟩ <;> simp only [List.map, xv, fev, fvl, gtI, Int.one_mul, Int.add_zero, Int.zero_add, List.append_nil]
  exact q
def r_tape_0 : eRul := (3, [xG (xv 0)], 0, [xP 71 [xv 1, xv 2, xv 0]])
theorem r_tape_0_ok : ruOk r_tape_0 := by
  intro ρ hl0 hp
  obtain ⟨n, t0, rfl, hl1⟩ := len_inv hl0
  obtain ⟨c, t1, rfl, hl2⟩ := len_inv hl1
  obtain ⟨r, t2, rfl, hl3⟩ := len_inv hl2
  have hl := List.eq_nil_of_length_eq_zero hl3
  subst hl
  have p1 := gg_get (fOk_hd hp)
  simp only [List.map, xv, fev, fvl, gtI, Int.one_mul, Int.add_zero, Int.zero_add] at p1
  have q := k_tape_0 (n := n) (c := c) (r := r) p1
  refine ⟨[], rfl, fOk_cons (p_put3 rfl (by decide) ?_) fOk_nil⟩ <;> simp only [List.map, xv, fev, fvl, gtI, Int.one_mul, Int.add_zero, Int.zero_add, List.append_nil]
  exact q
def r_tape_le : eRul := (4, [xP 71 [xv 0, xv 1, xv 2], xG (([(2, -1), (3, 1)], 0))], 0, [xP 71 [xv 0, xv 1, xv 3]])
theorem r_tape_le_ok : ruOk r_tape_le := by
  intro ρ hl0 hp
  obtain ⟨c, t0, rfl, hl1⟩ := len_inv hl0
  obtain ⟨r, t1, rfl, hl2⟩ := len_inv hl1
  obtain ⟨n, t2, rfl, hl3⟩ := len_inv hl2
  obtain ⟨m, t3, rfl, hl4⟩ := len_inv hl3
  have hl := List.eq_nil_of_length_eq_zero hl4
  subst hl
  have p1 := p_get3 (by decide) (fOk_hd hp)
  have p2 := gg_get (fOk_hd (fOk_tl hp))
  simp only [List.map, xv, fev, fvl, gtI, Int.one_mul, Int.add_zero, Int.zero_add] at p1 p2
  have q := k_tape_le (c := c) (r := r) (n := n) (m := m) p1 p2
  refine ⟨[], rfl, fOk_cons (p_put3 rfl (by decide) ?_) fOk_nil⟩ <;> simp only [List.map, xv, fev, fvl, gtI, Int.one_mul, Int.add_zero, Int.zero_add, List.append_nil]
  exact q
def r_add_c : eRul := (15, [xP 2 [xv 0, xv 1, xv 2, xv 3], xP 52 [xv 3, xv 4], xP 50 [xv 4, xv 5, ([], 24)], xP 2 [xv 6, xv 0, ([(2, 1)], 1), xv 7], xP 52 [xv 7, xv 8], xP 50 [xv 8, xv 5, ([], 16)], xP 2 [xv 9, xv 6, ([(2, 1)], 2), xv 10], xP 52 [xv 10, xv 11], xP 50 [xv 11, xv 5, ([], 8)], xP 2 [xv 12, xv 9, ([(2, 1)], 3), xv 13], xP 52 [xv 13, xv 14], xP 50 [xv 14, xv 5, ([], 0)], xG (([(2, -1)], 0)), xG (([(2, 1)], -940))], 0, [xP 72 [xv 12, xv 1, xv 2, xv 5]])
theorem r_add_c_ok : ruOk r_add_c := by
  intro ρ hl0 hp
  obtain ⟨z1, t0, rfl, hl1⟩ := len_inv hl0
  obtain ⟨z, t1, rfl, hl2⟩ := len_inv hl1
  obtain ⟨n, t2, rfl, hl3⟩ := len_inv hl2
  obtain ⟨v0, t3, rfl, hl4⟩ := len_inv hl3
  obtain ⟨y0, t4, rfl, hl5⟩ := len_inv hl4
  obtain ⟨x, t5, rfl, hl6⟩ := len_inv hl5
  obtain ⟨z2, t6, rfl, hl7⟩ := len_inv hl6
  obtain ⟨v1, t7, rfl, hl8⟩ := len_inv hl7
  obtain ⟨y1, t8, rfl, hl9⟩ := len_inv hl8
  obtain ⟨z3, t9, rfl, hl10⟩ := len_inv hl9
  obtain ⟨v2, t10, rfl, hl11⟩ := len_inv hl10
  obtain ⟨y2, t11, rfl, hl12⟩ := len_inv hl11
  obtain ⟨z4, t12, rfl, hl13⟩ := len_inv hl12
  obtain ⟨v3, t13, rfl, hl14⟩ := len_inv hl13
  obtain ⟨y3, t14, rfl, hl15⟩ := len_inv hl14
  have hl := List.eq_nil_of_length_eq_zero hl15
  subst hl
  have p1 := p_get (fOk_hd hp)
  have p2 := p_get3 (by decide) (fOk_hd (fOk_tl hp))
  have p3 := p_get3 (by decide) (fOk_hd (fOk_tl (fOk_tl hp)))
  have p4 := p_get (fOk_hd (fOk_tl (fOk_tl (fOk_tl hp))))
  have p5 := p_get3 (by decide) (fOk_hd (fOk_tl (fOk_tl (fOk_tl (fOk_tl hp)))))
  have p6 := p_get3 (by decide) (fOk_hd (fOk_tl (fOk_tl (fOk_tl (fOk_tl (fOk_tl hp))))))
  have p7 := p_get (fOk_hd (fOk_tl (fOk_tl (fOk_tl (fOk_tl (fOk_tl (fOk_tl hp)))))))
  have p8 := p_get3 (by decide) (fOk_hd (fOk_tl (fOk_tl (fOk_tl (fOk_tl (fOk_tl (fOk_tl (fOk_tl hp))))))))
  have p9 := p_get3 (by decide) (fOk_hd (fOk_tl (fOk_tl (fOk_tl (fOk_tl (fOk_tl (fOk_tl (fOk_tl (fOk_tl hp)))))))))
  have p10 := p_get (fOk_hd (fOk_tl (fOk_tl (fOk_tl (fOk_tl (fOk_tl (fOk_tl (fOk_tl (fOk_tl (fOk_tl hp))))))))))
  have p11 := p_get3 (by decide) (fOk_hd (fOk_tl (fOk_tl (fOk_tl (fOk_tl (fOk_tl (fOk_tl (fOk_tl (fOk_tl (fOk_tl (fOk_tl hp)))))))))))
  have p12 := p_get3 (by decide) (fOk_hd (fOk_tl (fOk_tl (fOk_tl (fOk_tl (fOk_tl (fOk_tl (fOk_tl (fOk_tl (fOk_tl (fOk_tl (fOk_tl hp))))))))))))
  have p13 := gg_get (fOk_hd (fOk_tl (fOk_tl (fOk_tl (fOk_tl (fOk_tl (fOk_tl (fOk_tl (fOk_tl (fOk_tl (fOk_tl (fOk_tl (fOk_tl hp)))))))))))))
  have p14 := gg_get (fOk_hd (fOk_tl (fOk_tl (fOk_tl (fOk_tl (fOk_tl (fOk_tl (fOk_tl (fOk_tl (fOk_tl (fOk_tl (fOk_tl (fOk_tl (fOk_tl hp))))))))))))))
  simp only [List.map, xv, fev, fvl, gtI, Int.one_mul, Int.add_zero, Int.zero_add, PR] at p1 p2 p3 p4 p5 p6 p7 p8 p9 p10 p11 p12 p13 p14
  have q := k_add_c (z1 := z1) (z := z) (n := n) (v0 := v0) (y0 := y0) (x := x) (z2 := z2) (v1 := v1) (y1 := y1) (z3 := z3) (v2 := v2) (y2 := y2) (z4 := z4) (v3 := v3) (y3 := y3) p1 p2 p3 p4 p5 p6 p7 p8 p9 p10 p11 p12 p13 p14
  refine ⟨[], rfl, fOk_cons (p_put3 rfl (by decide) ?_) fOk_nil⟩ <;> simp only [List.map, xv, fev, fvl, gtI, Int.one_mul, Int.add_zero, Int.zero_add, List.append_nil]
  exact q
def r_add_r : eRul := (15, [xP 2 [xv 0, xv 1, xv 2, xv 3], xP 45 [xv 3, xv 4, ([], 255)], xP 50 [xv 4, xv 5, ([], 24)], xP 2 [xv 6, xv 0, ([(2, 1)], 1), xv 7], xP 45 [xv 7, xv 8, ([], 255)], xP 50 [xv 8, xv 5, ([], 16)], xP 2 [xv 9, xv 6, ([(2, 1)], 2), xv 10], xP 45 [xv 10, xv 11, ([], 255)], xP 50 [xv 11, xv 5, ([], 8)], xP 2 [xv 12, xv 9, ([(2, 1)], 3), xv 13], xP 45 [xv 13, xv 14, ([], 255)], xP 50 [xv 14, xv 5, ([], 0)], xG (([(2, -1)], 0)), xG (([(2, 1)], -940))], 0, [xP 73 [xv 12, xv 1, xv 2, xv 5]])
theorem r_add_r_ok : ruOk r_add_r := by
  intro ρ hl0 hp
  obtain ⟨z1, t0, rfl, hl1⟩ := len_inv hl0
  obtain ⟨z, t1, rfl, hl2⟩ := len_inv hl1
  obtain ⟨n, t2, rfl, hl3⟩ := len_inv hl2
  obtain ⟨v0, t3, rfl, hl4⟩ := len_inv hl3
  obtain ⟨y0, t4, rfl, hl5⟩ := len_inv hl4
  obtain ⟨x, t5, rfl, hl6⟩ := len_inv hl5
  obtain ⟨z2, t6, rfl, hl7⟩ := len_inv hl6
  obtain ⟨v1, t7, rfl, hl8⟩ := len_inv hl7
  obtain ⟨y1, t8, rfl, hl9⟩ := len_inv hl8
  obtain ⟨z3, t9, rfl, hl10⟩ := len_inv hl9
  obtain ⟨v2, t10, rfl, hl11⟩ := len_inv hl10
  obtain ⟨y2, t11, rfl, hl12⟩ := len_inv hl11
  obtain ⟨z4, t12, rfl, hl13⟩ := len_inv hl12
  obtain ⟨v3, t13, rfl, hl14⟩ := len_inv hl13
  obtain ⟨y3, t14, rfl, hl15⟩ := len_inv hl14
  have hl := List.eq_nil_of_length_eq_zero hl15
  subst hl
  have p1 := p_get (fOk_hd hp)
  have p2 := p_get3 (by decide) (fOk_hd (fOk_tl hp))
  have p3 := p_get3 (by decide) (fOk_hd (fOk_tl (fOk_tl hp)))
  have p4 := p_get (fOk_hd (fOk_tl (fOk_tl (fOk_tl hp))))
  have p5 := p_get3 (by decide) (fOk_hd (fOk_tl (fOk_tl (fOk_tl (fOk_tl hp)))))
  have p6 := p_get3 (by decide) (fOk_hd (fOk_tl (fOk_tl (fOk_tl (fOk_tl (fOk_tl hp))))))
  have p7 := p_get (fOk_hd (fOk_tl (fOk_tl (fOk_tl (fOk_tl (fOk_tl (fOk_tl hp)))))))
  have p8 := p_get3 (by decide) (fOk_hd (fOk_tl (fOk_tl (fOk_tl (fOk_tl (fOk_tl (fOk_tl (fOk_tl hp))))))))
  have p9 := p_get3 (by decide) (fOk_hd (fOk_tl (fOk_tl (fOk_tl (fOk_tl (fOk_tl (fOk_tl (fOk_tl (fOk_tl hp)))))))))
  have p10 := p_get (fOk_hd (fOk_tl (fOk_tl (fOk_tl (fOk_tl (fOk_tl (fOk_tl (fOk_tl (fOk_tl (fOk_tl hp))))))))))
  have p11 := p_get3 (by decide) (fOk_hd (fOk_tl (fOk_tl (fOk_tl (fOk_tl (fOk_tl (fOk_tl (fOk_tl (fOk_tl (fOk_tl (fOk_tl hp)))))))))))
  have p12 := p_get3 (by decide) (fOk_hd (fOk_tl (fOk_tl (fOk_tl (fOk_tl (fOk_tl (fOk_tl (fOk_tl (fOk_tl (fOk_tl (fOk_tl (fOk_tl hp))))))))))))
  have p13 := gg_get (fOk_hd (fOk_tl (fOk_tl (fOk_tl (fOk_tl (fOk_tl (fOk_tl (fOk_tl (fOk_tl (fOk_tl (fOk_tl (fOk_tl (fOk_tl hp)))))))))))))
  have p14 := gg_get (fOk_hd (fOk_tl (fOk_tl (fOk_tl (fOk_tl (fOk_tl (fOk_tl (fOk_tl (fOk_tl (fOk_tl (fOk_tl (fOk_tl (fOk_tl (fOk_tl hp))))))))))))))
  simp only [List.map, xv, fev, fvl, gtI, Int.one_mul, Int.add_zero, Int.zero_add, PR] at p1 p2 p3 p4 p5 p6 p7 p8 p9 p10 p11 p12 p13 p14
  have q := k_add_r (z1 := z1) (z := z) (n := n) (v0 := v0) (y0 := y0) (x := x) (z2 := z2) (v1 := v1) (y1 := y1) (z3 := z3) (v2 := v2) (y2 := y2) (z4 := z4) (v3 := v3) (y3 := y3) p1 p2 p3 p4 p5 p6 p7 p8 p9 p10 p11 p12 p13 p14
  refine ⟨[], rfl, fOk_cons (p_put3 rfl (by decide) ?_) fOk_nil⟩ <;> simp only [List.map, xv, fev, fvl, gtI, Int.one_mul, Int.add_zero, Int.zero_add, List.append_nil]
  exact q
def r_feed_C : eRul := (12, [xP 72 [xv 0, xv 1, xv 2, xv 3], xP 72 [xv 4, xv 0, ([(2, 1)], 4), xv 5], xP 72 [xv 6, xv 4, ([(2, 1)], 8), xv 7], xP 72 [xv 8, xv 6, ([(2, 1)], 12), xv 9], xP 72 [xv 10, xv 8, ([(2, 1)], 16), xv 11], xG (([(2, -1)], 0))], 0, [xP 74 [xv 10, xv 1, xv 2, xv 3, xv 5, xv 7, xv 9, xv 11]])
theorem r_feed_C_ok : ruOk r_feed_C := by
  intro ρ hl0 hp
  obtain ⟨z1, t0, rfl, hl1⟩ := len_inv hl0
  obtain ⟨z0, t1, rfl, hl2⟩ := len_inv hl1
  obtain ⟨n, t2, rfl, hl3⟩ := len_inv hl2
  obtain ⟨a, t3, rfl, hl4⟩ := len_inv hl3
  obtain ⟨z2, t4, rfl, hl5⟩ := len_inv hl4
  obtain ⟨b, t5, rfl, hl6⟩ := len_inv hl5
  obtain ⟨z3, t6, rfl, hl7⟩ := len_inv hl6
  obtain ⟨c, t7, rfl, hl8⟩ := len_inv hl7
  obtain ⟨z4, t8, rfl, hl9⟩ := len_inv hl8
  obtain ⟨d, t9, rfl, hl10⟩ := len_inv hl9
  obtain ⟨z5, t10, rfl, hl11⟩ := len_inv hl10
  obtain ⟨e, t11, rfl, hl12⟩ := len_inv hl11
  have hl := List.eq_nil_of_length_eq_zero hl12
  subst hl
  have p1 := p_get3 (by decide) (fOk_hd hp)
  have p2 := p_get3 (by decide) (fOk_hd (fOk_tl hp))
  have p3 := p_get3 (by decide) (fOk_hd (fOk_tl (fOk_tl hp)))
  have p4 := p_get3 (by decide) (fOk_hd (fOk_tl (fOk_tl (fOk_tl hp))))
  have p5 := p_get3 (by decide) (fOk_hd (fOk_tl (fOk_tl (fOk_tl (fOk_tl hp)))))
  have p6 := gg_get (fOk_hd (fOk_tl (fOk_tl (fOk_tl (fOk_tl (fOk_tl hp))))))
  simp only [List.map, xv, fev, fvl, gtI, Int.one_mul, Int.add_zero, Int.zero_add] at p1 p2 p3 p4 p5 p6
  have q := k_feed_C (z1 := z1) (z0 := z0) (n := n) (a := a) (z2 := z2) (b := b) (z3 := z3) (c := c) (z4 := z4) (d := d) (z5 := z5) (e := e) p1 p2 p3 p4 p5 p6
  refine ⟨[], rfl, fOk_cons (p_put3 rfl (by decide) ?_) fOk_nil⟩ <;> simp only [List.map, xv, fev, fvl, gtI, Int.one_mul, Int.add_zero, Int.zero_add, List.append_nil]
  exact q
def r_feed_R : eRul := (12, [xP 73 [xv 0, xv 1, xv 2, xv 3], xP 73 [xv 4, xv 0, ([(2, 1)], 4), xv 5], xP 73 [xv 6, xv 4, ([(2, 1)], 8), xv 7], xP 73 [xv 8, xv 6, ([(2, 1)], 12), xv 9], xP 73 [xv 10, xv 8, ([(2, 1)], 16), xv 11], xG (([(2, -1)], 0))], 0, [xP 75 [xv 10, xv 1, xv 2, xv 3, xv 5, xv 7, xv 9, xv 11]])
theorem r_feed_R_ok : ruOk r_feed_R := by
  intro ρ hl0 hp
  obtain ⟨z1, t0, rfl, hl1⟩ := len_inv hl0
  obtain ⟨z0, t1, rfl, hl2⟩ := len_inv hl1
  obtain ⟨n, t2, rfl, hl3⟩ := len_inv hl2
  obtain ⟨a, t3, rfl, hl4⟩ := len_inv hl3
  obtain ⟨z2, t4, rfl, hl5⟩ := len_inv hl4
  obtain ⟨b, t5, rfl, hl6⟩ := len_inv hl5
  obtain ⟨z3, t6, rfl, hl7⟩ := len_inv hl6
  obtain ⟨c, t7, rfl, hl8⟩ := len_inv hl7
  obtain ⟨z4, t8, rfl, hl9⟩ := len_inv hl8
  obtain ⟨d, t9, rfl, hl10⟩ := len_inv hl9
  obtain ⟨z5, t10, rfl, hl11⟩ := len_inv hl10
  obtain ⟨e, t11, rfl, hl12⟩ := len_inv hl11
  have hl := List.eq_nil_of_length_eq_zero hl12
  subst hl
  have p1 := p_get3 (by decide) (fOk_hd hp)
  have p2 := p_get3 (by decide) (fOk_hd (fOk_tl hp))
  have p3 := p_get3 (by decide) (fOk_hd (fOk_tl (fOk_tl hp)))
  have p4 := p_get3 (by decide) (fOk_hd (fOk_tl (fOk_tl (fOk_tl hp))))
  have p5 := p_get3 (by decide) (fOk_hd (fOk_tl (fOk_tl (fOk_tl (fOk_tl hp)))))
  have p6 := gg_get (fOk_hd (fOk_tl (fOk_tl (fOk_tl (fOk_tl (fOk_tl hp))))))
  simp only [List.map, xv, fev, fvl, gtI, Int.one_mul, Int.add_zero, Int.zero_add] at p1 p2 p3 p4 p5 p6
  have q := k_feed_R (z1 := z1) (z0 := z0) (n := n) (a := a) (z2 := z2) (b := b) (z3 := z3) (c := c) (z4 := z4) (d := d) (z5 := z5) (e := e) p1 p2 p3 p4 p5 p6
  refine ⟨[], rfl, fOk_cons (p_put3 rfl (by decide) ?_) fOk_nil⟩ <;> simp only [List.map, xv, fev, fvl, gtI, Int.one_mul, Int.add_zero, Int.zero_add, List.append_nil]
  exact q
def r_tape_f : eRul := (10, [xP 71 [xv 0, xv 1, xv 2], xP 74 [xv 3, xv 0, xv 2, xv 4, xv 5, xv 6, xv 7, xv 8], xP 75 [xv 9, xv 1, xv 2, xv 4, xv 5, xv 6, xv 7, xv 8], xG (([(2, -1)], 0))], 0, [xP 71 [xv 3, xv 9, ([(2, 1)], 20)]])
theorem r_tape_f_ok : ruOk r_tape_f := by
  intro ρ hl0 hp
  obtain ⟨c, t0, rfl, hl1⟩ := len_inv hl0
  obtain ⟨r, t1, rfl, hl2⟩ := len_inv hl1
  obtain ⟨n, t2, rfl, hl3⟩ := len_inv hl2
  obtain ⟨c2, t3, rfl, hl4⟩ := len_inv hl3
  obtain ⟨a, t4, rfl, hl5⟩ := len_inv hl4
  obtain ⟨b, t5, rfl, hl6⟩ := len_inv hl5
  obtain ⟨x, t6, rfl, hl7⟩ := len_inv hl6
  obtain ⟨d, t7, rfl, hl8⟩ := len_inv hl7
  obtain ⟨e, t8, rfl, hl9⟩ := len_inv hl8
  obtain ⟨r2, t9, rfl, hl10⟩ := len_inv hl9
  have hl := List.eq_nil_of_length_eq_zero hl10
  subst hl
  have p1 := p_get3 (by decide) (fOk_hd hp)
  have p2 := p_get3 (by decide) (fOk_hd (fOk_tl hp))
  have p3 := p_get3 (by decide) (fOk_hd (fOk_tl (fOk_tl hp)))
  have p4 := gg_get (fOk_hd (fOk_tl (fOk_tl (fOk_tl hp))))
  simp only [List.map, xv, fev, fvl, gtI, Int.one_mul, Int.add_zero, Int.zero_add] at p1 p2 p3 p4
  have q := k_tape_f (c := c) (r := r) (n := n) (c2 := c2) (a := a) (b := b) (x := x) (d := d) (e := e) (r2 := r2) p1 p2 p3 p4
  refine ⟨[], rfl, fOk_cons (p_put3 rfl (by decide) ?_) fOk_nil⟩ <;> simp only [List.map, xv, fev, fvl, gtI, Int.one_mul, Int.add_zero, Int.zero_add, List.append_nil]
  exact q
def r_noe_0 : eRul := (1, [xG (xv 0)], 0, [xP 85 [xv 0]])
theorem r_noe_0_ok : ruOk r_noe_0 := by
  intro ρ hl0 hp
  obtain ⟨kd, t0, rfl, hl1⟩ := len_inv hl0
  have hl := List.eq_nil_of_length_eq_zero hl1
  subst hl
  have p1 := gg_get (fOk_hd hp)
  simp only [List.map, xv, fev, fvl, gtI, Int.one_mul, Int.add_zero, Int.zero_add] at p1
  have q := k_noe_0 (kd := kd) p1
  refine ⟨[], rfl, fOk_cons (p_put3 rfl (by decide) ?_) fOk_nil⟩ <;> simp only [List.map, xv, fev, fvl, gtI, Int.one_mul, Int.add_zero, Int.zero_add, List.append_nil]
  exact q
def r_noe_2 : eRul := (1, [xG (([(0, -1)], 2))], 0, [xP 85 [xv 0]])
theorem r_noe_2_ok : ruOk r_noe_2 := by
  intro ρ hl0 hp
  obtain ⟨kd, t0, rfl, hl1⟩ := len_inv hl0
  have hl := List.eq_nil_of_length_eq_zero hl1
  subst hl
  have p1 := gg_get (fOk_hd hp)
  simp only [List.map, xv, fev, fvl, gtI, Int.one_mul, Int.add_zero, Int.zero_add] at p1
  have q := k_noe_2 (kd := kd) p1
  refine ⟨[], rfl, fOk_cons (p_put3 rfl (by decide) ?_) fOk_nil⟩ <;> simp only [List.map, xv, fev, fvl, gtI, Int.one_mul, Int.add_zero, Int.zero_add, List.append_nil]
  exact q
def r_unk_l : eRul := (2, [(.inl [[(-4294967296, -1)]], [([(0, 1), (1, -1)], 0)])], 0, [xP 86 [xv 0, xv 1]])
theorem r_unk_l_ok : ruOk r_unk_l := by
  intro ρ hl0 hp
  obtain ⟨u, t0, rfl, hl1⟩ := len_inv hl0
  obtain ⟨i, t1, rfl, hl2⟩ := len_inv hl1
  have hl := List.eq_nil_of_length_eq_zero hl2
  subst hl
  have p1 := i_get (fOk_hd hp)
  simp only [List.map, xv, fev, fvl, gtI, Int.one_mul, Int.add_zero, Int.zero_add] at p1
  have q := k_unk_l (u := u) (i := i) p1
  refine ⟨[], rfl, fOk_cons (p_put3 rfl (by decide) ?_) fOk_nil⟩ <;> simp only [List.map, xv, fev, fvl, gtI, Int.one_mul, Int.add_zero, Int.zero_add, List.append_nil]
  exact q
def r_unk_g : eRul := (2, [(.inl [[(-4294967296, -1)]], [([(0, 1), (1, -1)], 0)])], 0, [xP 86 [xv 1, xv 0]])
theorem r_unk_g_ok : ruOk r_unk_g := by
  intro ρ hl0 hp
  obtain ⟨i, t0, rfl, hl1⟩ := len_inv hl0
  obtain ⟨u, t1, rfl, hl2⟩ := len_inv hl1
  have hl := List.eq_nil_of_length_eq_zero hl2
  subst hl
  have p1 := i_get (fOk_hd hp)
  simp only [List.map, xv, fev, fvl, gtI, Int.one_mul, Int.add_zero, Int.zero_add] at p1
  have q := k_unk_g (i := i) (u := u) p1
  refine ⟨[], rfl, fOk_cons (p_put3 rfl (by decide) ?_) fOk_nil⟩ <;> simp only [List.map, xv, fev, fvl, gtI, Int.one_mul, Int.add_zero, Int.zero_add, List.append_nil]
  exact q
def r_bitf : eRul := (5, [xP 1 [xv 0, xv 1, xv 2], xP 62 [xv 0, xv 3, xv 4]], 0, [xP 89 [xv 1, xv 2, xv 3, xv 4]])
theorem r_bitf_ok : ruOk r_bitf := by
  intro ρ hl0 hp
  obtain ⟨x, t0, rfl, hl1⟩ := len_inv hl0
  obtain ⟨zf, t1, rfl, hl2⟩ := len_inv hl1
  obtain ⟨u, t2, rfl, hl3⟩ := len_inv hl2
  obtain ⟨i, t3, rfl, hl4⟩ := len_inv hl3
  obtain ⟨r, t4, rfl, hl5⟩ := len_inv hl4
  have hl := List.eq_nil_of_length_eq_zero hl5
  subst hl
  have p1 := p_get (fOk_hd hp)
  have p2 := p_get3 (by decide) (fOk_hd (fOk_tl hp))
  simp only [List.map, xv, fev, fvl, gtI, Int.one_mul, Int.add_zero, Int.zero_add, PR] at p1 p2
  have q := k_bitf (x := x) (zf := zf) (u := u) (i := i) (r := r) p1 p2
  refine ⟨[], rfl, fOk_cons (p_put3 rfl (by decide) ?_) fOk_nil⟩ <;> simp only [List.map, xv, fev, fvl, gtI, Int.one_mul, Int.add_zero, Int.zero_add, List.append_nil]
  exact q
def r_dig_eq : eRul := (4, [xP 1 [xv 0, xv 1, xv 2], xP 1 [xv 3, xv 1, xv 2], xP 32 [xv 3, ([], 1)]], 0, [xP 32 [xv 0, ([], 1)]])
theorem r_dig_eq_ok : ruOk r_dig_eq := by
  intro ρ hl0 hp
  obtain ⟨b, t0, rfl, hl1⟩ := len_inv hl0
  obtain ⟨z, t1, rfl, hl2⟩ := len_inv hl1
  obtain ⟨i, t2, rfl, hl3⟩ := len_inv hl2
  obtain ⟨a, t3, rfl, hl4⟩ := len_inv hl3
  have hl := List.eq_nil_of_length_eq_zero hl4
  subst hl
  have p1 := p_get (fOk_hd hp)
  have p2 := p_get (fOk_hd (fOk_tl hp))
  have p3 := p_get3 (by decide) (fOk_hd (fOk_tl (fOk_tl hp)))
  simp only [List.map, xv, fev, fvl, gtI, Int.one_mul, Int.add_zero, Int.zero_add, PR] at p1 p2 p3
  have q := k_dig_eq (b := b) (z := z) (i := i) (a := a) p1 p2 p3
  refine ⟨[], rfl, fOk_cons (p_put3 rfl (by decide) ?_) fOk_nil⟩ <;> simp only [List.map, xv, fev, fvl, gtI, Int.one_mul, Int.add_zero, Int.zero_add, List.append_nil]
  exact q
def r_let_eq : eRul := (4, [xP 1 [xv 0, xv 1, xv 2], xP 1 [xv 3, xv 1, xv 2], xP 31 [xv 3, ([], 1)]], 0, [xP 31 [xv 0, ([], 1)]])
theorem r_let_eq_ok : ruOk r_let_eq := by
  intro ρ hl0 hp
  obtain ⟨b, t0, rfl, hl1⟩ := len_inv hl0
  obtain ⟨z, t1, rfl, hl2⟩ := len_inv hl1
  obtain ⟨i, t2, rfl, hl3⟩ := len_inv hl2
  obtain ⟨a, t3, rfl, hl4⟩ := len_inv hl3
  have hl := List.eq_nil_of_length_eq_zero hl4
  subst hl
  have p1 := p_get (fOk_hd hp)
  have p2 := p_get (fOk_hd (fOk_tl hp))
  have p3 := p_get3 (by decide) (fOk_hd (fOk_tl (fOk_tl hp)))
  simp only [List.map, xv, fev, fvl, gtI, Int.one_mul, Int.add_zero, Int.zero_add, PR] at p1 p2 p3
  have q := k_let_eq (b := b) (z := z) (i := i) (a := a) p1 p2 p3
  refine ⟨[], rfl, fOk_cons (p_put3 rfl (by decide) ?_) fOk_nil⟩ <;> simp only [List.map, xv, fev, fvl, gtI, Int.one_mul, Int.add_zero, Int.zero_add, List.append_nil]
  exact q
def r_dig_x : eRul := (1, [xP 32 [xv 0, ([], 1)], xP 31 [xv 0, ([], 1)]], 0, [xG (([], 1))])
theorem r_dig_x_ok : ruOk r_dig_x := by
  intro ρ hl0 hp
  obtain ⟨b, t0, rfl, hl1⟩ := len_inv hl0
  have hl := List.eq_nil_of_length_eq_zero hl1
  subst hl
  have p1 := p_get3 (by decide) (fOk_hd hp)
  have p2 := p_get3 (by decide) (fOk_hd (fOk_tl hp))
  simp only [List.map, xv, fev, fvl, gtI, Int.one_mul, Int.add_zero, Int.zero_add] at p1 p2
  exact (k_dig_x p1 p2).elim
def r_letf_1 : eRul := (4, [xP 1 [xv 0, xv 1, xv 2], xP 31 [xv 0, ([], 1)], (.inl [[(1, 1)]], [xv 3])], 0, [xP 91 [xv 1, xv 2, xv 3]])
theorem r_letf_1_ok : ruOk r_letf_1 := by
  intro ρ hl0 hp
  obtain ⟨b, t0, rfl, hl1⟩ := len_inv hl0
  obtain ⟨z, t1, rfl, hl2⟩ := len_inv hl1
  obtain ⟨s, t2, rfl, hl3⟩ := len_inv hl2
  obtain ⟨t, t3, rfl, hl4⟩ := len_inv hl3
  have hl := List.eq_nil_of_length_eq_zero hl4
  subst hl
  have p1 := p_get (fOk_hd hp)
  have p2 := p_get3 (by decide) (fOk_hd (fOk_tl hp))
  have p3 := i_get (fOk_hd (fOk_tl (fOk_tl hp)))
  simp only [List.map, xv, fev, fvl, gtI, Int.one_mul, Int.add_zero, Int.zero_add, PR] at p1 p2 p3
  have q := k_letf_1 (b := b) (z := z) (s := s) (t := t) p1 p2 p3
  refine ⟨[], rfl, fOk_cons (p_put3 rfl (by decide) ?_) fOk_nil⟩ <;> simp only [List.map, xv, fev, fvl, gtI, Int.one_mul, Int.add_zero, Int.zero_add, List.append_nil]
  exact q
def r_letf_0 : eRul := (4, [xP 1 [xv 0, xv 1, xv 2], xP 32 [xv 0, ([], 1)], (.inl [[(0, 0)]], [xv 3])], 0, [xP 91 [xv 1, xv 2, xv 3]])
theorem r_letf_0_ok : ruOk r_letf_0 := by
  intro ρ hl0 hp
  obtain ⟨b, t0, rfl, hl1⟩ := len_inv hl0
  obtain ⟨z, t1, rfl, hl2⟩ := len_inv hl1
  obtain ⟨s, t2, rfl, hl3⟩ := len_inv hl2
  obtain ⟨t, t3, rfl, hl4⟩ := len_inv hl3
  have hl := List.eq_nil_of_length_eq_zero hl4
  subst hl
  have p1 := p_get (fOk_hd hp)
  have p2 := p_get3 (by decide) (fOk_hd (fOk_tl hp))
  have p3 := i_get (fOk_hd (fOk_tl (fOk_tl hp)))
  simp only [List.map, xv, fev, fvl, gtI, Int.one_mul, Int.add_zero, Int.zero_add, PR] at p1 p2 p3
  have q := k_letf_0 (b := b) (z := z) (s := s) (t := t) p1 p2 p3
  refine ⟨[], rfl, fOk_cons (p_put3 rfl (by decide) ?_) fOk_nil⟩ <;> simp only [List.map, xv, fev, fvl, gtI, Int.one_mul, Int.add_zero, Int.zero_add, List.append_nil]
  exact q
def r_rung_0 : eRul := (4, [xG (([(0, -1)], 0)), (.inl [[(0, 1)]], [xv 1]), (.inl [[(1, 1)]], [xv 2])], 0, [xP 90 [xv 3, xv 0, xv 0, xv 1, xv 2]])
theorem r_rung_0_ok : ruOk r_rung_0 := by
  intro ρ hl0 hp
  obtain ⟨s, t0, rfl, hl1⟩ := len_inv hl0
  obtain ⟨t, t1, rfl, hl2⟩ := len_inv hl1
  obtain ⟨g, t2, rfl, hl3⟩ := len_inv hl2
  obtain ⟨z, t3, rfl, hl4⟩ := len_inv hl3
  have hl := List.eq_nil_of_length_eq_zero hl4
  subst hl
  have p1 := gg_get (fOk_hd hp)
  have p2 := i_get (fOk_hd (fOk_tl hp))
  have p3 := i_get (fOk_hd (fOk_tl (fOk_tl hp)))
  simp only [List.map, xv, fev, fvl, gtI, Int.one_mul, Int.add_zero, Int.zero_add] at p1 p2 p3
  have q := k_rung_0 (s := s) (t := t) (g := g) (z := z) p1 p2 p3
  refine ⟨[], rfl, fOk_cons (p_put3 rfl (by decide) ?_) fOk_nil⟩ <;> simp only [List.map, xv, fev, fvl, gtI, Int.one_mul, Int.add_zero, Int.zero_add, List.append_nil]
  exact q
def r_rung_l1 : eRul := (6, [xP 90 [xv 0, xv 1, xv 2, xv 3, xv 4], (.inl [[(1, 1)]], [xv 3]), xP 1 [xv 5, xv 0, xv 2], xP 31 [xv 5, ([], 1)]], 0, [xP 90 [xv 0, xv 1, ([(2, 1)], 1), xv 3, xv 4]])
theorem r_rung_l1_ok : ruOk r_rung_l1 := by
  intro ρ hl0 hp
  obtain ⟨z, t0, rfl, hl1⟩ := len_inv hl0
  obtain ⟨s, t1, rfl, hl2⟩ := len_inv hl1
  obtain ⟨i, t2, rfl, hl3⟩ := len_inv hl2
  obtain ⟨t, t3, rfl, hl4⟩ := len_inv hl3
  obtain ⟨g, t4, rfl, hl5⟩ := len_inv hl4
  obtain ⟨b, t5, rfl, hl6⟩ := len_inv hl5
  have hl := List.eq_nil_of_length_eq_zero hl6
  subst hl
  have p1 := p_get3 (by decide) (fOk_hd hp)
  have p2 := i_get (fOk_hd (fOk_tl hp))
  have p3 := p_get (fOk_hd (fOk_tl (fOk_tl hp)))
  have p4 := p_get3 (by decide) (fOk_hd (fOk_tl (fOk_tl (fOk_tl hp))))
  simp only [List.map, xv, fev, fvl, gtI, Int.one_mul, Int.add_zero, Int.zero_add, PR] at p1 p2 p3 p4
  have q := k_rung_l1 (z := z) (s := s) (i := i) (t := t) (g := g) (b := b) p1 p2 p3 p4
  refine ⟨[], rfl, fOk_cons (p_put3 rfl (by decide) ?_) fOk_nil⟩ <;> simp only [List.map, xv, fev, fvl, gtI, Int.one_mul, Int.add_zero, Int.zero_add, List.append_nil]
  exact q
def r_rung_d0 : eRul := (6, [xP 90 [xv 0, xv 1, xv 2, xv 3, xv 4], (.inl [[(0, 0)]], [xv 3]), xP 1 [xv 5, xv 0, xv 2], xP 32 [xv 5, ([], 1)]], 0, [xP 90 [xv 0, xv 1, ([(2, 1)], 1), xv 3, xv 4]])
theorem r_rung_d0_ok : ruOk r_rung_d0 := by
  intro ρ hl0 hp
  obtain ⟨z, t0, rfl, hl1⟩ := len_inv hl0
  obtain ⟨s, t1, rfl, hl2⟩ := len_inv hl1
  obtain ⟨i, t2, rfl, hl3⟩ := len_inv hl2
  obtain ⟨t, t3, rfl, hl4⟩ := len_inv hl3
  obtain ⟨g, t4, rfl, hl5⟩ := len_inv hl4
  obtain ⟨b, t5, rfl, hl6⟩ := len_inv hl5
  have hl := List.eq_nil_of_length_eq_zero hl6
  subst hl
  have p1 := p_get3 (by decide) (fOk_hd hp)
  have p2 := i_get (fOk_hd (fOk_tl hp))
  have p3 := p_get (fOk_hd (fOk_tl (fOk_tl hp)))
  have p4 := p_get3 (by decide) (fOk_hd (fOk_tl (fOk_tl (fOk_tl hp))))
  simp only [List.map, xv, fev, fvl, gtI, Int.one_mul, Int.add_zero, Int.zero_add, PR] at p1 p2 p3 p4
  have q := k_rung_d0 (z := z) (s := s) (i := i) (t := t) (g := g) (b := b) p1 p2 p3 p4
  refine ⟨[], rfl, fOk_cons (p_put3 rfl (by decide) ?_) fOk_nil⟩ <;> simp only [List.map, xv, fev, fvl, gtI, Int.one_mul, Int.add_zero, Int.zero_add, List.append_nil]
  exact q
def r_rung_l0 : eRul := (7, [xP 90 [xv 0, xv 1, xv 2, xv 3, xv 4], (.inl [[(0, 0)]], [xv 3]), xP 1 [xv 5, xv 0, xv 2], xP 31 [xv 5, ([], 1)], (.inl [[(0, 0)]], [xv 6])], 0, [xP 90 [xv 0, xv 1, ([(2, 1)], 1), xv 3, xv 6]])
theorem r_rung_l0_ok : ruOk r_rung_l0 := by
  intro ρ hl0 hp
  obtain ⟨z, t0, rfl, hl1⟩ := len_inv hl0
  obtain ⟨s, t1, rfl, hl2⟩ := len_inv hl1
  obtain ⟨i, t2, rfl, hl3⟩ := len_inv hl2
  obtain ⟨t, t3, rfl, hl4⟩ := len_inv hl3
  obtain ⟨g, t4, rfl, hl5⟩ := len_inv hl4
  obtain ⟨b, t5, rfl, hl6⟩ := len_inv hl5
  obtain ⟨h, t6, rfl, hl7⟩ := len_inv hl6
  have hl := List.eq_nil_of_length_eq_zero hl7
  subst hl
  have p1 := p_get3 (by decide) (fOk_hd hp)
  have p2 := i_get (fOk_hd (fOk_tl hp))
  have p3 := p_get (fOk_hd (fOk_tl (fOk_tl hp)))
  have p4 := p_get3 (by decide) (fOk_hd (fOk_tl (fOk_tl (fOk_tl hp))))
  have p5 := i_get (fOk_hd (fOk_tl (fOk_tl (fOk_tl (fOk_tl hp)))))
  simp only [List.map, xv, fev, fvl, gtI, Int.one_mul, Int.add_zero, Int.zero_add, PR] at p1 p2 p3 p4 p5
  have q := k_rung_l0 (z := z) (s := s) (i := i) (t := t) (g := g) (b := b) (h := h) p1 p2 p3 p4 p5
  refine ⟨[], rfl, fOk_cons (p_put3 rfl (by decide) ?_) fOk_nil⟩ <;> simp only [List.map, xv, fev, fvl, gtI, Int.one_mul, Int.add_zero, Int.zero_add, List.append_nil]
  exact q
def r_rung_d1 : eRul := (7, [xP 90 [xv 0, xv 1, xv 2, xv 3, xv 4], (.inl [[(1, 1)]], [xv 3]), xP 1 [xv 5, xv 0, xv 2], xP 32 [xv 5, ([], 1)], (.inl [[(0, 0)]], [xv 6])], 0, [xP 90 [xv 0, xv 1, ([(2, 1)], 1), xv 3, xv 6]])
theorem r_rung_d1_ok : ruOk r_rung_d1 := by
  intro ρ hl0 hp
  obtain ⟨z, t0, rfl, hl1⟩ := len_inv hl0
  obtain ⟨s, t1, rfl, hl2⟩ := len_inv hl1
  obtain ⟨i, t2, rfl, hl3⟩ := len_inv hl2
  obtain ⟨t, t3, rfl, hl4⟩ := len_inv hl3
  obtain ⟨g, t4, rfl, hl5⟩ := len_inv hl4
  obtain ⟨b, t5, rfl, hl6⟩ := len_inv hl5
  obtain ⟨h, t6, rfl, hl7⟩ := len_inv hl6
  have hl := List.eq_nil_of_length_eq_zero hl7
  subst hl
  have p1 := p_get3 (by decide) (fOk_hd hp)
  have p2 := i_get (fOk_hd (fOk_tl hp))
  have p3 := p_get (fOk_hd (fOk_tl (fOk_tl hp)))
  have p4 := p_get3 (by decide) (fOk_hd (fOk_tl (fOk_tl (fOk_tl hp))))
  have p5 := i_get (fOk_hd (fOk_tl (fOk_tl (fOk_tl (fOk_tl hp)))))
  simp only [List.map, xv, fev, fvl, gtI, Int.one_mul, Int.add_zero, Int.zero_add, PR] at p1 p2 p3 p4 p5
  have q := k_rung_d1 (z := z) (s := s) (i := i) (t := t) (g := g) (b := b) (h := h) p1 p2 p3 p4 p5
  refine ⟨[], rfl, fOk_cons (p_put3 rfl (by decide) ?_) fOk_nil⟩ <;> simp only [List.map, xv, fev, fvl, gtI, Int.one_mul, Int.add_zero, Int.zero_add, List.append_nil]
  exact q
def r_rung_e : eRul := (6, [xP 90 [xv 0, xv 1, xv 2, xv 3, xv 4], xG (([(2, -1), (5, 1)], 0)), xG (([(2, 1), (5, -1)], 0))], 0, [xP 39 [xv 0, xv 5, xv 1, xv 2]])
theorem r_rung_e_ok : ruOk r_rung_e := by
  intro ρ hl0 hp
  obtain ⟨z, t0, rfl, hl1⟩ := len_inv hl0
  obtain ⟨s, t1, rfl, hl2⟩ := len_inv hl1
  obtain ⟨e, t2, rfl, hl3⟩ := len_inv hl2
  obtain ⟨t, t3, rfl, hl4⟩ := len_inv hl3
  obtain ⟨g, t4, rfl, hl5⟩ := len_inv hl4
  obtain ⟨n, t5, rfl, hl6⟩ := len_inv hl5
  have hl := List.eq_nil_of_length_eq_zero hl6
  subst hl
  have p1 := p_get3 (by decide) (fOk_hd hp)
  have p2 := gg_get (fOk_hd (fOk_tl hp))
  have p3 := gg_get (fOk_hd (fOk_tl (fOk_tl hp)))
  simp only [List.map, xv, fev, fvl, gtI, Int.one_mul, Int.add_zero, Int.zero_add] at p1 p2 p3
  have q := k_rung_e (z := z) (s := s) (e := e) (t := t) (g := g) (n := n) p1 p2 p3
  refine ⟨[], rfl, fOk_cons (p_put3 rfl (by decide) ?_) fOk_nil⟩ <;> simp only [List.map, xv, fev, fvl, gtI, Int.one_mul, Int.add_zero, Int.zero_add, List.append_nil]
  exact q
def r_rung_b : eRul := (8, [xP 90 [xv 0, xv 1, xv 2, xv 3, xv 4], xP 1 [xv 5, xv 0, xv 2], xP 31 [xv 5, ([], 0)], xP 1 [xv 6, xv 0, xv 2], xP 32 [xv 6, ([], 0)], xG (([(2, 1), (7, -1)], 1))], 0, [xP 39 [xv 0, xv 7, xv 1, xv 2]])
theorem r_rung_b_ok : ruOk r_rung_b := by
  intro ρ hl0 hp
  obtain ⟨z, t0, rfl, hl1⟩ := len_inv hl0
  obtain ⟨s, t1, rfl, hl2⟩ := len_inv hl1
  obtain ⟨e, t2, rfl, hl3⟩ := len_inv hl2
  obtain ⟨t, t3, rfl, hl4⟩ := len_inv hl3
  obtain ⟨g, t4, rfl, hl5⟩ := len_inv hl4
  obtain ⟨a, t5, rfl, hl6⟩ := len_inv hl5
  obtain ⟨b, t6, rfl, hl7⟩ := len_inv hl6
  obtain ⟨n, t7, rfl, hl8⟩ := len_inv hl7
  have hl := List.eq_nil_of_length_eq_zero hl8
  subst hl
  have p1 := p_get3 (by decide) (fOk_hd hp)
  have p2 := p_get (fOk_hd (fOk_tl hp))
  have p3 := p_get3 (by decide) (fOk_hd (fOk_tl (fOk_tl hp)))
  have p4 := p_get (fOk_hd (fOk_tl (fOk_tl (fOk_tl hp))))
  have p5 := p_get3 (by decide) (fOk_hd (fOk_tl (fOk_tl (fOk_tl (fOk_tl hp)))))
  have p6 := gg_get (fOk_hd (fOk_tl (fOk_tl (fOk_tl (fOk_tl (fOk_tl hp))))))
  simp only [List.map, xv, fev, fvl, gtI, Int.one_mul, Int.add_zero, Int.zero_add, PR] at p1 p2 p3 p4 p5 p6
  have q := k_rung_b (z := z) (s := s) (e := e) (t := t) (g := g) (a := a) (b := b) (n := n) p1 p2 p3 p4 p5 p6
  refine ⟨[], rfl, fOk_cons (p_put3 rfl (by decide) ?_) fOk_nil⟩ <;> simp only [List.map, xv, fev, fvl, gtI, Int.one_mul, Int.add_zero, Int.zero_add, List.append_nil]
  exact q
def r_runk_g : eRul := (6, [xP 90 [xv 0, xv 1, xv 2, xv 3, xv 4], (.inl [[(0, 0)]], [xv 4]), xP 91 [xv 0, xv 1, xv 3], (.inl [[(0, 0)]], [xv 5])], 0, [xP 40 [xv 0, xv 1, xv 2, xv 5]])
theorem r_runk_g_ok : ruOk r_runk_g := by
  intro ρ hl0 hp
  obtain ⟨z, t0, rfl, hl1⟩ := len_inv hl0
  obtain ⟨s, t1, rfl, hl2⟩ := len_inv hl1
  obtain ⟨e, t2, rfl, hl3⟩ := len_inv hl2
  obtain ⟨t, t3, rfl, hl4⟩ := len_inv hl3
  obtain ⟨g, t4, rfl, hl5⟩ := len_inv hl4
  obtain ⟨k, t5, rfl, hl6⟩ := len_inv hl5
  have hl := List.eq_nil_of_length_eq_zero hl6
  subst hl
  have p1 := p_get3 (by decide) (fOk_hd hp)
  have p2 := i_get (fOk_hd (fOk_tl hp))
  have p3 := p_get3 (by decide) (fOk_hd (fOk_tl (fOk_tl hp)))
  have p4 := i_get (fOk_hd (fOk_tl (fOk_tl (fOk_tl hp))))
  simp only [List.map, xv, fev, fvl, gtI, Int.one_mul, Int.add_zero, Int.zero_add] at p1 p2 p3 p4
  have q := k_runk_g (z := z) (s := s) (e := e) (t := t) (g := g) (k := k) p1 p2 p3 p4
  refine ⟨[], rfl, fOk_cons (p_put3 rfl (by decide) ?_) fOk_nil⟩ <;> simp only [List.map, xv, fev, fvl, gtI, Int.one_mul, Int.add_zero, Int.zero_add, List.append_nil]
  exact q
def r_runk_gw : eRul := (6, [xP 90 [xv 0, xv 1, xv 2, xv 3, xv 4], (.inl [[(1, 1)]], [xv 4]), (.inl [[(1, 1)]], [xv 3]), xG (([(1, -1), (2, 1)], -7)), (.inl [[(2, 2)]], [xv 5])], 0, [xP 40 [xv 0, xv 1, xv 2, xv 5]])
theorem r_runk_gw_ok : ruOk r_runk_gw := by
  intro ρ hl0 hp
  obtain ⟨z, t0, rfl, hl1⟩ := len_inv hl0
  obtain ⟨s, t1, rfl, hl2⟩ := len_inv hl1
  obtain ⟨e, t2, rfl, hl3⟩ := len_inv hl2
  obtain ⟨t, t3, rfl, hl4⟩ := len_inv hl3
  obtain ⟨g, t4, rfl, hl5⟩ := len_inv hl4
  obtain ⟨k, t5, rfl, hl6⟩ := len_inv hl5
  have hl := List.eq_nil_of_length_eq_zero hl6
  subst hl
  have p1 := p_get3 (by decide) (fOk_hd hp)
  have p2 := i_get (fOk_hd (fOk_tl hp))
  have p3 := i_get (fOk_hd (fOk_tl (fOk_tl hp)))
  have p4 := gg_get (fOk_hd (fOk_tl (fOk_tl (fOk_tl hp))))
  have p5 := i_get (fOk_hd (fOk_tl (fOk_tl (fOk_tl (fOk_tl hp)))))
  simp only [List.map, xv, fev, fvl, gtI, Int.one_mul, Int.add_zero, Int.zero_add] at p1 p2 p3 p4 p5
  have q := k_runk_gw (z := z) (s := s) (e := e) (t := t) (g := g) (k := k) p1 p2 p3 p4 p5
  refine ⟨[], rfl, fOk_cons (p_put3 rfl (by decide) ?_) fOk_nil⟩ <;> simp only [List.map, xv, fev, fvl, gtI, Int.one_mul, Int.add_zero, Int.zero_add, List.append_nil]
  exact q
def r_runk_gn : eRul := (6, [xP 90 [xv 0, xv 1, xv 2, xv 3, xv 4], (.inl [[(1, 1)]], [xv 4]), (.inl [[(0, 0)]], [xv 3]), xG (([(1, -1), (2, 1)], -3)), (.inl [[(3, 3)]], [xv 5])], 0, [xP 40 [xv 0, xv 1, xv 2, xv 5]])
theorem r_runk_gn_ok : ruOk r_runk_gn := by
  intro ρ hl0 hp
  obtain ⟨z, t0, rfl, hl1⟩ := len_inv hl0
  obtain ⟨s, t1, rfl, hl2⟩ := len_inv hl1
  obtain ⟨e, t2, rfl, hl3⟩ := len_inv hl2
  obtain ⟨t, t3, rfl, hl4⟩ := len_inv hl3
  obtain ⟨g, t4, rfl, hl5⟩ := len_inv hl4
  obtain ⟨k, t5, rfl, hl6⟩ := len_inv hl5
  have hl := List.eq_nil_of_length_eq_zero hl6
  subst hl
  have p1 := p_get3 (by decide) (fOk_hd hp)
  have p2 := i_get (fOk_hd (fOk_tl hp))
  have p3 := i_get (fOk_hd (fOk_tl (fOk_tl hp)))
  have p4 := gg_get (fOk_hd (fOk_tl (fOk_tl (fOk_tl hp))))
  have p5 := i_get (fOk_hd (fOk_tl (fOk_tl (fOk_tl (fOk_tl hp)))))
  simp only [List.map, xv, fev, fvl, gtI, Int.one_mul, Int.add_zero, Int.zero_add] at p1 p2 p3 p4 p5
  have q := k_runk_gn (z := z) (s := s) (e := e) (t := t) (g := g) (k := k) p1 p2 p3 p4 p5
  refine ⟨[], rfl, fOk_cons (p_put3 rfl (by decide) ?_) fOk_nil⟩ <;> simp only [List.map, xv, fev, fvl, gtI, Int.one_mul, Int.add_zero, Int.zero_add, List.append_nil]
  exact q
def r_runk_gx : eRul := (6, [xP 90 [xv 0, xv 1, xv 2, xv 3, xv 4], (.inl [[(1, 1)]], [xv 4]), (.inl [[(1, 1)]], [xv 3]), xG (([(1, 1), (2, -1)], 8)), (.inl [[(0, 0)]], [xv 5])], 0, [xP 40 [xv 0, xv 1, xv 2, xv 5]])
theorem r_runk_gx_ok : ruOk r_runk_gx := by
  intro ρ hl0 hp
  obtain ⟨z, t0, rfl, hl1⟩ := len_inv hl0
  obtain ⟨s, t1, rfl, hl2⟩ := len_inv hl1
  obtain ⟨e, t2, rfl, hl3⟩ := len_inv hl2
  obtain ⟨t, t3, rfl, hl4⟩ := len_inv hl3
  obtain ⟨g, t4, rfl, hl5⟩ := len_inv hl4
  obtain ⟨k, t5, rfl, hl6⟩ := len_inv hl5
  have hl := List.eq_nil_of_length_eq_zero hl6
  subst hl
  have p1 := p_get3 (by decide) (fOk_hd hp)
  have p2 := i_get (fOk_hd (fOk_tl hp))
  have p3 := i_get (fOk_hd (fOk_tl (fOk_tl hp)))
  have p4 := gg_get (fOk_hd (fOk_tl (fOk_tl (fOk_tl hp))))
  have p5 := i_get (fOk_hd (fOk_tl (fOk_tl (fOk_tl (fOk_tl hp)))))
  simp only [List.map, xv, fev, fvl, gtI, Int.one_mul, Int.add_zero, Int.zero_add] at p1 p2 p3 p4 p5
  have q := k_runk_gx (z := z) (s := s) (e := e) (t := t) (g := g) (k := k) p1 p2 p3 p4 p5
  refine ⟨[], rfl, fOk_cons (p_put3 rfl (by decide) ?_) fOk_nil⟩ <;> simp only [List.map, xv, fev, fvl, gtI, Int.one_mul, Int.add_zero, Int.zero_add, List.append_nil]
  exact q
def r_runk_gy : eRul := (6, [xP 90 [xv 0, xv 1, xv 2, xv 3, xv 4], (.inl [[(1, 1)]], [xv 4]), (.inl [[(0, 0)]], [xv 3]), xG (([(1, 1), (2, -1)], 4)), (.inl [[(0, 0)]], [xv 5])], 0, [xP 40 [xv 0, xv 1, xv 2, xv 5]])
theorem r_runk_gy_ok : ruOk r_runk_gy := by
  intro ρ hl0 hp
  obtain ⟨z, t0, rfl, hl1⟩ := len_inv hl0
  obtain ⟨s, t1, rfl, hl2⟩ := len_inv hl1
  obtain ⟨e, t2, rfl, hl3⟩ := len_inv hl2
  obtain ⟨t, t3, rfl, hl4⟩ := len_inv hl3
  obtain ⟨g, t4, rfl, hl5⟩ := len_inv hl4
  obtain ⟨k, t5, rfl, hl6⟩ := len_inv hl5
  have hl := List.eq_nil_of_length_eq_zero hl6
  subst hl
  have p1 := p_get3 (by decide) (fOk_hd hp)
  have p2 := i_get (fOk_hd (fOk_tl hp))
  have p3 := i_get (fOk_hd (fOk_tl (fOk_tl hp)))
  have p4 := gg_get (fOk_hd (fOk_tl (fOk_tl (fOk_tl hp))))
  have p5 := i_get (fOk_hd (fOk_tl (fOk_tl (fOk_tl (fOk_tl hp)))))
  simp only [List.map, xv, fev, fvl, gtI, Int.one_mul, Int.add_zero, Int.zero_add] at p1 p2 p3 p4 p5
  have q := k_runk_gy (z := z) (s := s) (e := e) (t := t) (g := g) (k := k) p1 p2 p3 p4 p5
  refine ⟨[], rfl, fOk_cons (p_put3 rfl (by decide) ?_) fOk_nil⟩ <;> simp only [List.map, xv, fev, fvl, gtI, Int.one_mul, Int.add_zero, Int.zero_add, List.append_nil]
  exact q
def r_wof_0 : eRul := (2, [(.inl [[(0, 0)]], [xv 0]), (.inl [[(237227, 237227)]], [xv 1])], 0, [xP 77 [xv 0, xv 1]])
theorem r_wof_0_ok : ruOk r_wof_0 := by
  intro ρ hl0 hp
  obtain ⟨k, t0, rfl, hl1⟩ := len_inv hl0
  obtain ⟨r, t1, rfl, hl2⟩ := len_inv hl1
  have hl := List.eq_nil_of_length_eq_zero hl2
  subst hl
  have p1 := i_get (fOk_hd hp)
  have p2 := i_get (fOk_hd (fOk_tl hp))
  simp only [List.map, xv, fev, fvl, gtI, Int.one_mul, Int.add_zero, Int.zero_add] at p1 p2
  have q := k_wof_0 (k := k) (r := r) p1 p2
  refine ⟨[], rfl, fOk_cons (p_put3 rfl (by decide) ?_) fOk_nil⟩ <;> simp only [List.map, xv, fev, fvl, gtI, Int.one_mul, Int.add_zero, Int.zero_add, List.append_nil]
  exact q
def r_wof_1 : eRul := (2, [(.inl [[(1, 1)]], [xv 0]), (.inl [[(355280, 355280)]], [xv 1])], 0, [xP 77 [xv 0, xv 1]])
theorem r_wof_1_ok : ruOk r_wof_1 := by
  intro ρ hl0 hp
  obtain ⟨k, t0, rfl, hl1⟩ := len_inv hl0
  obtain ⟨r, t1, rfl, hl2⟩ := len_inv hl1
  have hl := List.eq_nil_of_length_eq_zero hl2
  subst hl
  have p1 := i_get (fOk_hd hp)
  have p2 := i_get (fOk_hd (fOk_tl hp))
  simp only [List.map, xv, fev, fvl, gtI, Int.one_mul, Int.add_zero, Int.zero_add] at p1 p2
  have q := k_wof_1 (k := k) (r := r) p1 p2
  refine ⟨[], rfl, fOk_cons (p_put3 rfl (by decide) ?_) fOk_nil⟩ <;> simp only [List.map, xv, fev, fvl, gtI, Int.one_mul, Int.add_zero, Int.zero_add, List.append_nil]
  exact q
def r_wof_2 : eRul := (2, [(.inl [[(2, 2)]], [xv 0]), (.inl [[(262776, 262776)]], [xv 1])], 0, [xP 77 [xv 0, xv 1]])
theorem r_wof_2_ok : ruOk r_wof_2 := by
  intro ρ hl0 hp
  obtain ⟨k, t0, rfl, hl1⟩ := len_inv hl0
  obtain ⟨r, t1, rfl, hl2⟩ := len_inv hl1
  have hl := List.eq_nil_of_length_eq_zero hl2
  subst hl
  have p1 := i_get (fOk_hd hp)
  have p2 := i_get (fOk_hd (fOk_tl hp))
  simp only [List.map, xv, fev, fvl, gtI, Int.one_mul, Int.add_zero, Int.zero_add] at p1 p2
  have q := k_wof_2 (k := k) (r := r) p1 p2
  refine ⟨[], rfl, fOk_cons (p_put3 rfl (by decide) ?_) fOk_nil⟩ <;> simp only [List.map, xv, fev, fvl, gtI, Int.one_mul, Int.add_zero, Int.zero_add, List.append_nil]
  exact q
def r_wof_3 : eRul := (2, [(.inl [[(3, 3)]], [xv 0]), (.inl [[(10502473, 10502473)]], [xv 1])], 0, [xP 77 [xv 0, xv 1]])
theorem r_wof_3_ok : ruOk r_wof_3 := by
  intro ρ hl0 hp
  obtain ⟨k, t0, rfl, hl1⟩ := len_inv hl0
  obtain ⟨r, t1, rfl, hl2⟩ := len_inv hl1
  have hl := List.eq_nil_of_length_eq_zero hl2
  subst hl
  have p1 := i_get (fOk_hd hp)
  have p2 := i_get (fOk_hd (fOk_tl hp))
  simp only [List.map, xv, fev, fvl, gtI, Int.one_mul, Int.add_zero, Int.zero_add] at p1 p2
  have q := k_wof_3 (k := k) (r := r) p1 p2
  refine ⟨[], rfl, fOk_cons (p_put3 rfl (by decide) ?_) fOk_nil⟩ <;> simp only [List.map, xv, fev, fvl, gtI, Int.one_mul, Int.add_zero, Int.zero_add, List.append_nil]
  exact q
def r_wof_4 : eRul := (2, [(.inl [[(4, 4)]], [xv 0]), (.inl [[(4562600, 4562600)]], [xv 1])], 0, [xP 77 [xv 0, xv 1]])
theorem r_wof_4_ok : ruOk r_wof_4 := by
  intro ρ hl0 hp
  obtain ⟨k, t0, rfl, hl1⟩ := len_inv hl0
  obtain ⟨r, t1, rfl, hl2⟩ := len_inv hl1
  have hl := List.eq_nil_of_length_eq_zero hl2
  subst hl
  have p1 := i_get (fOk_hd hp)
  have p2 := i_get (fOk_hd (fOk_tl hp))
  simp only [List.map, xv, fev, fvl, gtI, Int.one_mul, Int.add_zero, Int.zero_add] at p1 p2
  have q := k_wof_4 (k := k) (r := r) p1 p2
  refine ⟨[], rfl, fOk_cons (p_put3 rfl (by decide) ?_) fOk_nil⟩ <;> simp only [List.map, xv, fev, fvl, gtI, Int.one_mul, Int.add_zero, Int.zero_add, List.append_nil]
  exact q
def r_wof_5 : eRul := (2, [(.inl [[(5, 5)]], [xv 0]), (.inl [[(365647, 365647)]], [xv 1])], 0, [xP 77 [xv 0, xv 1]])
theorem r_wof_5_ok : ruOk r_wof_5 := by
  intro ρ hl0 hp
  obtain ⟨k, t0, rfl, hl1⟩ := len_inv hl0
  obtain ⟨r, t1, rfl, hl2⟩ := len_inv hl1
  have hl := List.eq_nil_of_length_eq_zero hl2
  subst hl
  have p1 := i_get (fOk_hd hp)
  have p2 := i_get (fOk_hd (fOk_tl hp))
  simp only [List.map, xv, fev, fvl, gtI, Int.one_mul, Int.add_zero, Int.zero_add] at p1 p2
  have q := k_wof_5 (k := k) (r := r) p1 p2
  refine ⟨[], rfl, fOk_cons (p_put3 rfl (by decide) ?_) fOk_nil⟩ <;> simp only [List.map, xv, fev, fvl, gtI, Int.one_mul, Int.add_zero, Int.zero_add, List.append_nil]
  exact q
def r_wof_6 : eRul := (2, [(.inl [[(6, 6)]], [xv 0]), (.inl [[(4137608, 4137608)]], [xv 1])], 0, [xP 77 [xv 0, xv 1]])
theorem r_wof_6_ok : ruOk r_wof_6 := by
  intro ρ hl0 hp
  obtain ⟨k, t0, rfl, hl1⟩ := len_inv hl0
  obtain ⟨r, t1, rfl, hl2⟩ := len_inv hl1
  have hl := List.eq_nil_of_length_eq_zero hl2
  subst hl
  have p1 := i_get (fOk_hd hp)
  have p2 := i_get (fOk_hd (fOk_tl hp))
  simp only [List.map, xv, fev, fvl, gtI, Int.one_mul, Int.add_zero, Int.zero_add] at p1 p2
  have q := k_wof_6 (k := k) (r := r) p1 p2
  refine ⟨[], rfl, fOk_cons (p_put3 rfl (by decide) ?_) fOk_nil⟩ <;> simp only [List.map, xv, fev, fvl, gtI, Int.one_mul, Int.add_zero, Int.zero_add, List.append_nil]
  exact q
def r_wof_7 : eRul := (2, [(.inl [[(7, 7)]], [xv 0]), (.inl [[(6888374364, 6888374364)]], [xv 1])], 0, [xP 77 [xv 0, xv 1]])
theorem r_wof_7_ok : ruOk r_wof_7 := by
  intro ρ hl0 hp
  obtain ⟨k, t0, rfl, hl1⟩ := len_inv hl0
  obtain ⟨r, t1, rfl, hl2⟩ := len_inv hl1
  have hl := List.eq_nil_of_length_eq_zero hl2
  subst hl
  have p1 := i_get (fOk_hd hp)
  have p2 := i_get (fOk_hd (fOk_tl hp))
  simp only [List.map, xv, fev, fvl, gtI, Int.one_mul, Int.add_zero, Int.zero_add] at p1 p2
  have q := k_wof_7 (k := k) (r := r) p1 p2
  refine ⟨[], rfl, fOk_cons (p_put3 rfl (by decide) ?_) fOk_nil⟩ <;> simp only [List.map, xv, fev, fvl, gtI, Int.one_mul, Int.add_zero, Int.zero_add, List.append_nil]
  exact q
def r_wof_8 : eRul := (2, [(.inl [[(8, 8)]], [xv 0]), (.inl [[(279109036, 279109036)]], [xv 1])], 0, [xP 77 [xv 0, xv 1]])
theorem r_wof_8_ok : ruOk r_wof_8 := by
  intro ρ hl0 hp
  obtain ⟨k, t0, rfl, hl1⟩ := len_inv hl0
  obtain ⟨r, t1, rfl, hl2⟩ := len_inv hl1
  have hl := List.eq_nil_of_length_eq_zero hl2
  subst hl
  have p1 := i_get (fOk_hd hp)
  have p2 := i_get (fOk_hd (fOk_tl hp))
  simp only [List.map, xv, fev, fvl, gtI, Int.one_mul, Int.add_zero, Int.zero_add] at p1 p2
  have q := k_wof_8 (k := k) (r := r) p1 p2
  refine ⟨[], rfl, fOk_cons (p_put3 rfl (by decide) ?_) fOk_nil⟩ <;> simp only [List.map, xv, fev, fvl, gtI, Int.one_mul, Int.add_zero, Int.zero_add, List.append_nil]
  exact q
def r_wof_9 : eRul := (2, [(.inl [[(9, 9)]], [xv 0]), (.inl [[(10656676, 10656676)]], [xv 1])], 0, [xP 77 [xv 0, xv 1]])
theorem r_wof_9_ok : ruOk r_wof_9 := by
  intro ρ hl0 hp
  obtain ⟨k, t0, rfl, hl1⟩ := len_inv hl0
  obtain ⟨r, t1, rfl, hl2⟩ := len_inv hl1
  have hl := List.eq_nil_of_length_eq_zero hl2
  subst hl
  have p1 := i_get (fOk_hd hp)
  have p2 := i_get (fOk_hd (fOk_tl hp))
  simp only [List.map, xv, fev, fvl, gtI, Int.one_mul, Int.add_zero, Int.zero_add] at p1 p2
  have q := k_wof_9 (k := k) (r := r) p1 p2
  refine ⟨[], rfl, fOk_cons (p_put3 rfl (by decide) ?_) fOk_nil⟩ <;> simp only [List.map, xv, fev, fvl, gtI, Int.one_mul, Int.add_zero, Int.zero_add, List.append_nil]
  exact q
def r_wof_10 : eRul := (2, [(.inl [[(10, 10)]], [xv 0]), (.inl [[(174879964, 174879964)]], [xv 1])], 0, [xP 77 [xv 0, xv 1]])
theorem r_wof_10_ok : ruOk r_wof_10 := by
  intro ρ hl0 hp
  obtain ⟨k, t0, rfl, hl1⟩ := len_inv hl0
  obtain ⟨r, t1, rfl, hl2⟩ := len_inv hl1
  have hl := List.eq_nil_of_length_eq_zero hl2
  subst hl
  have p1 := i_get (fOk_hd hp)
  have p2 := i_get (fOk_hd (fOk_tl hp))
  simp only [List.map, xv, fev, fvl, gtI, Int.one_mul, Int.add_zero, Int.zero_add] at p1 p2
  have q := k_wof_10 (k := k) (r := r) p1 p2
  refine ⟨[], rfl, fOk_cons (p_put3 rfl (by decide) ?_) fOk_nil⟩ <;> simp only [List.map, xv, fev, fvl, gtI, Int.one_mul, Int.add_zero, Int.zero_add, List.append_nil]
  exact q
def r_wof_11 : eRul := (2, [(.inl [[(11, 11)]], [xv 0]), (.inl [[(12384399, 12384399)]], [xv 1])], 0, [xP 77 [xv 0, xv 1]])
theorem r_wof_11_ok : ruOk r_wof_11 := by
  intro ρ hl0 hp
  obtain ⟨k, t0, rfl, hl1⟩ := len_inv hl0
  obtain ⟨r, t1, rfl, hl2⟩ := len_inv hl1
  have hl := List.eq_nil_of_length_eq_zero hl2
  subst hl
  have p1 := i_get (fOk_hd hp)
  have p2 := i_get (fOk_hd (fOk_tl hp))
  simp only [List.map, xv, fev, fvl, gtI, Int.one_mul, Int.add_zero, Int.zero_add] at p1 p2
  have q := k_wof_11 (k := k) (r := r) p1 p2
  refine ⟨[], rfl, fOk_cons (p_put3 rfl (by decide) ?_) fOk_nil⟩ <;> simp only [List.map, xv, fev, fvl, gtI, Int.one_mul, Int.add_zero, Int.zero_add, List.append_nil]
  exact q
def r_wof_12 : eRul := (2, [(.inl [[(12, 12)]], [xv 0]), (.inl [[(2968, 2968)]], [xv 1])], 0, [xP 77 [xv 0, xv 1]])
theorem r_wof_12_ok : ruOk r_wof_12 := by
  intro ρ hl0 hp
  obtain ⟨k, t0, rfl, hl1⟩ := len_inv hl0
  obtain ⟨r, t1, rfl, hl2⟩ := len_inv hl1
  have hl := List.eq_nil_of_length_eq_zero hl2
  subst hl
  have p1 := i_get (fOk_hd hp)
  have p2 := i_get (fOk_hd (fOk_tl hp))
  simp only [List.map, xv, fev, fvl, gtI, Int.one_mul, Int.add_zero, Int.zero_add] at p1 p2
  have q := k_wof_12 (k := k) (r := r) p1 p2
  refine ⟨[], rfl, fOk_cons (p_put3 rfl (by decide) ?_) fOk_nil⟩ <;> simp only [List.map, xv, fev, fvl, gtI, Int.one_mul, Int.add_zero, Int.zero_add, List.append_nil]
  exact q
def r_wof_13 : eRul := (2, [(.inl [[(13, 13)]], [xv 0]), (.inl [[(423, 423)]], [xv 1])], 0, [xP 77 [xv 0, xv 1]])
theorem r_wof_13_ok : ruOk r_wof_13 := by
  intro ρ hl0 hp
  obtain ⟨k, t0, rfl, hl1⟩ := len_inv hl0
  obtain ⟨r, t1, rfl, hl2⟩ := len_inv hl1
  have hl := List.eq_nil_of_length_eq_zero hl2
  subst hl
  have p1 := i_get (fOk_hd hp)
  have p2 := i_get (fOk_hd (fOk_tl hp))
  simp only [List.map, xv, fev, fvl, gtI, Int.one_mul, Int.add_zero, Int.zero_add] at p1 p2
  have q := k_wof_13 (k := k) (r := r) p1 p2
  refine ⟨[], rfl, fOk_cons (p_put3 rfl (by decide) ?_) fOk_nil⟩ <;> simp only [List.map, xv, fev, fvl, gtI, Int.one_mul, Int.add_zero, Int.zero_add, List.append_nil]
  exact q
def r_wof_14 : eRul := (2, [(.inl [[(14, 14)]], [xv 0]), (.inl [[(1111, 1111)]], [xv 1])], 0, [xP 77 [xv 0, xv 1]])
theorem r_wof_14_ok : ruOk r_wof_14 := by
  intro ρ hl0 hp
  obtain ⟨k, t0, rfl, hl1⟩ := len_inv hl0
  obtain ⟨r, t1, rfl, hl2⟩ := len_inv hl1
  have hl := List.eq_nil_of_length_eq_zero hl2
  subst hl
  have p1 := i_get (fOk_hd hp)
  have p2 := i_get (fOk_hd (fOk_tl hp))
  simp only [List.map, xv, fev, fvl, gtI, Int.one_mul, Int.add_zero, Int.zero_add] at p1 p2
  have q := k_wof_14 (k := k) (r := r) p1 p2
  refine ⟨[], rfl, fOk_cons (p_put3 rfl (by decide) ?_) fOk_nil⟩ <;> simp only [List.map, xv, fev, fvl, gtI, Int.one_mul, Int.add_zero, Int.zero_add, List.append_nil]
  exact q
def r_wof_15 : eRul := (2, [(.inl [[(15, 15)]], [xv 0]), (.inl [[(10631, 10631)]], [xv 1])], 0, [xP 77 [xv 0, xv 1]])
theorem r_wof_15_ok : ruOk r_wof_15 := by
  intro ρ hl0 hp
  obtain ⟨k, t0, rfl, hl1⟩ := len_inv hl0
  obtain ⟨r, t1, rfl, hl2⟩ := len_inv hl1
  have hl := List.eq_nil_of_length_eq_zero hl2
  subst hl
  have p1 := i_get (fOk_hd hp)
  have p2 := i_get (fOk_hd (fOk_tl hp))
  simp only [List.map, xv, fev, fvl, gtI, Int.one_mul, Int.add_zero, Int.zero_add] at p1 p2
  have q := k_wof_15 (k := k) (r := r) p1 p2
  refine ⟨[], rfl, fOk_cons (p_put3 rfl (by decide) ?_) fOk_nil⟩ <;> simp only [List.map, xv, fev, fvl, gtI, Int.one_mul, Int.add_zero, Int.zero_add, List.append_nil]
  exact q
def r_wof_16 : eRul := (2, [(.inl [[(16, 16)]], [xv 0]), (.inl [[(16922, 16922)]], [xv 1])], 0, [xP 77 [xv 0, xv 1]])
theorem r_wof_16_ok : ruOk r_wof_16 := by
  intro ρ hl0 hp
  obtain ⟨k, t0, rfl, hl1⟩ := len_inv hl0
  obtain ⟨r, t1, rfl, hl2⟩ := len_inv hl1
  have hl := List.eq_nil_of_length_eq_zero hl2
  subst hl
  have p1 := i_get (fOk_hd hp)
  have p2 := i_get (fOk_hd (fOk_tl hp))
  simp only [List.map, xv, fev, fvl, gtI, Int.one_mul, Int.add_zero, Int.zero_add] at p1 p2
  have q := k_wof_16 (k := k) (r := r) p1 p2
  refine ⟨[], rfl, fOk_cons (p_put3 rfl (by decide) ?_) fOk_nil⟩ <;> simp only [List.map, xv, fev, fvl, gtI, Int.one_mul, Int.add_zero, Int.zero_add, List.append_nil]
  exact q
def r_wof_17 : eRul := (2, [(.inl [[(17, 17)]], [xv 0]), (.inl [[(8903, 8903)]], [xv 1])], 0, [xP 77 [xv 0, xv 1]])
theorem r_wof_17_ok : ruOk r_wof_17 := by
  intro ρ hl0 hp
  obtain ⟨k, t0, rfl, hl1⟩ := len_inv hl0
  obtain ⟨r, t1, rfl, hl2⟩ := len_inv hl1
  have hl := List.eq_nil_of_length_eq_zero hl2
  subst hl
  have p1 := i_get (fOk_hd hp)
  have p2 := i_get (fOk_hd (fOk_tl hp))
  simp only [List.map, xv, fev, fvl, gtI, Int.one_mul, Int.add_zero, Int.zero_add] at p1 p2
  have q := k_wof_17 (k := k) (r := r) p1 p2
  refine ⟨[], rfl, fOk_cons (p_put3 rfl (by decide) ?_) fOk_nil⟩ <;> simp only [List.map, xv, fev, fvl, gtI, Int.one_mul, Int.add_zero, Int.zero_add, List.append_nil]
  exact q
def r_wof_18 : eRul := (2, [(.inl [[(18, 18)]], [xv 0]), (.inl [[(257, 257)]], [xv 1])], 0, [xP 77 [xv 0, xv 1]])
theorem r_wof_18_ok : ruOk r_wof_18 := by
  intro ρ hl0 hp
  obtain ⟨k, t0, rfl, hl1⟩ := len_inv hl0
  obtain ⟨r, t1, rfl, hl2⟩ := len_inv hl1
  have hl := List.eq_nil_of_length_eq_zero hl2
  subst hl
  have p1 := i_get (fOk_hd hp)
  have p2 := i_get (fOk_hd (fOk_tl hp))
  simp only [List.map, xv, fev, fvl, gtI, Int.one_mul, Int.add_zero, Int.zero_add] at p1 p2
  have q := k_wof_18 (k := k) (r := r) p1 p2
  refine ⟨[], rfl, fOk_cons (p_put3 rfl (by decide) ?_) fOk_nil⟩ <;> simp only [List.map, xv, fev, fvl, gtI, Int.one_mul, Int.add_zero, Int.zero_add, List.append_nil]
  exact q
def r_wof_19 : eRul := (2, [(.inl [[(19, 19)]], [xv 0]), (.inl [[(5878, 5878)]], [xv 1])], 0, [xP 77 [xv 0, xv 1]])
theorem r_wof_19_ok : ruOk r_wof_19 := by
  intro ρ hl0 hp
  obtain ⟨k, t0, rfl, hl1⟩ := len_inv hl0
  obtain ⟨r, t1, rfl, hl2⟩ := len_inv hl1
  have hl := List.eq_nil_of_length_eq_zero hl2
  subst hl
  have p1 := i_get (fOk_hd hp)
  have p2 := i_get (fOk_hd (fOk_tl hp))
  simp only [List.map, xv, fev, fvl, gtI, Int.one_mul, Int.add_zero, Int.zero_add] at p1 p2
  have q := k_wof_19 (k := k) (r := r) p1 p2
  refine ⟨[], rfl, fOk_cons (p_put3 rfl (by decide) ?_) fOk_nil⟩ <;> simp only [List.map, xv, fev, fvl, gtI, Int.one_mul, Int.add_zero, Int.zero_add, List.append_nil]
  exact q
def r_wof_20 : eRul := (2, [(.inl [[(20, 20)]], [xv 0]), (.inl [[(129458, 129458)]], [xv 1])], 0, [xP 77 [xv 0, xv 1]])
theorem r_wof_20_ok : ruOk r_wof_20 := by
  intro ρ hl0 hp
  obtain ⟨k, t0, rfl, hl1⟩ := len_inv hl0
  obtain ⟨r, t1, rfl, hl2⟩ := len_inv hl1
  have hl := List.eq_nil_of_length_eq_zero hl2
  subst hl
  have p1 := i_get (fOk_hd hp)
  have p2 := i_get (fOk_hd (fOk_tl hp))
  simp only [List.map, xv, fev, fvl, gtI, Int.one_mul, Int.add_zero, Int.zero_add] at p1 p2
  have q := k_wof_20 (k := k) (r := r) p1 p2
  refine ⟨[], rfl, fOk_cons (p_put3 rfl (by decide) ?_) fOk_nil⟩ <;> simp only [List.map, xv, fev, fvl, gtI, Int.one_mul, Int.add_zero, Int.zero_add, List.append_nil]
  exact q
def r_wof_21 : eRul := (2, [(.inl [[(21, 21)]], [xv 0]), (.inl [[(8863997, 8863997)]], [xv 1])], 0, [xP 77 [xv 0, xv 1]])
theorem r_wof_21_ok : ruOk r_wof_21 := by
  intro ρ hl0 hp
  obtain ⟨k, t0, rfl, hl1⟩ := len_inv hl0
  obtain ⟨r, t1, rfl, hl2⟩ := len_inv hl1
  have hl := List.eq_nil_of_length_eq_zero hl2
  subst hl
  have p1 := i_get (fOk_hd hp)
  have p2 := i_get (fOk_hd (fOk_tl hp))
  simp only [List.map, xv, fev, fvl, gtI, Int.one_mul, Int.add_zero, Int.zero_add] at p1 p2
  have q := k_wof_21 (k := k) (r := r) p1 p2
  refine ⟨[], rfl, fOk_cons (p_put3 rfl (by decide) ?_) fOk_nil⟩ <;> simp only [List.map, xv, fev, fvl, gtI, Int.one_mul, Int.add_zero, Int.zero_add, List.append_nil]
  exact q
def r_wof_22 : eRul := (2, [(.inl [[(22, 22)]], [xv 0]), (.inl [[(2236391, 2236391)]], [xv 1])], 0, [xP 77 [xv 0, xv 1]])
theorem r_wof_22_ok : ruOk r_wof_22 := by
  intro ρ hl0 hp
  obtain ⟨k, t0, rfl, hl1⟩ := len_inv hl0
  obtain ⟨r, t1, rfl, hl2⟩ := len_inv hl1
  have hl := List.eq_nil_of_length_eq_zero hl2
  subst hl
  have p1 := i_get (fOk_hd hp)
  have p2 := i_get (fOk_hd (fOk_tl hp))
  simp only [List.map, xv, fev, fvl, gtI, Int.one_mul, Int.add_zero, Int.zero_add] at p1 p2
  have q := k_wof_22 (k := k) (r := r) p1 p2
  refine ⟨[], rfl, fOk_cons (p_put3 rfl (by decide) ?_) fOk_nil⟩ <;> simp only [List.map, xv, fev, fvl, gtI, Int.one_mul, Int.add_zero, Int.zero_add, List.append_nil]
  exact q
def r_wof_23 : eRul := (2, [(.inl [[(23, 23)]], [xv 0]), (.inl [[(212302449, 212302449)]], [xv 1])], 0, [xP 77 [xv 0, xv 1]])
theorem r_wof_23_ok : ruOk r_wof_23 := by
  intro ρ hl0 hp
  obtain ⟨k, t0, rfl, hl1⟩ := len_inv hl0
  obtain ⟨r, t1, rfl, hl2⟩ := len_inv hl1
  have hl := List.eq_nil_of_length_eq_zero hl2
  subst hl
  have p1 := i_get (fOk_hd hp)
  have p2 := i_get (fOk_hd (fOk_tl hp))
  simp only [List.map, xv, fev, fvl, gtI, Int.one_mul, Int.add_zero, Int.zero_add] at p1 p2
  have q := k_wof_23 (k := k) (r := r) p1 p2
  refine ⟨[], rfl, fOk_cons (p_put3 rfl (by decide) ?_) fOk_nil⟩ <;> simp only [List.map, xv, fev, fvl, gtI, Int.one_mul, Int.add_zero, Int.zero_add, List.append_nil]
  exact q
def r_isw_1 : eRul := (5, [xP 77 [xv 0, xv 1], (.inl [[(2, 2)]], [xv 2]), xG (([(1, -1), (3, 1)], 0)), xG (([(1, 1), (3, -1)], 0)), (.inl [[(1, 1)]], [xv 4])], 0, [xP 76 [xv 2, xv 3, xv 0, xv 4]])
theorem r_isw_1_ok : ruOk r_isw_1 := by
  intro ρ hl0 hp
  obtain ⟨k, t0, rfl, hl1⟩ := len_inv hl0
  obtain ⟨c, t1, rfl, hl2⟩ := len_inv hl1
  obtain ⟨kd, t2, rfl, hl3⟩ := len_inv hl2
  obtain ⟨w, t3, rfl, hl4⟩ := len_inv hl3
  obtain ⟨r, t4, rfl, hl5⟩ := len_inv hl4
  have hl := List.eq_nil_of_length_eq_zero hl5
  subst hl
  have p1 := p_get3 (by decide) (fOk_hd hp)
  have p2 := i_get (fOk_hd (fOk_tl hp))
  have p3 := gg_get (fOk_hd (fOk_tl (fOk_tl hp)))
  have p4 := gg_get (fOk_hd (fOk_tl (fOk_tl (fOk_tl hp))))
  have p5 := i_get (fOk_hd (fOk_tl (fOk_tl (fOk_tl (fOk_tl hp)))))
  simp only [List.map, xv, fev, fvl, gtI, Int.one_mul, Int.add_zero, Int.zero_add] at p1 p2 p3 p4 p5
  have q := k_isw_1 (k := k) (c := c) (kd := kd) (w := w) (r := r) p1 p2 p3 p4 p5
  refine ⟨[], rfl, fOk_cons (p_put3 rfl (by decide) ?_) fOk_nil⟩ <;> simp only [List.map, xv, fev, fvl, gtI, Int.one_mul, Int.add_zero, Int.zero_add, List.append_nil]
  exact q
def r_isw_l : eRul := (5, [xP 77 [xv 0, xv 1], (.inl [[(-18446744073709551616, -1)]], [([(1, -1), (2, 1)], 0)]), (.inl [[(0, 0)]], [xv 3])], 0, [xP 76 [xv 4, xv 2, xv 0, xv 3]])
theorem r_isw_l_ok : ruOk r_isw_l := by
  intro ρ hl0 hp
  obtain ⟨k, t0, rfl, hl1⟩ := len_inv hl0
  obtain ⟨c, t1, rfl, hl2⟩ := len_inv hl1
  obtain ⟨w, t2, rfl, hl3⟩ := len_inv hl2
  obtain ⟨r, t3, rfl, hl4⟩ := len_inv hl3
  obtain ⟨kd, t4, rfl, hl5⟩ := len_inv hl4
  have hl := List.eq_nil_of_length_eq_zero hl5
  subst hl
  have p1 := p_get3 (by decide) (fOk_hd hp)
  have p2 := i_get (fOk_hd (fOk_tl hp))
  have p3 := i_get (fOk_hd (fOk_tl (fOk_tl hp)))
  simp only [List.map, xv, fev, fvl, gtI, Int.one_mul, Int.add_zero, Int.zero_add] at p1 p2 p3
  have q := k_isw_l (k := k) (c := c) (w := w) (r := r) (kd := kd) p1 p2 p3
  refine ⟨[], rfl, fOk_cons (p_put3 rfl (by decide) ?_) fOk_nil⟩ <;> simp only [List.map, xv, fev, fvl, gtI, Int.one_mul, Int.add_zero, Int.zero_add, List.append_nil]
  exact q
def r_isw_g : eRul := (5, [xP 77 [xv 0, xv 1], (.inl [[(-18446744073709551616, -1)]], [([(1, 1), (2, -1)], 0)]), (.inl [[(0, 0)]], [xv 3])], 0, [xP 76 [xv 4, xv 2, xv 0, xv 3]])
theorem r_isw_g_ok : ruOk r_isw_g := by
  intro ρ hl0 hp
  obtain ⟨k, t0, rfl, hl1⟩ := len_inv hl0
  obtain ⟨c, t1, rfl, hl2⟩ := len_inv hl1
  obtain ⟨w, t2, rfl, hl3⟩ := len_inv hl2
  obtain ⟨r, t3, rfl, hl4⟩ := len_inv hl3
  obtain ⟨kd, t4, rfl, hl5⟩ := len_inv hl4
  have hl := List.eq_nil_of_length_eq_zero hl5
  subst hl
  have p1 := p_get3 (by decide) (fOk_hd hp)
  have p2 := i_get (fOk_hd (fOk_tl hp))
  have p3 := i_get (fOk_hd (fOk_tl (fOk_tl hp)))
  simp only [List.map, xv, fev, fvl, gtI, Int.one_mul, Int.add_zero, Int.zero_add] at p1 p2 p3
  have q := k_isw_g (k := k) (c := c) (w := w) (r := r) (kd := kd) p1 p2 p3
  refine ⟨[], rfl, fOk_cons (p_put3 rfl (by decide) ?_) fOk_nil⟩ <;> simp only [List.map, xv, fev, fvl, gtI, Int.one_mul, Int.add_zero, Int.zero_add, List.append_nil]
  exact q
def r_isw_a : eRul := (4, [xG (([(0, 1)], -1)), (.inl [[(0, 0)]], [xv 1])], 0, [xP 76 [xv 0, xv 2, xv 3, xv 1]])
theorem r_isw_a_ok : ruOk r_isw_a := by
  intro ρ hl0 hp
  obtain ⟨kd, t0, rfl, hl1⟩ := len_inv hl0
  obtain ⟨r, t1, rfl, hl2⟩ := len_inv hl1
  obtain ⟨w, t2, rfl, hl3⟩ := len_inv hl2
  obtain ⟨k, t3, rfl, hl4⟩ := len_inv hl3
  have hl := List.eq_nil_of_length_eq_zero hl4
  subst hl
  have p1 := gg_get (fOk_hd hp)
  have p2 := i_get (fOk_hd (fOk_tl hp))
  simp only [List.map, xv, fev, fvl, gtI, Int.one_mul, Int.add_zero, Int.zero_add] at p1 p2
  have q := k_isw_a (kd := kd) (r := r) (w := w) (k := k) p1 p2
  refine ⟨[], rfl, fOk_cons (p_put3 rfl (by decide) ?_) fOk_nil⟩ <;> simp only [List.map, xv, fev, fvl, gtI, Int.one_mul, Int.add_zero, Int.zero_add, List.append_nil]
  exact q
def r_isw_b : eRul := (4, [xG (([(0, -1)], 3)), (.inl [[(0, 0)]], [xv 1])], 0, [xP 76 [xv 0, xv 2, xv 3, xv 1]])
theorem r_isw_b_ok : ruOk r_isw_b := by
  intro ρ hl0 hp
  obtain ⟨kd, t0, rfl, hl1⟩ := len_inv hl0
  obtain ⟨r, t1, rfl, hl2⟩ := len_inv hl1
  obtain ⟨w, t2, rfl, hl3⟩ := len_inv hl2
  obtain ⟨k, t3, rfl, hl4⟩ := len_inv hl3
  have hl := List.eq_nil_of_length_eq_zero hl4
  subst hl
  have p1 := gg_get (fOk_hd hp)
  have p2 := i_get (fOk_hd (fOk_tl hp))
  simp only [List.map, xv, fev, fvl, gtI, Int.one_mul, Int.add_zero, Int.zero_add] at p1 p2
  have q := k_isw_b (kd := kd) (r := r) (w := w) (k := k) p1 p2
  refine ⟨[], rfl, fOk_cons (p_put3 rfl (by decide) ?_) fOk_nil⟩ <;> simp only [List.map, xv, fev, fvl, gtI, Int.one_mul, Int.add_zero, Int.zero_add, List.append_nil]
  exact q
def r_isn_0 : eRul := (1, [], 0, [xP 78 [xv 0, ([], 0)]])
theorem r_isn_0_ok : ruOk r_isn_0 := by
  intro ρ hl0 hp
  obtain ⟨w, t0, rfl, hl1⟩ := len_inv hl0
  have hl := List.eq_nil_of_length_eq_zero hl1
  subst hl
  have q := k_isn_0 (w := w)
  refine ⟨[], rfl, fOk_cons (p_put3 rfl (by decide) ?_) fOk_nil⟩ <;> simp only [List.map, xv, fev, fvl, gtI, Int.one_mul, Int.add_zero, Int.zero_add, List.append_nil]
  exact q
def r_isn_l : eRul := (3, [xP 78 [xv 0, xv 1], xP 77 [xv 1, xv 2], (.inl [[(-18446744073709551616, -1)]], [([(0, 1), (2, -1)], 0)])], 0, [xP 78 [xv 0, ([(1, 1)], 1)]])
theorem r_isn_l_ok : ruOk r_isn_l := by
  intro ρ hl0 hp
  obtain ⟨w, t0, rfl, hl1⟩ := len_inv hl0
  obtain ⟨k, t1, rfl, hl2⟩ := len_inv hl1
  obtain ⟨c, t2, rfl, hl3⟩ := len_inv hl2
  have hl := List.eq_nil_of_length_eq_zero hl3
  subst hl
  have p1 := p_get3 (by decide) (fOk_hd hp)
  have p2 := p_get3 (by decide) (fOk_hd (fOk_tl hp))
  have p3 := i_get (fOk_hd (fOk_tl (fOk_tl hp)))
  simp only [List.map, xv, fev, fvl, gtI, Int.one_mul, Int.add_zero, Int.zero_add] at p1 p2 p3
  have q := k_isn_l (w := w) (k := k) (c := c) p1 p2 p3
  refine ⟨[], rfl, fOk_cons (p_put3 rfl (by decide) ?_) fOk_nil⟩ <;> simp only [List.map, xv, fev, fvl, gtI, Int.one_mul, Int.add_zero, Int.zero_add, List.append_nil]
  exact q
def r_isn_g : eRul := (3, [xP 78 [xv 0, xv 1], xP 77 [xv 1, xv 2], (.inl [[(-18446744073709551616, -1)]], [([(0, -1), (2, 1)], 0)])], 0, [xP 78 [xv 0, ([(1, 1)], 1)]])
theorem r_isn_g_ok : ruOk r_isn_g := by
  intro ρ hl0 hp
  obtain ⟨w, t0, rfl, hl1⟩ := len_inv hl0
  obtain ⟨k, t1, rfl, hl2⟩ := len_inv hl1
  obtain ⟨c, t2, rfl, hl3⟩ := len_inv hl2
  have hl := List.eq_nil_of_length_eq_zero hl3
  subst hl
  have p1 := p_get3 (by decide) (fOk_hd hp)
  have p2 := p_get3 (by decide) (fOk_hd (fOk_tl hp))
  have p3 := i_get (fOk_hd (fOk_tl (fOk_tl hp)))
  simp only [List.map, xv, fev, fvl, gtI, Int.one_mul, Int.add_zero, Int.zero_add] at p1 p2 p3
  have q := k_isn_g (w := w) (k := k) (c := c) p1 p2 p3
  refine ⟨[], rfl, fOk_cons (p_put3 rfl (by decide) ?_) fOk_nil⟩ <;> simp only [List.map, xv, fev, fvl, gtI, Int.one_mul, Int.add_zero, Int.zero_add, List.append_nil]
  exact q
def r_namr_1 : eRul := (4, [xP 78 [xv 0, xv 1], xG (([(1, -1)], 24)), (.inl [[(2, 2)]], [xv 2]), (.inl [[(1, 1)]], [xv 3])], 0, [xP 79 [xv 2, xv 0, xv 3]])
theorem r_namr_1_ok : ruOk r_namr_1 := by
  intro ρ hl0 hp
  obtain ⟨w, t0, rfl, hl1⟩ := len_inv hl0
  obtain ⟨k, t1, rfl, hl2⟩ := len_inv hl1
  obtain ⟨kd, t2, rfl, hl3⟩ := len_inv hl2
  obtain ⟨r, t3, rfl, hl4⟩ := len_inv hl3
  have hl := List.eq_nil_of_length_eq_zero hl4
  subst hl
  have p1 := p_get3 (by decide) (fOk_hd hp)
  have p2 := gg_get (fOk_hd (fOk_tl hp))
  have p3 := i_get (fOk_hd (fOk_tl (fOk_tl hp)))
  have p4 := i_get (fOk_hd (fOk_tl (fOk_tl (fOk_tl hp))))
  simp only [List.map, xv, fev, fvl, gtI, Int.one_mul, Int.add_zero, Int.zero_add] at p1 p2 p3 p4
  have q := k_namr_1 (w := w) (k := k) (kd := kd) (r := r) p1 p2 p3 p4
  refine ⟨[], rfl, fOk_cons (p_put3 rfl (by decide) ?_) fOk_nil⟩ <;> simp only [List.map, xv, fev, fvl, gtI, Int.one_mul, Int.add_zero, Int.zero_add, List.append_nil]
  exact q
def r_namr_0 : eRul := (5, [xP 77 [xv 0, xv 1], xG (([(0, -1)], 0)), xG (([(0, 1)], -23)), xG (([(1, -1), (2, 1)], 0)), xG (([(1, 1), (2, -1)], 0)), (.inl [[(0, 0)]], [xv 3])], 0, [xP 79 [xv 4, xv 2, xv 3]])
theorem r_namr_0_ok : ruOk r_namr_0 := by
  intro ρ hl0 hp
  obtain ⟨k, t0, rfl, hl1⟩ := len_inv hl0
  obtain ⟨c, t1, rfl, hl2⟩ := len_inv hl1
  obtain ⟨w, t2, rfl, hl3⟩ := len_inv hl2
  obtain ⟨r, t3, rfl, hl4⟩ := len_inv hl3
  obtain ⟨kd, t4, rfl, hl5⟩ := len_inv hl4
  have hl := List.eq_nil_of_length_eq_zero hl5
  subst hl
  have p1 := p_get3 (by decide) (fOk_hd hp)
  have p2 := gg_get (fOk_hd (fOk_tl hp))
  have p3 := gg_get (fOk_hd (fOk_tl (fOk_tl hp)))
  have p4 := gg_get (fOk_hd (fOk_tl (fOk_tl (fOk_tl hp))))
  have p5 := gg_get (fOk_hd (fOk_tl (fOk_tl (fOk_tl (fOk_tl hp)))))
  have p6 := i_get (fOk_hd (fOk_tl (fOk_tl (fOk_tl (fOk_tl (fOk_tl hp))))))
  simp only [List.map, xv, fev, fvl, gtI, Int.one_mul, Int.add_zero, Int.zero_add] at p1 p2 p3 p4 p5 p6
  have q := k_namr_0 (k := k) (c := c) (w := w) (r := r) (kd := kd) p1 p2 p3 p4 p5 p6
  refine ⟨[], rfl, fOk_cons (p_put3 rfl (by decide) ?_) fOk_nil⟩ <;> simp only [List.map, xv, fev, fvl, gtI, Int.one_mul, Int.add_zero, Int.zero_add, List.append_nil]
  exact q
def r_namr_a : eRul := (3, [xG (([(0, 1)], -1)), (.inl [[(0, 0)]], [xv 1])], 0, [xP 79 [xv 0, xv 2, xv 1]])
theorem r_namr_a_ok : ruOk r_namr_a := by
  intro ρ hl0 hp
  obtain ⟨kd, t0, rfl, hl1⟩ := len_inv hl0
  obtain ⟨r, t1, rfl, hl2⟩ := len_inv hl1
  obtain ⟨w, t2, rfl, hl3⟩ := len_inv hl2
  have hl := List.eq_nil_of_length_eq_zero hl3
  subst hl
  have p1 := gg_get (fOk_hd hp)
  have p2 := i_get (fOk_hd (fOk_tl hp))
  simp only [List.map, xv, fev, fvl, gtI, Int.one_mul, Int.add_zero, Int.zero_add] at p1 p2
  have q := k_namr_a (kd := kd) (r := r) (w := w) p1 p2
  refine ⟨[], rfl, fOk_cons (p_put3 rfl (by decide) ?_) fOk_nil⟩ <;> simp only [List.map, xv, fev, fvl, gtI, Int.one_mul, Int.add_zero, Int.zero_add, List.append_nil]
  exact q
def r_namr_b : eRul := (3, [xG (([(0, -1)], 3)), (.inl [[(0, 0)]], [xv 1])], 0, [xP 79 [xv 0, xv 2, xv 1]])
theorem r_namr_b_ok : ruOk r_namr_b := by
  intro ρ hl0 hp
  obtain ⟨kd, t0, rfl, hl1⟩ := len_inv hl0
  obtain ⟨r, t1, rfl, hl2⟩ := len_inv hl1
  obtain ⟨w, t2, rfl, hl3⟩ := len_inv hl2
  have hl := List.eq_nil_of_length_eq_zero hl3
  subst hl
  have p1 := gg_get (fOk_hd hp)
  have p2 := i_get (fOk_hd (fOk_tl hp))
  simp only [List.map, xv, fev, fvl, gtI, Int.one_mul, Int.add_zero, Int.zero_add] at p1 p2
  have q := k_namr_b (kd := kd) (r := r) (w := w) p1 p2
  refine ⟨[], rfl, fOk_cons (p_put3 rfl (by decide) ?_) fOk_nil⟩ <;> simp only [List.map, xv, fev, fvl, gtI, Int.one_mul, Int.add_zero, Int.zero_add, List.append_nil]
  exact q
def r_ctr_d : eRul := (3, [xP 1 [xv 0, xv 1, xv 2]], 0, [xP 92 [xv 1, xv 2, xv 0]])
theorem r_ctr_d_ok : ruOk r_ctr_d := by
  intro ρ hl0 hp
  obtain ⟨h, t0, rfl, hl1⟩ := len_inv hl0
  obtain ⟨z, t1, rfl, hl2⟩ := len_inv hl1
  obtain ⟨c, t2, rfl, hl3⟩ := len_inv hl2
  have hl := List.eq_nil_of_length_eq_zero hl3
  subst hl
  have p1 := p_get (fOk_hd hp)
  simp only [List.map, xv, fev, fvl, gtI, Int.one_mul, Int.add_zero, Int.zero_add, PR] at p1
  have q := k_ctr_d (h := h) (z := z) (c := c) p1
  refine ⟨[], rfl, fOk_cons (p_put3 rfl (by decide) ?_) fOk_nil⟩ <;> simp only [List.map, xv, fev, fvl, gtI, Int.one_mul, Int.add_zero, Int.zero_add, List.append_nil]
  exact q
def r_ctr_u : eRul := (6, [xP 92 [xv 0, xv 1, xv 2], xP 2 [xv 3, xv 0, xv 4, xv 5], xG (([(1, 1), (4, -1)], 1))], 0, [xP 92 [xv 3, xv 1, xv 2]])
theorem r_ctr_u_ok : ruOk r_ctr_u := by
  intro ρ hl0 hp
  obtain ⟨y, t0, rfl, hl1⟩ := len_inv hl0
  obtain ⟨c, t1, rfl, hl2⟩ := len_inv hl1
  obtain ⟨h, t2, rfl, hl3⟩ := len_inv hl2
  obtain ⟨z, t3, rfl, hl4⟩ := len_inv hl3
  obtain ⟨j, t4, rfl, hl5⟩ := len_inv hl4
  obtain ⟨v, t5, rfl, hl6⟩ := len_inv hl5
  have hl := List.eq_nil_of_length_eq_zero hl6
  subst hl
  have p1 := p_get3 (by decide) (fOk_hd hp)
  have p2 := p_get (fOk_hd (fOk_tl hp))
  have p3 := gg_get (fOk_hd (fOk_tl (fOk_tl hp)))
  simp only [List.map, xv, fev, fvl, gtI, Int.one_mul, Int.add_zero, Int.zero_add, PR] at p1 p2 p3
  have q := k_ctr_u (y := y) (c := c) (h := h) (z := z) (j := j) (v := v) p1 p2 p3
  refine ⟨[], rfl, fOk_cons (p_put3 rfl (by decide) ?_) fOk_nil⟩ <;> simp only [List.map, xv, fev, fvl, gtI, Int.one_mul, Int.add_zero, Int.zero_add, List.append_nil]
  exact q
def r_cnt_1 : eRul := (5, [xP 1 [xv 0, xv 1, xv 2], xG (([(0, 1), (3, -1)], 0)), xG (([(0, -1), (3, 1)], 0)), (.inl [[(1, 1)]], [xv 4])], 0, [xP 93 [xv 1, xv 2, xv 3, xv 4]])
theorem r_cnt_1_ok : ruOk r_cnt_1 := by
  intro ρ hl0 hp
  obtain ⟨x, t0, rfl, hl1⟩ := len_inv hl0
  obtain ⟨z, t1, rfl, hl2⟩ := len_inv hl1
  obtain ⟨c, t2, rfl, hl3⟩ := len_inv hl2
  obtain ⟨m, t3, rfl, hl4⟩ := len_inv hl3
  obtain ⟨r, t4, rfl, hl5⟩ := len_inv hl4
  have hl := List.eq_nil_of_length_eq_zero hl5
  subst hl
  have p1 := p_get (fOk_hd hp)
  have p2 := gg_get (fOk_hd (fOk_tl hp))
  have p3 := gg_get (fOk_hd (fOk_tl (fOk_tl hp)))
  have p4 := i_get (fOk_hd (fOk_tl (fOk_tl (fOk_tl hp))))
  simp only [List.map, xv, fev, fvl, gtI, Int.one_mul, Int.add_zero, Int.zero_add, PR] at p1 p2 p3 p4
  have q := k_cnt_1 (x := x) (z := z) (c := c) (m := m) (r := r) p1 p2 p3 p4
  refine ⟨[], rfl, fOk_cons (p_put3 rfl (by decide) ?_) fOk_nil⟩ <;> simp only [List.map, xv, fev, fvl, gtI, Int.one_mul, Int.add_zero, Int.zero_add, List.append_nil]
  exact q
def r_cnt_l : eRul := (5, [xP 1 [xv 0, xv 1, xv 2], (.inl [[(-4294967296, -1)]], [([(0, 1), (3, -1)], 0)]), (.inl [[(0, 0)]], [xv 4])], 0, [xP 93 [xv 1, xv 2, xv 3, xv 4]])
theorem r_cnt_l_ok : ruOk r_cnt_l := by
  intro ρ hl0 hp
  obtain ⟨x, t0, rfl, hl1⟩ := len_inv hl0
  obtain ⟨z, t1, rfl, hl2⟩ := len_inv hl1
  obtain ⟨c, t2, rfl, hl3⟩ := len_inv hl2
  obtain ⟨m, t3, rfl, hl4⟩ := len_inv hl3
  obtain ⟨r, t4, rfl, hl5⟩ := len_inv hl4
  have hl := List.eq_nil_of_length_eq_zero hl5
  subst hl
  have p1 := p_get (fOk_hd hp)
  have p2 := i_get (fOk_hd (fOk_tl hp))
  have p3 := i_get (fOk_hd (fOk_tl (fOk_tl hp)))
  simp only [List.map, xv, fev, fvl, gtI, Int.one_mul, Int.add_zero, Int.zero_add, PR] at p1 p2 p3
  have q := k_cnt_l (x := x) (z := z) (c := c) (m := m) (r := r) p1 p2 p3
  refine ⟨[], rfl, fOk_cons (p_put3 rfl (by decide) ?_) fOk_nil⟩ <;> simp only [List.map, xv, fev, fvl, gtI, Int.one_mul, Int.add_zero, Int.zero_add, List.append_nil]
  exact q
def r_cnt_g : eRul := (5, [xP 1 [xv 0, xv 1, xv 2], (.inl [[(-4294967296, -1)]], [([(0, -1), (3, 1)], 0)]), (.inl [[(0, 0)]], [xv 4])], 0, [xP 93 [xv 1, xv 2, xv 3, xv 4]])
theorem r_cnt_g_ok : ruOk r_cnt_g := by
  intro ρ hl0 hp
  obtain ⟨x, t0, rfl, hl1⟩ := len_inv hl0
  obtain ⟨z, t1, rfl, hl2⟩ := len_inv hl1
  obtain ⟨c, t2, rfl, hl3⟩ := len_inv hl2
  obtain ⟨m, t3, rfl, hl4⟩ := len_inv hl3
  obtain ⟨r, t4, rfl, hl5⟩ := len_inv hl4
  have hl := List.eq_nil_of_length_eq_zero hl5
  subst hl
  have p1 := p_get (fOk_hd hp)
  have p2 := i_get (fOk_hd (fOk_tl hp))
  have p3 := i_get (fOk_hd (fOk_tl (fOk_tl hp)))
  simp only [List.map, xv, fev, fvl, gtI, Int.one_mul, Int.add_zero, Int.zero_add, PR] at p1 p2 p3
  have q := k_cnt_g (x := x) (z := z) (c := c) (m := m) (r := r) p1 p2 p3
  refine ⟨[], rfl, fOk_cons (p_put3 rfl (by decide) ?_) fOk_nil⟩ <;> simp only [List.map, xv, fev, fvl, gtI, Int.one_mul, Int.add_zero, Int.zero_add, List.append_nil]
  exact q
def r_cnt_u : eRul := (4, [xP 93 [xv 0, xv 1, xv 2, ([], 0)], xP 1 [xv 3, xv 0, xv 1], xG (([(2, -1), (3, 1)], 0)), xG (([(3, -1)], 0)), (.inl [[(0, 1000)]], [xv 2])], 0, [xG (([(2, -1), (3, 1)], 1))])
theorem r_cnt_u_ok : ruOk r_cnt_u := by
  intro ρ hl0 hp
  obtain ⟨z, t0, rfl, hl1⟩ := len_inv hl0
  obtain ⟨c, t1, rfl, hl2⟩ := len_inv hl1
  obtain ⟨m, t2, rfl, hl3⟩ := len_inv hl2
  obtain ⟨h, t3, rfl, hl4⟩ := len_inv hl3
  have hl := List.eq_nil_of_length_eq_zero hl4
  subst hl
  have p1 := p_get3 (by decide) (fOk_hd hp)
  have p2 := p_get (fOk_hd (fOk_tl hp))
  have p3 := gg_get (fOk_hd (fOk_tl (fOk_tl hp)))
  have p4 := gg_get (fOk_hd (fOk_tl (fOk_tl (fOk_tl hp))))
  have p5 := i_get (fOk_hd (fOk_tl (fOk_tl (fOk_tl (fOk_tl hp)))))
  simp only [List.map, xv, fev, fvl, gtI, Int.one_mul, Int.add_zero, Int.zero_add, PR] at p1 p2 p3 p4 p5
  have q := k_cnt_u (z := z) (c := c) (m := m) (h := h) p1 p2 p3 p4 p5
  refine ⟨[], rfl, fOk_cons (gg_put rfl ?_ ?_) fOk_nil⟩ <;> simp only [List.map, xv, fev, fvl, gtI, Int.one_mul, Int.add_zero, Int.zero_add, List.append_nil]
  · exact q.1
  · exact q.2
def r_ctr_le : eRul := (5, [xP 92 [xv 0, xv 1, xv 2], xP 1 [xv 3, xv 0, xv 1], xG (([(2, 1), (4, -1)], 0)), xG (([(2, -1)], 0)), (.inl [[(0, 1000)]], [xv 4])], 0, [xG (([(3, 1), (4, -1)], 0))])
theorem r_ctr_le_ok : ruOk r_ctr_le := by
  intro ρ hl0 hp
  obtain ⟨z, t0, rfl, hl1⟩ := len_inv hl0
  obtain ⟨c, t1, rfl, hl2⟩ := len_inv hl1
  obtain ⟨h, t2, rfl, hl3⟩ := len_inv hl2
  obtain ⟨x, t3, rfl, hl4⟩ := len_inv hl3
  obtain ⟨m, t4, rfl, hl5⟩ := len_inv hl4
  have hl := List.eq_nil_of_length_eq_zero hl5
  subst hl
  have p1 := p_get3 (by decide) (fOk_hd hp)
  have p2 := p_get (fOk_hd (fOk_tl hp))
  have p3 := gg_get (fOk_hd (fOk_tl (fOk_tl hp)))
  have p4 := gg_get (fOk_hd (fOk_tl (fOk_tl (fOk_tl hp))))
  have p5 := i_get (fOk_hd (fOk_tl (fOk_tl (fOk_tl (fOk_tl hp)))))
  simp only [List.map, xv, fev, fvl, gtI, Int.one_mul, Int.add_zero, Int.zero_add, PR] at p1 p2 p3 p4 p5
  have q := k_ctr_le (z := z) (c := c) (h := h) (x := x) (m := m) p1 p2 p3 p4 p5
  refine ⟨[], rfl, fOk_cons (gg_put rfl ?_ ?_) fOk_nil⟩ <;> simp only [List.map, xv, fev, fvl, gtI, Int.one_mul, Int.add_zero, Int.zero_add, List.append_nil]
  · exact q.1
  · exact q.2
def r_fndr : eRul := (7, [xP 1 [xv 0, xv 1, xv 2], xP 61 [xv 3, xv 4, xv 0, xv 5, xv 6]], 0, [xP 96 [xv 3, xv 1, xv 4, xv 2, xv 5, xv 6]])
theorem r_fndr_ok : ruOk r_fndr := by
  intro ρ hl0 hp
  obtain ⟨m, t0, rfl, hl1⟩ := len_inv hl0
  obtain ⟨zr, t1, rfl, hl2⟩ := len_inv hl1
  obtain ⟨c, t2, rfl, hl3⟩ := len_inv hl2
  obtain ⟨zm, t3, rfl, hl4⟩ := len_inv hl3
  obtain ⟨b, t4, rfl, hl5⟩ := len_inv hl4
  obtain ⟨w, t5, rfl, hl6⟩ := len_inv hl5
  obtain ⟨i, t6, rfl, hl7⟩ := len_inv hl6
  have hl := List.eq_nil_of_length_eq_zero hl7
  subst hl
  have p1 := p_get (fOk_hd hp)
  have p2 := p_get3 (by decide) (fOk_hd (fOk_tl hp))
  simp only [List.map, xv, fev, fvl, gtI, Int.one_mul, Int.add_zero, Int.zero_add, PR] at p1 p2
  have q := k_fndr (m := m) (zr := zr) (c := c) (zm := zm) (b := b) (w := w) (i := i) p1 p2
  refine ⟨[], rfl, fOk_cons (p_put3 rfl (by decide) ?_) fOk_nil⟩ <;> simp only [List.map, xv, fev, fvl, gtI, Int.one_mul, Int.add_zero, Int.zero_add, List.append_nil]
  exact q
def r_knr_0 : eRul := (5, [xP 1 [xv 0, xv 1, ([], 0)], xP 61 [xv 2, ([], 0), xv 0, xv 3, xv 4], xG (([(4, -1)], 0))], 0, [xP 95 [xv 2, xv 1, xv 3]])
theorem r_knr_0_ok : ruOk r_knr_0 := by
  intro ρ hl0 hp
  obtain ⟨m, t0, rfl, hl1⟩ := len_inv hl0
  obtain ⟨zr, t1, rfl, hl2⟩ := len_inv hl1
  obtain ⟨zm, t2, rfl, hl3⟩ := len_inv hl2
  obtain ⟨w, t3, rfl, hl4⟩ := len_inv hl3
  obtain ⟨i, t4, rfl, hl5⟩ := len_inv hl4
  have hl := List.eq_nil_of_length_eq_zero hl5
  subst hl
  have p1 := p_get (fOk_hd hp)
  have p2 := p_get3 (by decide) (fOk_hd (fOk_tl hp))
  have p3 := gg_get (fOk_hd (fOk_tl (fOk_tl hp)))
  simp only [List.map, xv, fev, fvl, gtI, Int.one_mul, Int.add_zero, Int.zero_add, PR] at p1 p2 p3
  have q := k_knr_0 (m := m) (zr := zr) (zm := zm) (w := w) (i := i) p1 p2 p3
  refine ⟨[], rfl, fOk_cons (p_put3 rfl (by decide) ?_) fOk_nil⟩ <;> simp only [List.map, xv, fev, fvl, gtI, Int.one_mul, Int.add_zero, Int.zero_add, List.append_nil]
  exact q
def r_knr_1 : eRul := (5, [xP 1 [xv 0, xv 1, ([], 1)], xP 61 [xv 2, ([], 5), xv 0, xv 3, xv 4], xG (([(4, -1)], 0))], 0, [xP 95 [xv 2, xv 1, xv 3]])
theorem r_knr_1_ok : ruOk r_knr_1 := by
  intro ρ hl0 hp
  obtain ⟨m, t0, rfl, hl1⟩ := len_inv hl0
  obtain ⟨zr, t1, rfl, hl2⟩ := len_inv hl1
  obtain ⟨zm, t2, rfl, hl3⟩ := len_inv hl2
  obtain ⟨w, t3, rfl, hl4⟩ := len_inv hl3
  obtain ⟨i, t4, rfl, hl5⟩ := len_inv hl4
  have hl := List.eq_nil_of_length_eq_zero hl5
  subst hl
  have p1 := p_get (fOk_hd hp)
  have p2 := p_get3 (by decide) (fOk_hd (fOk_tl hp))
  have p3 := gg_get (fOk_hd (fOk_tl (fOk_tl hp)))
  simp only [List.map, xv, fev, fvl, gtI, Int.one_mul, Int.add_zero, Int.zero_add, PR] at p1 p2 p3
  have q := k_knr_1 (m := m) (zr := zr) (zm := zm) (w := w) (i := i) p1 p2 p3
  refine ⟨[], rfl, fOk_cons (p_put3 rfl (by decide) ?_) fOk_nil⟩ <;> simp only [List.map, xv, fev, fvl, gtI, Int.one_mul, Int.add_zero, Int.zero_add, List.append_nil]
  exact q
def r_knr_2 : eRul := (5, [xP 1 [xv 0, xv 1, ([], 2)], xP 61 [xv 2, ([], 13), xv 0, xv 3, xv 4], xG (([(4, -1)], 0))], 0, [xP 95 [xv 2, xv 1, xv 3]])
theorem r_knr_2_ok : ruOk r_knr_2 := by
  intro ρ hl0 hp
  obtain ⟨m, t0, rfl, hl1⟩ := len_inv hl0
  obtain ⟨zr, t1, rfl, hl2⟩ := len_inv hl1
  obtain ⟨zm, t2, rfl, hl3⟩ := len_inv hl2
  obtain ⟨w, t3, rfl, hl4⟩ := len_inv hl3
  obtain ⟨i, t4, rfl, hl5⟩ := len_inv hl4
  have hl := List.eq_nil_of_length_eq_zero hl5
  subst hl
  have p1 := p_get (fOk_hd hp)
  have p2 := p_get3 (by decide) (fOk_hd (fOk_tl hp))
  have p3 := gg_get (fOk_hd (fOk_tl (fOk_tl hp)))
  simp only [List.map, xv, fev, fvl, gtI, Int.one_mul, Int.add_zero, Int.zero_add, PR] at p1 p2 p3
  have q := k_knr_2 (m := m) (zr := zr) (zm := zm) (w := w) (i := i) p1 p2 p3
  refine ⟨[], rfl, fOk_cons (p_put3 rfl (by decide) ?_) fOk_nil⟩ <;> simp only [List.map, xv, fev, fvl, gtI, Int.one_mul, Int.add_zero, Int.zero_add, List.append_nil]
  exact q
def r_nkr : eRul := (3, [xP 96 [xv 0, xv 1, ([], 0), ([], 0), xv 2, ([], -1)], xP 96 [xv 0, xv 1, ([], 5), ([], 1), xv 2, ([], -1)], xP 96 [xv 0, xv 1, ([], 13), ([], 2), xv 2, ([], -1)]], 0, [xP 94 [xv 0, xv 1, xv 2]])
theorem r_nkr_ok : ruOk r_nkr := by
  intro ρ hl0 hp
  obtain ⟨zm, t0, rfl, hl1⟩ := len_inv hl0
  obtain ⟨zr, t1, rfl, hl2⟩ := len_inv hl1
  obtain ⟨w, t2, rfl, hl3⟩ := len_inv hl2
  have hl := List.eq_nil_of_length_eq_zero hl3
  subst hl
  have p1 := p_get3 (by decide) (fOk_hd hp)
  have p2 := p_get3 (by decide) (fOk_hd (fOk_tl hp))
  have p3 := p_get3 (by decide) (fOk_hd (fOk_tl (fOk_tl hp)))
  simp only [List.map, xv, fev, fvl, gtI, Int.one_mul, Int.add_zero, Int.zero_add] at p1 p2 p3
  have q := k_nkr (zm := zm) (zr := zr) (w := w) p1 p2 p3
  refine ⟨[], rfl, fOk_cons (p_put3 rfl (by decide) ?_) fOk_nil⟩ <;> simp only [List.map, xv, fev, fvl, gtI, Int.one_mul, Int.add_zero, Int.zero_add, List.append_nil]
  exact q
def r_prt : eRul := (18, [xP 67 [xv 0, xv 1, xv 2, xv 3, xv 4, xv 5, xv 6, xv 7, xv 8, xv 9, xv 10, xv 11], xP 54 [xv 0, xv 1, ([], 900), xv 3, xv 12, xv 13, xv 14, xv 15, xv 16, xv 17]], 0, [xP 69 [xv 0, xv 1, xv 2, xv 4, xv 5, xv 6, xv 7, xv 8, xv 9, xv 10, xv 11, xv 12, xv 13, xv 14, xv 15, xv 16, xv 17]])
theorem r_prt_ok : ruOk r_prt := by
  intro ρ hl0 hp
  obtain ⟨z, t0, rfl, hl1⟩ := len_inv hl0
  obtain ⟨n, t1, rfl, hl2⟩ := len_inv hl1
  obtain ⟨q, t2, rfl, hl3⟩ := len_inv hl2
  obtain ⟨p, t3, rfl, hl4⟩ := len_inv hl3
  obtain ⟨k, t4, rfl, hl5⟩ := len_inv hl4
  obtain ⟨zr, t5, rfl, hl6⟩ := len_inv hl5
  obtain ⟨zm, t6, rfl, hl7⟩ := len_inv hl6
  obtain ⟨o0, t7, rfl, hl8⟩ := len_inv hl7
  obtain ⟨o1, t8, rfl, hl9⟩ := len_inv hl8
  obtain ⟨o2, t9, rfl, hl10⟩ := len_inv hl9
  obtain ⟨o3, t10, rfl, hl11⟩ := len_inv hl10
  obtain ⟨u, t11, rfl, hl12⟩ := len_inv hl11
  obtain ⟨kd, t12, rfl, hl13⟩ := len_inv hl12
  obtain ⟨fr, t13, rfl, hl14⟩ := len_inv hl13
  obtain ⟨to, t14, rfl, hl15⟩ := len_inv hl14
  obtain ⟨nu, t15, rfl, hl16⟩ := len_inv hl15
  obtain ⟨sg, t16, rfl, hl17⟩ := len_inv hl16
  obtain ⟨w, t17, rfl, hl18⟩ := len_inv hl17
  have hl := List.eq_nil_of_length_eq_zero hl18
  subst hl
  have p1 := p_get3 (by decide) (fOk_hd hp)
  have p2 := p_get3 (by decide) (fOk_hd (fOk_tl hp))
  simp only [List.map, xv, fev, fvl, gtI, Int.one_mul, Int.add_zero, Int.zero_add] at p1 p2
  have q := k_prt (z := z) (n := n) (q := q) (p := p) (k := k) (zr := zr) (zm := zm) (o0 := o0) (o1 := o1) (o2 := o2) (o3 := o3) (u := u) (kd := kd) (fr := fr) (to := to) (nu := nu) (sg := sg) (w := w) p1 p2
  refine ⟨[], rfl, fOk_cons (p_put3 rfl (by decide) ?_) fOk_nil⟩ <;> simp only [List.map, xv, fev, fvl, gtI, Int.one_mul, Int.add_zero, Int.zero_add, List.append_nil]
  exact ⟨rfl, q⟩
def r_noer : eRul := (1, [xG (([(0, -1)], 1))], 0, [xP 97 [xv 0]])
theorem r_noer_ok : ruOk r_noer := by
  intro ρ hl0 hp
  obtain ⟨kd, t0, rfl, hl1⟩ := len_inv hl0
  have hl := List.eq_nil_of_length_eq_zero hl1
  subst hl
  have p1 := gg_get (fOk_hd hp)
  simp only [List.map, xv, fev, fvl, gtI, Int.one_mul, Int.add_zero, Int.zero_add] at p1
  have q := k_noer (kd := kd) p1
  refine ⟨[], rfl, fOk_cons (p_put3 rfl (by decide) ?_) fOk_nil⟩ <;> simp only [List.map, xv, fev, fvl, gtI, Int.one_mul, Int.add_zero, Int.zero_add, List.append_nil]
  exact q
def r_ans_eq : eRul := (7, [xP 64 [xv 0, xv 1, xv 2, xv 3], xP 64 [xv 4, xv 1, xv 5, xv 6], xP 71 [xv 0, xv 4, xv 1], xG (([(1, 1)], -940))], 0, [(.inl [[(0, 0)]], [([(2, 1), (5, -1)], 0)]), (.inl [[(0, 0)]], [([(2, -1), (5, 1)], 0)]), (.inl [[(0, 0)]], [([(3, 1), (6, -1)], 0)])])
theorem r_ans_eq_ok : ruOk r_ans_eq := by
  intro ρ hl0 hp
  obtain ⟨c, t0, rfl, hl1⟩ := len_inv hl0
  obtain ⟨n, t1, rfl, hl2⟩ := len_inv hl1
  obtain ⟨a, t2, rfl, hl3⟩ := len_inv hl2
  obtain ⟨f, t3, rfl, hl4⟩ := len_inv hl3
  obtain ⟨r, t4, rfl, hl5⟩ := len_inv hl4
  obtain ⟨b, t5, rfl, hl6⟩ := len_inv hl5
  obtain ⟨g, t6, rfl, hl7⟩ := len_inv hl6
  have hl := List.eq_nil_of_length_eq_zero hl7
  subst hl
  have p1 := p_get3 (by decide) (fOk_hd hp)
  have p2 := p_get3 (by decide) (fOk_hd (fOk_tl hp))
  have p3 := p_get3 (by decide) (fOk_hd (fOk_tl (fOk_tl hp)))
  have p4 := gg_get (fOk_hd (fOk_tl (fOk_tl (fOk_tl hp))))
  simp only [List.map, xv, fev, fvl, gtI, Int.one_mul, Int.add_zero, Int.zero_add] at p1 p2 p3 p4
  have q := k_ans_eq (c := c) (n := n) (a := a) (f := f) (r := r) (b := b) (g := g) p1 p2 p3 p4
  refine ⟨[], rfl, fOk_cons (i_put rfl ?_ ?_) (fOk_cons (i_put rfl ?_ ?_) (fOk_cons (i_put rfl ?_ ?_) fOk_nil))⟩ <;> simp only [List.map, xv, fev, fvl, gtI, Int.one_mul, Int.add_zero, Int.zero_add, List.append_nil]
  · exact q.1
  · exact q.2.1
  · exact q.2.2.1
  · exact q.2.2.2.1
  · exact q.2.2.2.2.1
  · exact q.2.2.2.2.2
end
