noncomputable section
/-! T3: rules (printed by wip/v5/gen/rules4.py) -/
theorem k_ec_end {z n p k zn zf zs zt h r g ev ri ml so t kd pl f kw v w : Int} (p1 : pPC z n 0 p k zn zf zs zt h r g ev ri ml so t 0) (p2 : pTokC z n 900 p kd pl f kw v w) (p3 : 1 ≤ kd ∧ kd ≤ 1) : pEC z n zn zt h r g ev ri ml so := by
  obtain ⟨i0, S, hR, e0, rfl, rfl, e3, hn, hf, hs, ht, rfl, rfl, rfl, rfl, rfl, rfl, rfl, rfl⟩ := p1
  obtain ⟨f', v', w', hT, g1, g2, g3⟩ := p2
  obtain ⟨h1, h2, h3, h4⟩ := Rch_I hR
  have bb := I1_b h1
  exact ⟨S, ⟨i0, S 2, kd, pl, f', kw, v', w', hR, hT, by rw [sA_0 e0, st0_1 (by omega)]⟩, hn, (fun j j0 j1 j2 => ht j j0 (Or.inl j1) j2), rfl, rfl, rfl, rfl, rfl, rfl, rfl⟩
theorem k_er_end {z n k zr zm o0 o1 o2 o3 kd fr to nu sg w : Int} (p1 : pPRT z n 0 k zr zm o0 o1 o2 o3 0 kd fr to nu sg w) (p2 : 0 ≤ kd ∧ kd ≤ 0) : pER z n zr zm := by
  obtain ⟨p, ⟨i0, S, hR, e0, rfl, rfl, e3, hz0, hz20, hm, rfl, rfl, rfl, rfl⟩, hT0⟩ := p1
  obtain ⟨kd', f', kw, v', w', hT, g0, g1, g2, g3, g5, g6, g7, g8⟩ := TokR_p hT0
  obtain ⟨h1, h2, h3, h4⟩ := Rch_I hR
  have bb := I1_b h1
  have hz : aAg zr S 200 72 := fun j j0 j1 => hz0 j j0 j1 (fun h => absurd h (by decide))
  exact ⟨S, ⟨i0, S 2, kd', fr, f', kw, v', w', hR, hT, by rw [sA_0 e0, st0_1 (by omega)]⟩, (fun j j0 j1 => by rw [Int.zero_add]; exact hz j j0 j1), (fun j jk j0 j1 => by rw [Int.zero_add]; exact hm j (Or.inl jk) j0 j1)⟩
theorem k_er_cpy {z n zr zm y m : Int} (p1 : pER z n zr zm) (p2 : pCpy y zr 0 0 m) (p3 : -1 * m + 72 ≤ 0) : pER z n y zm := by
  obtain ⟨s, h1, h2⟩ := p1
  exact ⟨s, h1, agR_o h2 (cpy_f p2 (by omega) (by omega)) frf⟩
theorem k_er_cpn {z n zr zm y m : Int} (p1 : pER z n zr zm) (p2 : pCpy y zm 0 0 m) (p3 : -1 * m + 19 ≤ 0) : pER z n zr y := by
  obtain ⟨s, h1, h2⟩ := p1
  exact ⟨s, h1, agR_o h2 frf (cpy_f p2 (by omega) (by omega))⟩
theorem k_er_out {z n zr zm y a b : Int} (p1 : pER z n zr zm) (p2 : pOut y zr a b) (p3 : -1 * a + 72 ≤ 0) : pER z n y zm := by
  obtain ⟨s, h1, h2⟩ := p1
  exact ⟨s, h1, agR_o h2 (out_f p2 (by omega) (by omega) (Or.inl (by omega))) frf⟩
theorem k_vv_mk {c n zn zt h r g ev ri ml so r0 zr zm : Int} (p1 : pEC c n zn zt h r g ev ri ml so) (p2 : pER r0 n zr zm) (p3 : pTape c r0 n) (p4 : n + -940 ≤ 0) : pVV zr zm zn zt h r g ev ri ml so := by
  obtain ⟨s, h1, h2⟩ := p1
  obtain ⟨s2, g1, g2⟩ := p2
  have e := end_u (end_t (tape_eq p3 (by omega)) h1) g1
  subst e
  exact ⟨s, end_w h1, h2, g2⟩
theorem k_vv_out {zr zm zn zt h r g ev ri ml so y a b : Int} (p1 : pVV zr zm zn zt h r g ev ri ml so) (p2 : pOut y zr a b) (p3 : -1 * a + 72 ≤ 0) : pVV y zm zn zt h r g ev ri ml so := by
  obtain ⟨s, h1, h2, h3⟩ := p1
  exact ⟨s, h1, h2, agR_o h3 (out_f p2 (by omega) (by omega) (Or.inl (by omega))) frf⟩
theorem k_vv_init {zr zm zn zt : Int} (p1 : pRg zr 0 3 0 0) (p2 : pRg zr 3 4 7 7) (p3 : pRg zr 4 5 3 3) (p4 : pRg zr 5 6 15 15) (p5 : pRg zr 6 7 0 0) : pVV zr zm zn zt 0 0 0 7 3 15 0 := by
  have q0 := p1 0 (by omega) (by omega) (by omega) (by omega)
  have q1 := p1 1 (by omega) (by omega) (by omega) (by omega)
  have q2 := p1 2 (by omega) (by omega) (by omega) (by omega)
  have q3 := p2 3 (by omega) (by omega) (by omega) (by omega)
  have q4 := p3 4 (by omega) (by omega) (by omega) (by omega)
  have q5 := p4 5 (by omega) (by omega) (by omega) (by omega)
  have q6 := p5 6 (by omega) (by omega) (by omega) (by omega)
  have e0 : s0V zr zn 200 = dcd (0 : Int).toNat zr := s0V_r (j := 0) (by omega)
  have e1 : s0V zr zn 201 = dcd (1 : Int).toNat zr := s0V_r (j := 1) (by omega)
  have e2 : s0V zr zn 202 = dcd (2 : Int).toNat zr := s0V_r (j := 2) (by omega)
  have e3 : s0V zr zn 203 = dcd (3 : Int).toNat zr := s0V_r (j := 3) (by omega)
  have e4 : s0V zr zn 204 = dcd (4 : Int).toNat zr := s0V_r (j := 4) (by omega)
  have e5 : s0V zr zn 205 = dcd (5 : Int).toNat zr := s0V_r (j := 5) (by omega)
  have e6 : s0V zr zn 206 = dcd (6 : Int).toNat zr := s0V_r (j := 6) (by omega)
  refine ⟨s0V zr zn, Or.inr ⟨by omega, by omega, by omega⟩, ⟨fun j j0 j1 => (s0V_n j1).symm, fun j j0 j1 j2 => by omega, by omega, by omega, by omega, by omega, by omega, by omega, by omega⟩, fun j j0 j1 => by rw [Int.zero_add]; exact (s0V_r j0).symm, fun j jk j0 j1 => ?_⟩
  unfold kslot at jk
  omega
theorem k_vi_0 {b zk zy k zn zt h r g ev ri ml so : Int} (p1 : 0 ≤ b ∧ b ≤ 0) : pVI b zk zy k zn zt h r g ev ri ml so := fun e => by omega
theorem k_vi_mk {zr zm zn zt h r g ev ri ml so zk k m zy j b : Int} (p1 : pVV zr zm zn zt h r g ev ri ml so) (p2 : pCpy zk zr (350 * k) 0 m) (p3 : -1 * m + 72 ≤ 0) (p4 : pCpy zy zm (19 * k) 0 j) (p5 : -1 * j + 19 ≤ 0) (p6 : 0 ≤ k ∧ k ≤ 1) : pVI b zk zy k zn zt h r g ev ri ml so := by
  intro _
  obtain ⟨s, h1, h2, h3⟩ := p1
  exact ⟨s, h1, h2, agR_o h3 (cpy_f p2 (by omega) (by omega)) (cpy_f p4 (by omega) (by omega))⟩
theorem k_vi_outa {b zk zy k zn zt h r g ev ri ml so yk a e yy c d : Int} (p1 : pVI b zk zy k zn zt h r g ev ri ml so) (p2 : pOut yk zk a e) (p3 : pOut yy zy c d) (p4 : 350 * k + -1 * a + 72 ≤ 0) (p5 : 19 * k + -1 * c + 19 ≤ 0) (p6 : 0 ≤ k ∧ k ≤ 1) : pVI b yk yy k zn zt h r g ev ri ml so := by
  intro e
  obtain ⟨s, h1, h2, h3⟩ := p1 e
  exact ⟨s, h1, h2, agR_o h3 (out_f p2 (by omega) (by omega) (Or.inl (by omega))) (out_f p3 (by omega) (by omega) (Or.inl (by omega)))⟩
theorem k_vi_outb {b zk zy k zn zt h r g ev ri ml so yk a e yy c d : Int} (p1 : pVI b zk zy k zn zt h r g ev ri ml so) (p2 : pOut yk zk a e) (p3 : pOut yy zy c d) (p4 : -350 * k + e ≤ 0) (p5 : -19 * k + d ≤ 0) (p6 : 0 ≤ k ∧ k ≤ 1) : pVI b yk yy k zn zt h r g ev ri ml so := by
  intro e
  obtain ⟨s, h1, h2, h3⟩ := p1 e
  exact ⟨s, h1, h2, agR_o h3 (out_f p2 (by omega) (by omega) (Or.inr (by omega))) (out_f p3 (by omega) (by omega) (Or.inr (by omega)))⟩
theorem k_vv_res {b zk zy k zn zt h r g ev ri ml so zr m zm j : Int} (p1 : pVI b zk zy k zn zt h r g ev ri ml so) (p2 : 1 ≤ b ∧ b ≤ 1) (p3 : pCpy zr zk 0 (350 * k) m) (p4 : -1 * m + 72 ≤ 0) (p5 : pCpy zm zy 0 (19 * k) j) (p6 : -1 * j + 19 ≤ 0) (p7 : 0 ≤ k ∧ k ≤ 1) : pVV zr zm zn zt h r g ev ri ml so := by
  obtain ⟨s, h1, h2, h3⟩ := p1 (by omega)
  exact ⟨s, h1, h2, agR_o h3 (cpy_f p3 (by omega) (by omega)) (cpy_f p5 (by omega) (by omega))⟩
theorem k_vv_e0 {zr zm zn zt h r g ev ri ml so x : Int} (p1 : pVV zr zm zn zt h r g ev ri ml so) (p2 : pDec x zr 0) : (0 ≤ -1 * h + x) ∧ (-1 * h + x ≤ 0) ∧ (0 ≤ h + -1 * x) ∧ (h + -1 * x ≤ 0) := by
  obtain ⟨s, h1, ⟨_, _, f0, f1, f2, f3, f4, f5, f6⟩, h3, _⟩ := p1
  have q := h3 0 (by omega) (by omega)
  change dcd (0 : Int).toNat zr = s 200 at q
  have u := p2.2
  change dcd (0 : Int).toNat zr = x at u
  omega
theorem k_vv_e1 {zr zm zn zt h r g ev ri ml so x : Int} (p1 : pVV zr zm zn zt h r g ev ri ml so) (p2 : pDec x zr 1) : (0 ≤ -1 * r + x) ∧ (-1 * r + x ≤ 0) ∧ (0 ≤ r + -1 * x) ∧ (r + -1 * x ≤ 0) := by
  obtain ⟨s, h1, ⟨_, _, f0, f1, f2, f3, f4, f5, f6⟩, h3, _⟩ := p1
  have q := h3 1 (by omega) (by omega)
  change dcd (1 : Int).toNat zr = s 201 at q
  have u := p2.2
  change dcd (1 : Int).toNat zr = x at u
  omega
theorem k_vv_e2 {zr zm zn zt h r g ev ri ml so x : Int} (p1 : pVV zr zm zn zt h r g ev ri ml so) (p2 : pDec x zr 2) : (0 ≤ -1 * g + x) ∧ (-1 * g + x ≤ 0) ∧ (0 ≤ g + -1 * x) ∧ (g + -1 * x ≤ 0) := by
  obtain ⟨s, h1, ⟨_, _, f0, f1, f2, f3, f4, f5, f6⟩, h3, _⟩ := p1
  have q := h3 2 (by omega) (by omega)
  change dcd (2 : Int).toNat zr = s 202 at q
  have u := p2.2
  change dcd (2 : Int).toNat zr = x at u
  omega
theorem k_vv_e3 {zr zm zn zt h r g ev ri ml so x : Int} (p1 : pVV zr zm zn zt h r g ev ri ml so) (p2 : pDec x zr 3) : (0 ≤ -1 * ev + x) ∧ (-1 * ev + x ≤ 0) ∧ (0 ≤ ev + -1 * x) ∧ (ev + -1 * x ≤ 0) := by
  obtain ⟨s, h1, ⟨_, _, f0, f1, f2, f3, f4, f5, f6⟩, h3, _⟩ := p1
  have q := h3 3 (by omega) (by omega)
  change dcd (3 : Int).toNat zr = s 203 at q
  have u := p2.2
  change dcd (3 : Int).toNat zr = x at u
  omega
theorem k_vv_e4 {zr zm zn zt h r g ev ri ml so x : Int} (p1 : pVV zr zm zn zt h r g ev ri ml so) (p2 : pDec x zr 4) : (0 ≤ -1 * ri + x) ∧ (-1 * ri + x ≤ 0) ∧ (0 ≤ ri + -1 * x) ∧ (ri + -1 * x ≤ 0) := by
  obtain ⟨s, h1, ⟨_, _, f0, f1, f2, f3, f4, f5, f6⟩, h3, _⟩ := p1
  have q := h3 4 (by omega) (by omega)
  change dcd (4 : Int).toNat zr = s 204 at q
  have u := p2.2
  change dcd (4 : Int).toNat zr = x at u
  omega
theorem k_vv_e5 {zr zm zn zt h r g ev ri ml so x : Int} (p1 : pVV zr zm zn zt h r g ev ri ml so) (p2 : pDec x zr 5) : (0 ≤ -1 * ml + x) ∧ (-1 * ml + x ≤ 0) ∧ (0 ≤ ml + -1 * x) ∧ (ml + -1 * x ≤ 0) := by
  obtain ⟨s, h1, ⟨_, _, f0, f1, f2, f3, f4, f5, f6⟩, h3, _⟩ := p1
  have q := h3 5 (by omega) (by omega)
  change dcd (5 : Int).toNat zr = s 205 at q
  have u := p2.2
  change dcd (5 : Int).toNat zr = x at u
  omega
theorem k_vv_e6 {zr zm zn zt h r g ev ri ml so x : Int} (p1 : pVV zr zm zn zt h r g ev ri ml so) (p2 : pDec x zr 6) : (0 ≤ -1 * so + x) ∧ (-1 * so + x ≤ 0) ∧ (0 ≤ so + -1 * x) ∧ (so + -1 * x ≤ 0) := by
  obtain ⟨s, h1, ⟨_, _, f0, f1, f2, f3, f4, f5, f6⟩, h3, _⟩ := p1
  have q := h3 6 (by omega) (by omega)
  change dcd (6 : Int).toNat zr = s 206 at q
  have u := p2.2
  change dcd (6 : Int).toNat zr = x at u
  omega
theorem k_ans_n1 {c n a f r b g : Int} (p1 : pAns c n a f) (p2 : pAns r n b g) (p3 : pTape c r n) (p4 : n + -940 ≤ 0) (p5 : 0 ≤ f ∧ f ≤ 0) (p6 : -1 * g + 1 ≤ 0) : False := by
  have e := ans_u (ans_t (tape_eq p3 (by omega)) p1) p2
  omega
theorem k_ans_n2 {c n a f r b g : Int} (p1 : pAns c n a f) (p2 : pAns r n b g) (p3 : pTape c r n) (p4 : n + -940 ≤ 0) (p5 : -1 * f + 1 ≤ 0) (p6 : 0 ≤ g ∧ g ≤ 0) : False := by
  have e := ans_u (ans_t (tape_eq p3 (by omega)) p1) p2
  omega
theorem k_out_tr {z y a b x : Int} (p1 : pOut z y a b) (p2 : pOut y x a b) : pOut z x a b := fun j j0 j1 j2 => (p1 j j0 j1 j2).trans (p2 j j0 j1 j2)
theorem k_cpy_le {z n b a m k c d : Int} (p1 : pCpy z n b a m) (p2 : -1 * m + k ≤ 0) (p3 : b + -1 * c ≤ 0) (p4 : -1 * b + c ≤ 0) (p5 : a + -1 * d ≤ 0) (p6 : -1 * a + d ≤ 0) : pCpy z n c d k := fun j j0 j1 j2 => by
  rw [show c + j = b + j by omega, show d + j = a + j by omega]
  exact p1 j j0 (by omega) (by omega)
theorem k_out_le {z n a b c d : Int} (p1 : pOut z n a b) (p2 : -1 * a + c ≤ 0) (p3 : b + -1 * d ≤ 0) : pOut z n c d := fun j j0 j1 j2 => p1 j j0 j1 (by omega)
end
