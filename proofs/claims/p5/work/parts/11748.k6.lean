noncomputable section
/-! T3: rules (printed by wip/v5/gen/rules4.py) -/
theorem k_ne_l {kw c : Int} (p1 : kw + -1 * c + 1 ≤ 0) : pNe kw c := by
  unfold pNe
  omega
theorem k_ne_g {c kw : Int} (p1 : c + -1 * kw + 1 ≤ 0) : pNe kw c := by
  unfold pNe
  omega
theorem k_nbg_a {kw : Int} (p1 : kw + -14 ≤ 0) : pNbg kw := by
  unfold pNbg
  omega
theorem k_nbg_b {kw : Int} (p1 : -1 * kw + 24 ≤ 0) : pNbg kw := by
  unfold pNbg
  omega
theorem k_sz_p {a c d b : Int} (p1 : a + -1 * c + -1 ≤ 0) (p2 : d + -1 * b + 1 ≤ 0) : pSz a b c d := by
  unfold pSz
  omega
theorem k_sz_n {a b c d : Int} (p1 : pSz a b c (d + 1)) : pSz (a + 1) b c d := by
  unfold pSz at *
  omega
theorem k_sz_b {a b c d : Int} (p1 : pSz a b c (d + 1)) : pSz a b c d := by
  unfold pSz at *
  omega
theorem k_sz_t {a b e f c d : Int} (p1 : pSz a b e f) (p2 : pSz e f c d) : pSz (a + 1) b c d := by
  unfold pSz at *
  omega
theorem k_szp_0 {a b : Int} (p1 : a ≤ 0) (p2 : -1 * b ≤ 0) : pSzp a b := by
  unfold pSzp
  omega
theorem k_szp_1 {a b : Int} (p1 : pSzp a b) : pSzp a (b + 1) := by
  unfold pSzp at *
  omega
theorem k_szp_t {a b c d : Int} (p1 : pSz a b c d) (p2 : pSzp c d) : pSzp a b := by
  unfold pSz at p1
  unfold pSzp at *
  omega
theorem k_sz_u {a b c d : Int} (p1 : pSz a b c d) (p2 : pSzp c d) (p3 : b + -20 ≤ 0) (p4 : -1 * a ≤ 0) : (0 ≤ a) ∧ (a ≤ 39) := by
  unfold pSz at p1
  unfold pSzp at p2
  omega
theorem k_sz_v {a b : Int} (p1 : pSzp a b) (p2 : b + -19 ≤ 0) (p3 : -1 * a ≤ 0) : (0 ≤ a) ∧ (a ≤ 39) := by
  unfold pSzp at p1
  omega
theorem k_topl {b M : Int} (p1 : 1 ≤ b ∧ b ≤ 9) (p2 : -1 * M ≤ 0) : pTopl (b + 16 * M) b := ⟨by omega, by omega, by omega, by omega⟩
theorem k_topl_1 : pTopl 1 1 := ⟨by decide, by decide, by decide, by decide⟩
theorem k_nwd_0 {kd w : Int} : pNwd kd w 15 := ⟨by decide, fun j j0 j1 j2 => by omega⟩
theorem k_nwd_1 {kd w k : Int} (p1 : pNwd kd w k) (p2 : pIsw kd w k 0) : pNwd kd w (k + 1) := by
  obtain ⟨h1, h2⟩ := p1
  refine ⟨by omega, fun j j0 j1 j2 => ?_⟩
  by_cases e : (j : Int) = k
  · have q := iff1_f p2 rfl
    rw [show k.toNat = j by omega] at q
    exact q
  · exact h2 j j0 (by omega) j2
theorem k_s_init {n z zn h r g : Int} (p1 : -1 * n ≤ 0) : pPSC z n 0 0 0 1 1 zn h r g := ⟨0, rfl⟩
theorem k_s_tok {z n q p c w L zn h r g kd pl fi kw va wo : Int} (p1 : pPSC z n q p c w L zn h r g) (p2 : pTokC z n 200 p kd pl fi kw va wo) : pPS z n q c w L zn h r g kd pl fi kw va wo := ⟨p, p1, p2⟩
theorem k_s_br {z n c w L zn h r g kd pl fi kw va wo : Int} (p1 : pPS z n 0 c w L zn h r g kd pl fi kw va wo) (p2 : pSgn kd va 40 1) (p3 : c + -19 ≤ 0) (p4 : w + -8 ≤ 0) : pPSC z n 0 fi (c + 1) (w + 1) (w + 16 * L + 1) zn h r g := by
  obtain ⟨p, ⟨t, hR⟩, f', v', w', hT, g1, g2, g3⟩ := p1
  obtain ⟨b0, b1, b2, b3, b4, b5, _, _⟩ := Tok_p hT
  have s2 := iff1_t p2 rfl
  refine ⟨t + 1, _, kd, pl, f', kw, v', w', hR, hT, ?_⟩
  show sS0 c w L kd pl f' kw v' = _
  unfold sS0
  rw [cI_t (by omega), cI_f (by omega), cI_t (by omega)]
  exact inl5 (by omega) (by omega) (by omega) (by omega) (by omega)
theorem k_s_not {z n c w L zn h r g kd pl fi kw va wo : Int} (p1 : pPS z n 0 c w L zn h r g kd pl fi kw va wo) (p2 : 15 ≤ kw ∧ kw ≤ 15) (p3 : c + -19 ≤ 0) (p4 : w + -8 ≤ 0) : pPSC z n 0 fi (c + 1) (w + 1) L zn h r g := by
  obtain ⟨p, ⟨t, hR⟩, f', v', w', hT, g1, g2, g3⟩ := p1
  obtain ⟨b0, b1, b2, b3, b4, b5, _, _⟩ := Tok_p hT
  refine ⟨t + 1, _, kd, pl, f', kw, v', w', hR, hT, ?_⟩
  show sS0 c w L kd pl f' kw v' = _
  unfold sS0
  rw [cI_t (by omega), cI_f (by omega), cI_f (by omega), cI_t (by omega)]
  exact inl5 (by omega) (by omega) (by omega) (by omega) (by omega)
theorem k_s_pl {z n c w L zn h r g kd pl fi kw va wo : Int} (p1 : pPS z n 0 c w L zn h r g kd pl fi kw va wo) (p2 : 16 ≤ kw ∧ kw ≤ 17) (p3 : c + -19 ≤ 0) (p4 : w + -8 ≤ 0) : pPSC z n 1 fi (c + 1) 0 L zn h r g := by
  obtain ⟨p, ⟨t, hR⟩, f', v', w', hT, g1, g2, g3⟩ := p1
  obtain ⟨b0, b1, b2, b3, b4, b5, _, _⟩ := Tok_p hT
  refine ⟨t + 1, _, kd, pl, f', kw, v', w', hR, hT, ?_⟩
  show sS0 c w L kd pl f' kw v' = _
  unfold sS0
  rw [cI_t (by omega), cI_f (by omega), cI_f (by omega), cI_f (by omega), cI_t (by omega)]
  exact inl5 (by omega) (by omega) (by omega) (by omega) (by omega)
theorem k_s_in {z n c w L zn h r g kd pl fi kw va wo : Int} (p1 : pPS z n 0 c w L zn h r g kd pl fi kw va wo) (p2 : 18 ≤ kw ∧ kw ≤ 18) (p3 : c + -19 ≤ 0) (p4 : w + -8 ≤ 0) : pPSC z n 2 fi (c + 1) 0 L zn h r g := by
  obtain ⟨p, ⟨t, hR⟩, f', v', w', hT, g1, g2, g3⟩ := p1
  obtain ⟨b0, b1, b2, b3, b4, b5, _, _⟩ := Tok_p hT
  refine ⟨t + 1, _, kd, pl, f', kw, v', w', hR, hT, ?_⟩
  show sS0 c w L kd pl f' kw v' = _
  unfold sS0
  rw [cI_t (by omega), cI_f (by omega), cI_f (by omega), cI_f (by omega), cI_f (by omega), cI_t (by omega)]
  exact inl5 (by omega) (by omega) (by omega) (by omega) (by omega)
theorem k_s_has {z n c w L zn h r g kd pl fi kw va wo : Int} (p1 : pPS z n 0 c w L zn h r g kd pl fi kw va wo) (p2 : 19 ≤ kw ∧ kw ≤ 19) (p3 : c + -19 ≤ 0) (p4 : w + -8 ≤ 0) : pPSC z n 3 fi (c + 1) 0 L zn h r g := by
  obtain ⟨p, ⟨t, hR⟩, f', v', w', hT, g1, g2, g3⟩ := p1
  obtain ⟨b0, b1, b2, b3, b4, b5, _, _⟩ := Tok_p hT
  refine ⟨t + 1, _, kd, pl, f', kw, v', w', hR, hT, ?_⟩
  show sS0 c w L kd pl f' kw v' = _
  unfold sS0
  rw [cI_t (by omega), cI_f (by omega), cI_f (by omega), cI_f (by omega), cI_f (by omega), cI_f (by omega), cI_t (by omega)]
  exact inl5 (by omega) (by omega) (by omega) (by omega) (by omega)
theorem k_s_cmp {z n c w L zn h r g kd pl fi kw va wo : Int} (p1 : pPS z n 0 c w L zn h r g kd pl fi kw va wo) (p2 : 20 ≤ kw ∧ kw ≤ 23) (p3 : c + -19 ≤ 0) (p4 : w + -8 ≤ 0) : pPSC z n 4 fi (c + 1) 0 L zn h r g := by
  obtain ⟨p, ⟨t, hR⟩, f', v', w', hT, g1, g2, g3⟩ := p1
  obtain ⟨b0, b1, b2, b3, b4, b5, _, _⟩ := Tok_p hT
  refine ⟨t + 1, _, kd, pl, f', kw, v', w', hR, hT, ?_⟩
  show sS0 c w L kd pl f' kw v' = _
  unfold sS0
  rw [cI_t (by omega), cI_f (by omega), cI_f (by omega), cI_f (by omega), cI_f (by omega), cI_f (by omega), cI_f (by omega)]
  exact inl5 (by omega) (by omega) (by omega) (by omega) (by omega)
theorem k_s_many1a {z n c w L zn h r g kd pl fi kw va wo : Int} (p1 : pPS z n 0 c w L zn h r g kd pl fi kw va wo) (p2 : pSgn kd va 40 1) (p3 : -1 * c + 20 ≤ 0) : pSAC z n zn h r g (-1 * pl + -1) 4 := by
  obtain ⟨p, ⟨t, hR⟩, f', v', w', hT, g1, g2, g3⟩ := p1
  obtain ⟨b0, b1, b2, b3, b4, b5, _, _⟩ := Tok_p hT
  have s2 := iff1_t p2 rfl
  refine ⟨t, _, kd, pl, f', kw, v', w', hR, hT, ?_⟩
  show sS0 c w L kd pl f' kw v' = _
  unfold sS0
  rw [cI_t (by omega), cI_t (by omega)]
  exact inr5 (by omega) (by omega)
theorem k_s_many2a {z n c w L zn h r g kd pl fi kw va wo : Int} (p1 : pPS z n 0 c w L zn h r g kd pl fi kw va wo) (p2 : 15 ≤ kw ∧ kw ≤ 23) (p3 : -1 * c + 20 ≤ 0) : pSAC z n zn h r g (-1 * pl + -1) 4 := by
  obtain ⟨p, ⟨t, hR⟩, f', v', w', hT, g1, g2, g3⟩ := p1
  obtain ⟨b0, b1, b2, b3, b4, b5, _, _⟩ := Tok_p hT
  refine ⟨t, _, kd, pl, f', kw, v', w', hR, hT, ?_⟩
  show sS0 c w L kd pl f' kw v' = _
  unfold sS0
  rw [cI_t (by omega), cI_t (by omega)]
  exact inr5 (by omega) (by omega)
theorem k_s_many1b {z n c w L zn h r g kd pl fi kw va wo : Int} (p1 : pPS z n 0 c w L zn h r g kd pl fi kw va wo) (p2 : pSgn kd va 40 1) (p3 : -1 * w + 9 ≤ 0) : pSAC z n zn h r g (-1 * pl + -1) 4 := by
  obtain ⟨p, ⟨t, hR⟩, f', v', w', hT, g1, g2, g3⟩ := p1
  obtain ⟨b0, b1, b2, b3, b4, b5, _, _⟩ := Tok_p hT
  have s2 := iff1_t p2 rfl
  refine ⟨t, _, kd, pl, f', kw, v', w', hR, hT, ?_⟩
  show sS0 c w L kd pl f' kw v' = _
  unfold sS0
  rw [cI_t (by omega), cI_t (by omega)]
  exact inr5 (by omega) (by omega)
theorem k_s_many2b {z n c w L zn h r g kd pl fi kw va wo : Int} (p1 : pPS z n 0 c w L zn h r g kd pl fi kw va wo) (p2 : 15 ≤ kw ∧ kw ≤ 23) (p3 : -1 * w + 9 ≤ 0) : pSAC z n zn h r g (-1 * pl + -1) 4 := by
  obtain ⟨p, ⟨t, hR⟩, f', v', w', hT, g1, g2, g3⟩ := p1
  obtain ⟨b0, b1, b2, b3, b4, b5, _, _⟩ := Tok_p hT
  refine ⟨t, _, kd, pl, f', kw, v', w', hR, hT, ?_⟩
  show sS0 c w L kd pl f' kw v' = _
  unfold sS0
  rw [cI_t (by omega), cI_t (by omega)]
  exact inr5 (by omega) (by omega)
theorem k_s_bad0 {z n c w L zn h r g kd pl fi kw va wo : Int} (p1 : pPS z n 0 c w L zn h r g kd pl fi kw va wo) (p2 : pSgn kd va 40 0) (p3 : pNbg kw) : pSAC z n zn h r g (-1 * pl + -1) 1 := by
  obtain ⟨p, ⟨t, hR⟩, f', v', w', hT, g1, g2, g3⟩ := p1
  obtain ⟨b0, b1, b2, b3, b4, b5, _, _⟩ := Tok_p hT
  have s2 := iff1_f p2 rfl
  unfold pNbg at p3
  refine ⟨t, _, kd, pl, f', kw, v', w', hR, hT, ?_⟩
  show sS0 c w L kd pl f' kw v' = _
  unfold sS0
  rw [cI_f (by omega)]
  exact inr5 (by omega) (by omega)
theorem k_s_op {z n c w L zn h r g kd pl fi kw va wo b : Int} (p1 : pPS z n 1 c w L zn h r g kd pl fi kw va wo) (p2 : 13 ≤ kw ∧ kw ≤ 14) (p3 : pTopl L b) : pPSC z n 0 fi c b L zn h r g := by
  obtain ⟨p, ⟨t, hR⟩, f', v', w', hT, g1, g2, g3⟩ := p1
  obtain ⟨b0, b1, b2, b3, b4, b5, _, _⟩ := Tok_p hT
  obtain ⟨_, _, _, hb⟩ := p3
  refine ⟨t + 1, _, kd, pl, f', kw, v', w', hR, hT, ?_⟩
  show sS1 c L kd pl f' kw v' = _
  unfold sS1
  rw [cI_t (by omega)]
  exact inl5 (by omega) (by omega) (by omega) (by omega) (by omega)
theorem k_s_cl {z n c w L b zn h r g kd pl fi kw va wo : Int} (p1 : pPS z n 1 c w (16 * L + b) zn h r g kd pl fi kw va wo) (p2 : pSgn kd va 41 1) (p3 : 1 ≤ b ∧ b ≤ 9) (p4 : -1 * L + 1 ≤ 0) : pPSC z n 1 fi c 0 L zn h r g := by
  obtain ⟨p, ⟨t, hR⟩, f', v', w', hT, g1, g2, g3⟩ := p1
  obtain ⟨b0, b1, b2, b3, b4, b5, _, _⟩ := Tok_p hT
  have s2 := iff1_t p2 rfl
  refine ⟨t + 1, _, kd, pl, f', kw, v', w', hR, hT, ?_⟩
  show sS1 c (16 * L + b) kd pl f' kw v' = _
  unfold sS1
  rw [cI_f (by omega), cI_f (by omega), cI_t (by omega)]
  exact inl5 (by omega) (by omega) (by omega) (by omega) (by omega)
theorem k_s_cl_bad {z n c w L zn h r g kd pl fi kw va wo : Int} (p1 : pPS z n 1 c w L zn h r g kd pl fi kw va wo) (p2 : -1 * L + 16 ≤ 0) (p3 : pSgn kd va 41 0) (p4 : pNe kw 13) (p5 : pNe kw 14) : pSAC z n zn h r g (-1 * pl + -1) 1 := by
  obtain ⟨p, ⟨t, hR⟩, f', v', w', hT, g1, g2, g3⟩ := p1
  obtain ⟨b0, b1, b2, b3, b4, b5, _, _⟩ := Tok_p hT
  have s3 := iff1_f p3 rfl
  unfold pNe at p4 p5
  refine ⟨t, _, kd, pl, f', kw, v', w', hR, hT, ?_⟩
  show sS1 c L kd pl f' kw v' = _
  unfold sS1
  rw [cI_f (by omega), cI_f (by omega), cI_f (by omega)]
  exact inr5 (by omega) (by omega)
theorem k_s_end {z n c w zn h r g kd pl fi kw va wo : Int} (p1 : pPS z n 1 c w 1 zn h r g kd pl fi kw va wo) (p2 : 1 ≤ kd ∧ kd ≤ 1) : pSAC z n zn h r g c 0 := by
  obtain ⟨p, ⟨t, hR⟩, f', v', w', hT, g1, g2, g3⟩ := p1
  obtain ⟨b0, b1, b2, b3, b4, b5, _, _⟩ := Tok_p hT
  refine ⟨t, _, kd, pl, f', kw, v', w', hR, hT, ?_⟩
  show sS1 c 1 kd pl f' kw v' = _
  unfold sS1
  rw [cI_f (by omega), cI_t (by omega), cI_t (by omega)]
theorem k_s_end_bad {z n c w zn h r g kd pl fi kw va wo : Int} (p1 : pPS z n 1 c w 1 zn h r g kd pl fi kw va wo) (p2 : kd ≠ 1) (p3 : pNe kw 13) (p4 : pNe kw 14) : pSAC z n zn h r g (-1 * pl + -1) 1 := by
  obtain ⟨p, ⟨t, hR⟩, f', v', w', hT, g1, g2, g3⟩ := p1
  obtain ⟨b0, b1, b2, b3, b4, b5, _, _⟩ := Tok_p hT
  unfold pNe at p3 p4
  refine ⟨t, _, kd, pl, f', kw, v', w', hR, hT, ?_⟩
  show sS1 c 1 kd pl f' kw v' = _
  unfold sS1
  rw [cI_f (by omega), cI_t (by omega), cI_f (by omega)]
  exact inr5 (by omega) (by omega)
theorem k_s_n2 {z n c w L zn h r g kd pl fi kw va wo i : Int} (p1 : pPS z n 2 c w L zn h r g kd pl fi kw va wo) (p2 : pNam kd kw 1) (p3 : pFnd zn 0 h wo i) (p4 : -1 * i ≤ 0) : pPSC z n 1 fi c 0 L zn h r g := by
  obtain ⟨p, ⟨t, hR⟩, f', v', w', hT, g1, g2, g3⟩ := p1
  obtain ⟨b0, b1, b2, b3, b4, b5, _, _⟩ := Tok_p hT
  have m2 := iff1_t p2 rfl
  have ei : eC zn h r g 0 w' = i := by
    unfold eC
    rw [cn3_0, ← g3 (by omega)]
    exact p3.2.2.symm
  refine ⟨t + 1, _, kd, pl, f', kw, v', w', hR, hT, ?_⟩
  show sS2 ((eC zn h r g) 0 w') c L kd pl f' kw = _
  unfold sS2
  rw [ei]
  rw [cI_t (by omega), cI_f (by omega)]
  exact inl5 (by omega) (by omega) (by omega) (by omega) (by omega)
theorem k_s_n2_1 {z n c w L zn h r g kd pl fi kw va wo : Int} (p1 : pPS z n 2 c w L zn h r g kd pl fi kw va wo) (p2 : pNam kd kw 0) : pSAC z n zn h r g (-1 * pl + -1) 1 := by
  obtain ⟨p, ⟨t, hR⟩, f', v', w', hT, g1, g2, g3⟩ := p1
  obtain ⟨b0, b1, b2, b3, b4, b5, _, _⟩ := Tok_p hT
  have m2 := iff1_f p2 rfl
  refine ⟨t, _, kd, pl, f', kw, v', w', hR, hT, ?_⟩
  show sS2 ((eC zn h r g) 0 w') c L kd pl f' kw = _
  unfold sS2
  rw [cI_f (by omega)]
  exact inr5 (by omega) (by omega)
theorem k_s_n2_3 {z n c w L zn h r g kd pl fi kw va wo : Int} (p1 : pPS z n 2 c w L zn h r g kd pl fi kw va wo) (p2 : pNam kd kw 1) (p3 : pFnd zn 0 h wo (-1)) : pSAC z n zn h r g (-1 * pl + -1) 3 := by
  obtain ⟨p, ⟨t, hR⟩, f', v', w', hT, g1, g2, g3⟩ := p1
  obtain ⟨b0, b1, b2, b3, b4, b5, _, _⟩ := Tok_p hT
  have m2 := iff1_t p2 rfl
  have ei : eC zn h r g 0 w' = -1 := by
    unfold eC
    rw [cn3_0, ← g3 (by omega)]
    exact p3.2.2.symm
  refine ⟨t, _, kd, pl, f', kw, v', w', hR, hT, ?_⟩
  show sS2 ((eC zn h r g) 0 w') c L kd pl f' kw = _
  unfold sS2
  rw [ei]
  rw [cI_t (by omega), cI_t (by omega)]
  exact inr5 (by omega) (by omega)
theorem k_s_n3 {z n c w L zn h r g kd pl fi kw va wo i : Int} (p1 : pPS z n 3 c w L zn h r g kd pl fi kw va wo) (p2 : pNam kd kw 1) (p3 : pFnd zn 13 g wo i) (p4 : -1 * i ≤ 0) : pPSC z n 1 fi c 0 L zn h r g := by
  obtain ⟨p, ⟨t, hR⟩, f', v', w', hT, g1, g2, g3⟩ := p1
  obtain ⟨b0, b1, b2, b3, b4, b5, _, _⟩ := Tok_p hT
  have m2 := iff1_t p2 rfl
  have ei : eC zn h r g 13 w' = i := by
    unfold eC
    rw [cn3_13, ← g3 (by omega)]
    exact p3.2.2.symm
  refine ⟨t + 1, _, kd, pl, f', kw, v', w', hR, hT, ?_⟩
  show sS2 ((eC zn h r g) 13 w') c L kd pl f' kw = _
  unfold sS2
  rw [ei]
  rw [cI_t (by omega), cI_f (by omega)]
  exact inl5 (by omega) (by omega) (by omega) (by omega) (by omega)
theorem k_s_n3_1 {z n c w L zn h r g kd pl fi kw va wo : Int} (p1 : pPS z n 3 c w L zn h r g kd pl fi kw va wo) (p2 : pNam kd kw 0) : pSAC z n zn h r g (-1 * pl + -1) 1 := by
  obtain ⟨p, ⟨t, hR⟩, f', v', w', hT, g1, g2, g3⟩ := p1
  obtain ⟨b0, b1, b2, b3, b4, b5, _, _⟩ := Tok_p hT
  have m2 := iff1_f p2 rfl
  refine ⟨t, _, kd, pl, f', kw, v', w', hR, hT, ?_⟩
  show sS2 ((eC zn h r g) 13 w') c L kd pl f' kw = _
  unfold sS2
  rw [cI_f (by omega)]
  exact inr5 (by omega) (by omega)
theorem k_s_n3_3 {z n c w L zn h r g kd pl fi kw va wo : Int} (p1 : pPS z n 3 c w L zn h r g kd pl fi kw va wo) (p2 : pNam kd kw 1) (p3 : pFnd zn 13 g wo (-1)) : pSAC z n zn h r g (-1 * pl + -1) 3 := by
  obtain ⟨p, ⟨t, hR⟩, f', v', w', hT, g1, g2, g3⟩ := p1
  obtain ⟨b0, b1, b2, b3, b4, b5, _, _⟩ := Tok_p hT
  have m2 := iff1_t p2 rfl
  have ei : eC zn h r g 13 w' = -1 := by
    unfold eC
    rw [cn3_13, ← g3 (by omega)]
    exact p3.2.2.symm
  refine ⟨t, _, kd, pl, f', kw, v', w', hR, hT, ?_⟩
  show sS2 ((eC zn h r g) 13 w') c L kd pl f' kw = _
  unfold sS2
  rw [ei]
  rw [cI_t (by omega), cI_t (by omega)]
  exact inr5 (by omega) (by omega)
theorem k_s_sg {z n c w L zn h r g kd pl fi kw va wo x : Int} (p1 : pPS z n 4 c w L zn h r g kd pl fi kw va wo) (p2 : pSgn kd va x 1) (p3 : 60 ≤ x ∧ x ≤ 62) : pPSC z n 5 fi c 0 L zn h r g := by
  obtain ⟨p, ⟨t, hR⟩, f', v', w', hT, g1, g2, g3⟩ := p1
  obtain ⟨b0, b1, b2, b3, b4, b5, _, _⟩ := Tok_p hT
  have s2 := iff1_t p2 rfl
  refine ⟨t + 1, _, kd, pl, f', kw, v', w', hR, hT, ?_⟩
  show sS4 c L kd pl f' v' = _
  unfold sS4
  rw [cI_t (by omega)]
  exact inl5 (by omega) (by omega) (by omega) (by omega) (by omega)
theorem k_s_sg_bad {z n c w L zn h r g kd pl fi kw va wo : Int} (p1 : pPS z n 4 c w L zn h r g kd pl fi kw va wo) (p2 : pSgn kd va 60 0) (p3 : pSgn kd va 61 0) (p4 : pSgn kd va 62 0) : pSAC z n zn h r g (-1 * pl + -1) 1 := by
  obtain ⟨p, ⟨t, hR⟩, f', v', w', hT, g1, g2, g3⟩ := p1
  obtain ⟨b0, b1, b2, b3, b4, b5, _, _⟩ := Tok_p hT
  have s2 := iff1_f p2 rfl
  have s3 := iff1_f p3 rfl
  have s4 := iff1_f p4 rfl
  refine ⟨t, _, kd, pl, f', kw, v', w', hR, hT, ?_⟩
  show sS4 c L kd pl f' v' = _
  unfold sS4
  rw [cI_f (by omega)]
  exact inr5 (by omega) (by omega)
theorem k_s_nu {z n c w L zn h r g kd pl fi kw va wo : Int} (p1 : pPS z n 5 c w L zn h r g kd pl fi kw va wo) (p2 : 3 ≤ kd ∧ kd ≤ 3) : pPSC z n 1 fi c 0 L zn h r g := by
  obtain ⟨p, ⟨t, hR⟩, f', v', w', hT, g1, g2, g3⟩ := p1
  obtain ⟨b0, b1, b2, b3, b4, b5, _, _⟩ := Tok_p hT
  refine ⟨t + 1, _, kd, pl, f', kw, v', w', hR, hT, ?_⟩
  show sS5 c L kd pl f' = _
  unfold sS5
  rw [cI_t (by omega)]
  exact inl5 (by omega) (by omega) (by omega) (by omega) (by omega)
theorem k_s_nu_bad {z n c w L zn h r g kd pl fi kw va wo : Int} (p1 : pPS z n 5 c w L zn h r g kd pl fi kw va wo) (p2 : kd ≠ 3) : pSAC z n zn h r g (-1 * pl + -1) 1 := by
  obtain ⟨p, ⟨t, hR⟩, f', v', w', hT, g1, g2, g3⟩ := p1
  obtain ⟨b0, b1, b2, b3, b4, b5, _, _⟩ := Tok_p hT
  refine ⟨t, _, kd, pl, f', kw, v', w', hR, hT, ?_⟩
  show sS5 c L kd pl f' = _
  unfold sS5
  rw [cI_f (by omega)]
  exact inr5 (by omega) (by omega)
theorem k_t_init {n z zm zr : Int} (p1 : -1 * n ≤ 0) : pPSP z n 0 0 0 1 1 zm zr := ⟨0, rfl⟩
theorem k_t_tok {z n q p c w L zm zr kd fr to nu sg wo : Int} (p1 : pPSP z n q p c w L zm zr) (p2 : pTokR z n 200 p kd fr to nu sg wo) : pPSR z n q c w L zm zr kd fr to nu sg wo := ⟨p, p1, p2⟩
theorem k_t_br {z n c w L zm zr kd fr to nu sg wo : Int} (p1 : pPSR z n 0 c w L zm zr kd fr to nu sg wo) (p2 : pSgn kd sg 40 1) (p3 : c + -19 ≤ 0) (p4 : w + -8 ≤ 0) : pPSP z n 0 to (c + 1) (w + 1) (w + 16 * L + 1) zm zr := by
  obtain ⟨p, ⟨t, hR⟩, hT0⟩ := p1
  obtain ⟨kd', f', kw, v', w', hT, g0, g1, g2, g3, g5, g6, g7, g8⟩ := TokR_p hT0
  have tb0 := (Tok_p hT).2.1
  have tb1 := (Tok_p hT).2.2.1
  have s2 := iff1_t p2 rfl
  refine ⟨t + 1, _, kd', fr, f', kw, v', w', hR, hT, ?_⟩
  show sS0 c w L kd' fr f' kw v' = _
  unfold sS0
  rw [cI_t (by omega), cI_f (by omega), cI_t (by omega)]
  exact inl5 (by omega) (by omega) (by omega) (by omega) (by omega)
theorem k_t_not {z n c w L zm zr kd fr to nu sg wo k : Int} (p1 : pPSR z n 0 c w L zm zr kd fr to nu sg wo) (p2 : pIsw kd wo k 1) (p3 : 15 ≤ k ∧ k ≤ 15) (p4 : c + -19 ≤ 0) (p5 : w + -8 ≤ 0) : pPSP z n 0 to (c + 1) (w + 1) L zm zr := by
  obtain ⟨p, ⟨t, hR⟩, hT0⟩ := p1
  obtain ⟨kd', f', kw, v', w', hT, g0, g1, g2, g3, g5, g6, g7, g8⟩ := TokR_p hT0
  have tb0 := (Tok_p hT).2.1
  have tb1 := (Tok_p hT).2.2.1
  have w2 := iff1_t p2 rfl
  have k2 : kd' = 2 := by omega
  have kk : kw = ((k.toNat : Nat) : Int) := ((g5 k2).2.2 k.toNat (by omega)).mpr w2.2
  refine ⟨t + 1, _, kd', fr, f', kw, v', w', hR, hT, ?_⟩
  show sS0 c w L kd' fr f' kw v' = _
  unfold sS0
  rw [cI_t (by omega), cI_f (by omega), cI_f (by omega), cI_t (by omega)]
  exact inl5 (by omega) (by omega) (by omega) (by omega) (by omega)
theorem k_t_pl {z n c w L zm zr kd fr to nu sg wo k : Int} (p1 : pPSR z n 0 c w L zm zr kd fr to nu sg wo) (p2 : pIsw kd wo k 1) (p3 : 16 ≤ k ∧ k ≤ 17) (p4 : c + -19 ≤ 0) (p5 : w + -8 ≤ 0) : pPSP z n 1 to (c + 1) 0 L zm zr := by
  obtain ⟨p, ⟨t, hR⟩, hT0⟩ := p1
  obtain ⟨kd', f', kw, v', w', hT, g0, g1, g2, g3, g5, g6, g7, g8⟩ := TokR_p hT0
  have tb0 := (Tok_p hT).2.1
  have tb1 := (Tok_p hT).2.2.1
  have w2 := iff1_t p2 rfl
  have k2 : kd' = 2 := by omega
  have kk : kw = ((k.toNat : Nat) : Int) := ((g5 k2).2.2 k.toNat (by omega)).mpr w2.2
  refine ⟨t + 1, _, kd', fr, f', kw, v', w', hR, hT, ?_⟩
  show sS0 c w L kd' fr f' kw v' = _
  unfold sS0
  rw [cI_t (by omega), cI_f (by omega), cI_f (by omega), cI_f (by omega), cI_t (by omega)]
  exact inl5 (by omega) (by omega) (by omega) (by omega) (by omega)
theorem k_t_in {z n c w L zm zr kd fr to nu sg wo k : Int} (p1 : pPSR z n 0 c w L zm zr kd fr to nu sg wo) (p2 : pIsw kd wo k 1) (p3 : 18 ≤ k ∧ k ≤ 18) (p4 : c + -19 ≤ 0) (p5 : w + -8 ≤ 0) : pPSP z n 2 to (c + 1) 0 L zm zr := by
  obtain ⟨p, ⟨t, hR⟩, hT0⟩ := p1
  obtain ⟨kd', f', kw, v', w', hT, g0, g1, g2, g3, g5, g6, g7, g8⟩ := TokR_p hT0
  have tb0 := (Tok_p hT).2.1
  have tb1 := (Tok_p hT).2.2.1
  have w2 := iff1_t p2 rfl
  have k2 : kd' = 2 := by omega
  have kk : kw = ((k.toNat : Nat) : Int) := ((g5 k2).2.2 k.toNat (by omega)).mpr w2.2
  refine ⟨t + 1, _, kd', fr, f', kw, v', w', hR, hT, ?_⟩
  show sS0 c w L kd' fr f' kw v' = _
  unfold sS0
  rw [cI_t (by omega), cI_f (by omega), cI_f (by omega), cI_f (by omega), cI_f (by omega), cI_t (by omega)]
  exact inl5 (by omega) (by omega) (by omega) (by omega) (by omega)
theorem k_t_has {z n c w L zm zr kd fr to nu sg wo k : Int} (p1 : pPSR z n 0 c w L zm zr kd fr to nu sg wo) (p2 : pIsw kd wo k 1) (p3 : 19 ≤ k ∧ k ≤ 19) (p4 : c + -19 ≤ 0) (p5 : w + -8 ≤ 0) : pPSP z n 3 to (c + 1) 0 L zm zr := by
  obtain ⟨p, ⟨t, hR⟩, hT0⟩ := p1
  obtain ⟨kd', f', kw, v', w', hT, g0, g1, g2, g3, g5, g6, g7, g8⟩ := TokR_p hT0
  have tb0 := (Tok_p hT).2.1
  have tb1 := (Tok_p hT).2.2.1
  have w2 := iff1_t p2 rfl
  have k2 : kd' = 2 := by omega
  have kk : kw = ((k.toNat : Nat) : Int) := ((g5 k2).2.2 k.toNat (by omega)).mpr w2.2
  refine ⟨t + 1, _, kd', fr, f', kw, v', w', hR, hT, ?_⟩
  show sS0 c w L kd' fr f' kw v' = _
  unfold sS0
  rw [cI_t (by omega), cI_f (by omega), cI_f (by omega), cI_f (by omega), cI_f (by omega), cI_f (by omega), cI_t (by omega)]
  exact inl5 (by omega) (by omega) (by omega) (by omega) (by omega)
theorem k_t_cmp {z n c w L zm zr kd fr to nu sg wo k : Int} (p1 : pPSR z n 0 c w L zm zr kd fr to nu sg wo) (p2 : pIsw kd wo k 1) (p3 : 20 ≤ k ∧ k ≤ 23) (p4 : c + -19 ≤ 0) (p5 : w + -8 ≤ 0) : pPSP z n 4 to (c + 1) 0 L zm zr := by
  obtain ⟨p, ⟨t, hR⟩, hT0⟩ := p1
  obtain ⟨kd', f', kw, v', w', hT, g0, g1, g2, g3, g5, g6, g7, g8⟩ := TokR_p hT0
  have tb0 := (Tok_p hT).2.1
  have tb1 := (Tok_p hT).2.2.1
  have w2 := iff1_t p2 rfl
  have k2 : kd' = 2 := by omega
  have kk : kw = ((k.toNat : Nat) : Int) := ((g5 k2).2.2 k.toNat (by omega)).mpr w2.2
  refine ⟨t + 1, _, kd', fr, f', kw, v', w', hR, hT, ?_⟩
  show sS0 c w L kd' fr f' kw v' = _
  unfold sS0
  rw [cI_t (by omega), cI_f (by omega), cI_f (by omega), cI_f (by omega), cI_f (by omega), cI_f (by omega), cI_f (by omega)]
  exact inl5 (by omega) (by omega) (by omega) (by omega) (by omega)
theorem k_t_many1a {z n c w L zm zr kd fr to nu sg wo : Int} (p1 : pPSR z n 0 c w L zm zr kd fr to nu sg wo) (p2 : pSgn kd sg 40 1) (p3 : -1 * c + 20 ≤ 0) : pSAR z n zm zr (-1 * fr + -1) 4 := by
  obtain ⟨p, ⟨t, hR⟩, hT0⟩ := p1
  obtain ⟨kd', f', kw, v', w', hT, g0, g1, g2, g3, g5, g6, g7, g8⟩ := TokR_p hT0
  have tb0 := (Tok_p hT).2.1
  have tb1 := (Tok_p hT).2.2.1
  have s2 := iff1_t p2 rfl
  refine ⟨t, _, kd', fr, f', kw, v', w', hR, hT, ?_⟩
  show sS0 c w L kd' fr f' kw v' = _
  unfold sS0
  rw [cI_t (by omega), cI_t (by omega)]
  exact inr5 (by omega) (by omega)
theorem k_t_many2a {z n c w L zm zr kd fr to nu sg wo k : Int} (p1 : pPSR z n 0 c w L zm zr kd fr to nu sg wo) (p2 : pIsw kd wo k 1) (p3 : 15 ≤ k ∧ k ≤ 23) (p4 : -1 * c + 20 ≤ 0) : pSAR z n zm zr (-1 * fr + -1) 4 := by
  obtain ⟨p, ⟨t, hR⟩, hT0⟩ := p1
  obtain ⟨kd', f', kw, v', w', hT, g0, g1, g2, g3, g5, g6, g7, g8⟩ := TokR_p hT0
  have tb0 := (Tok_p hT).2.1
  have tb1 := (Tok_p hT).2.2.1
  have w2 := iff1_t p2 rfl
  have k2 : kd' = 2 := by omega
  have kk : kw = ((k.toNat : Nat) : Int) := ((g5 k2).2.2 k.toNat (by omega)).mpr w2.2
  refine ⟨t, _, kd', fr, f', kw, v', w', hR, hT, ?_⟩
  show sS0 c w L kd' fr f' kw v' = _
  unfold sS0
  rw [cI_t (by omega), cI_t (by omega)]
  exact inr5 (by omega) (by omega)
theorem k_t_many1b {z n c w L zm zr kd fr to nu sg wo : Int} (p1 : pPSR z n 0 c w L zm zr kd fr to nu sg wo) (p2 : pSgn kd sg 40 1) (p3 : -1 * w + 9 ≤ 0) : pSAR z n zm zr (-1 * fr + -1) 4 := by
  obtain ⟨p, ⟨t, hR⟩, hT0⟩ := p1
  obtain ⟨kd', f', kw, v', w', hT, g0, g1, g2, g3, g5, g6, g7, g8⟩ := TokR_p hT0
  have tb0 := (Tok_p hT).2.1
  have tb1 := (Tok_p hT).2.2.1
  have s2 := iff1_t p2 rfl
  refine ⟨t, _, kd', fr, f', kw, v', w', hR, hT, ?_⟩
  show sS0 c w L kd' fr f' kw v' = _
  unfold sS0
  rw [cI_t (by omega), cI_t (by omega)]
  exact inr5 (by omega) (by omega)
theorem k_t_many2b {z n c w L zm zr kd fr to nu sg wo k : Int} (p1 : pPSR z n 0 c w L zm zr kd fr to nu sg wo) (p2 : pIsw kd wo k 1) (p3 : 15 ≤ k ∧ k ≤ 23) (p4 : -1 * w + 9 ≤ 0) : pSAR z n zm zr (-1 * fr + -1) 4 := by
  obtain ⟨p, ⟨t, hR⟩, hT0⟩ := p1
  obtain ⟨kd', f', kw, v', w', hT, g0, g1, g2, g3, g5, g6, g7, g8⟩ := TokR_p hT0
  have tb0 := (Tok_p hT).2.1
  have tb1 := (Tok_p hT).2.2.1
  have w2 := iff1_t p2 rfl
  have k2 : kd' = 2 := by omega
  have kk : kw = ((k.toNat : Nat) : Int) := ((g5 k2).2.2 k.toNat (by omega)).mpr w2.2
  refine ⟨t, _, kd', fr, f', kw, v', w', hR, hT, ?_⟩
  show sS0 c w L kd' fr f' kw v' = _
  unfold sS0
  rw [cI_t (by omega), cI_t (by omega)]
  exact inr5 (by omega) (by omega)
theorem k_t_bad0 {z n c w L zm zr kd fr to nu sg wo k : Int} (p1 : pPSR z n 0 c w L zm zr kd fr to nu sg wo) (p2 : pSgn kd sg 40 0) (p3 : pNwd kd wo k) (p4 : -1 * k + 24 ≤ 0) : pSAR z n zm zr (-1 * fr + -1) 1 := by
  obtain ⟨p, ⟨t, hR⟩, hT0⟩ := p1
  obtain ⟨kd', f', kw, v', w', hT, g0, g1, g2, g3, g5, g6, g7, g8⟩ := TokR_p hT0
  have tb0 := (Tok_p hT).2.1
  have tb1 := (Tok_p hT).2.2.1
  have s2 := iff1_f p2 rfl
  have nk : ¬ (15 ≤ kw ∧ kw ≤ 23) := fun q => by
    have k2 : kd' = 2 := by
      by_cases k2 : kd' = 2
      · exact k2
      · have := g6 k2
        omega
    exact p3.2 kw.toNat (by omega) (by omega) (by omega) ⟨by omega, ((g5 k2).2.2 kw.toNat (by omega)).mp (by omega)⟩
  refine ⟨t, _, kd', fr, f', kw, v', w', hR, hT, ?_⟩
  show sS0 c w L kd' fr f' kw v' = _
  unfold sS0
  rw [cI_f (by omega)]
  exact inr5 (by omega) (by omega)
theorem k_t_op13 {z n c w L zm zr kd fr to nu sg wo b : Int} (p1 : pPSR z n 1 c w L zm zr kd fr to nu sg wo) (p2 : pIsw kd wo 13 1) (p3 : pTopl L b) : pPSP z n 0 to c b L zm zr := by
  obtain ⟨p, ⟨t, hR⟩, hT0⟩ := p1
  obtain ⟨kd', f', kw, v', w', hT, g0, g1, g2, g3, g5, g6, g7, g8⟩ := TokR_p hT0
  have tb0 := (Tok_p hT).2.1
  have tb1 := (Tok_p hT).2.2.1
  have w2 := iff1_t p2 rfl
  have k2 : kd' = 2 := by omega
  have kk : kw = 13 := ((g5 k2).2.2 13 (by decide)).mpr w2.2
  obtain ⟨_, _, _, hb⟩ := p3
  refine ⟨t + 1, _, kd', fr, f', kw, v', w', hR, hT, ?_⟩
  show sS1 c L kd' fr f' kw v' = _
  unfold sS1
  rw [cI_t (by omega)]
  exact inl5 (by omega) (by omega) (by omega) (by omega) (by omega)
theorem k_t_op14 {z n c w L zm zr kd fr to nu sg wo b : Int} (p1 : pPSR z n 1 c w L zm zr kd fr to nu sg wo) (p2 : pIsw kd wo 14 1) (p3 : pTopl L b) : pPSP z n 0 to c b L zm zr := by
  obtain ⟨p, ⟨t, hR⟩, hT0⟩ := p1
  obtain ⟨kd', f', kw, v', w', hT, g0, g1, g2, g3, g5, g6, g7, g8⟩ := TokR_p hT0
  have tb0 := (Tok_p hT).2.1
  have tb1 := (Tok_p hT).2.2.1
  have w2 := iff1_t p2 rfl
  have k2 : kd' = 2 := by omega
  have kk : kw = 14 := ((g5 k2).2.2 14 (by decide)).mpr w2.2
  obtain ⟨_, _, _, hb⟩ := p3
  refine ⟨t + 1, _, kd', fr, f', kw, v', w', hR, hT, ?_⟩
  show sS1 c L kd' fr f' kw v' = _
  unfold sS1
  rw [cI_t (by omega)]
  exact inl5 (by omega) (by omega) (by omega) (by omega) (by omega)
theorem k_t_cl {z n c w L b zm zr kd fr to nu sg wo : Int} (p1 : pPSR z n 1 c w (16 * L + b) zm zr kd fr to nu sg wo) (p2 : pSgn kd sg 41 1) (p3 : 1 ≤ b ∧ b ≤ 9) (p4 : -1 * L + 1 ≤ 0) : pPSP z n 1 to c 0 L zm zr := by
  obtain ⟨p, ⟨t, hR⟩, hT0⟩ := p1
  obtain ⟨kd', f', kw, v', w', hT, g0, g1, g2, g3, g5, g6, g7, g8⟩ := TokR_p hT0
  have tb0 := (Tok_p hT).2.1
  have tb1 := (Tok_p hT).2.2.1
  have s2 := iff1_t p2 rfl
  have k6 : kw = -1 := g6 (by omega)
  refine ⟨t + 1, _, kd', fr, f', kw, v', w', hR, hT, ?_⟩
  show sS1 c (16 * L + b) kd' fr f' kw v' = _
  unfold sS1
  rw [cI_f (by omega), cI_f (by omega), cI_t (by omega)]
  exact inl5 (by omega) (by omega) (by omega) (by omega) (by omega)
theorem k_t_cl_bad {z n c w L zm zr kd fr to nu sg wo : Int} (p1 : pPSR z n 1 c w L zm zr kd fr to nu sg wo) (p2 : -1 * L + 16 ≤ 0) (p3 : pSgn kd sg 41 0) (p4 : pIsw kd wo 13 0) (p5 : pIsw kd wo 14 0) : pSAR z n zm zr (-1 * fr + -1) 1 := by
  obtain ⟨p, ⟨t, hR⟩, hT0⟩ := p1
  obtain ⟨kd', f', kw, v', w', hT, g0, g1, g2, g3, g5, g6, g7, g8⟩ := TokR_p hT0
  have tb0 := (Tok_p hT).2.1
  have tb1 := (Tok_p hT).2.2.1
  have s3 := iff1_f p3 rfl
  have n13 : ¬ kw = 13 := by
    by_cases k2 : kd' = 2
    · exact fun q => iff1_f p4 rfl ⟨by omega, ((g5 k2).2.2 13 (by decide)).mp q⟩
    · have := g6 k2
      omega
  have n14 : ¬ kw = 14 := by
    by_cases k2 : kd' = 2
    · exact fun q => iff1_f p5 rfl ⟨by omega, ((g5 k2).2.2 14 (by decide)).mp q⟩
    · have := g6 k2
      omega
  refine ⟨t, _, kd', fr, f', kw, v', w', hR, hT, ?_⟩
  show sS1 c L kd' fr f' kw v' = _
  unfold sS1
  rw [cI_f (by omega), cI_f (by omega), cI_f (by omega)]
  exact inr5 (by omega) (by omega)
theorem k_t_end {z n c w zm zr kd fr to nu sg wo : Int} (p1 : pPSR z n 1 c w 1 zm zr kd fr to nu sg wo) (p2 : 0 ≤ kd ∧ kd ≤ 0) : pSAR z n zm zr c 0 := by
  obtain ⟨p, ⟨t, hR⟩, hT0⟩ := p1
  obtain ⟨kd', f', kw, v', w', hT, g0, g1, g2, g3, g5, g6, g7, g8⟩ := TokR_p hT0
  have tb0 := (Tok_p hT).2.1
  have tb1 := (Tok_p hT).2.2.1
  have k6 : kw = -1 := g6 (by omega)
  refine ⟨t, _, kd', fr, f', kw, v', w', hR, hT, ?_⟩
  show sS1 c 1 kd' fr f' kw v' = _
  unfold sS1
  rw [cI_f (by omega), cI_t (by omega), cI_t (by omega)]
theorem k_t_end_bad {z n c w zm zr kd fr to nu sg wo : Int} (p1 : pPSR z n 1 c w 1 zm zr kd fr to nu sg wo) (p2 : 1 ≤ kd) (p3 : pIsw kd wo 13 0) (p4 : pIsw kd wo 14 0) : pSAR z n zm zr (-1 * fr + -1) 1 := by
  obtain ⟨p, ⟨t, hR⟩, hT0⟩ := p1
  obtain ⟨kd', f', kw, v', w', hT, g0, g1, g2, g3, g5, g6, g7, g8⟩ := TokR_p hT0
  have tb0 := (Tok_p hT).2.1
  have tb1 := (Tok_p hT).2.2.1
  have n13 : ¬ kw = 13 := by
    by_cases k2 : kd' = 2
    · exact fun q => iff1_f p3 rfl ⟨by omega, ((g5 k2).2.2 13 (by decide)).mp q⟩
    · have := g6 k2
      omega
  have n14 : ¬ kw = 14 := by
    by_cases k2 : kd' = 2
    · exact fun q => iff1_f p4 rfl ⟨by omega, ((g5 k2).2.2 14 (by decide)).mp q⟩
    · have := g6 k2
      omega
  refine ⟨t, _, kd', fr, f', kw, v', w', hR, hT, ?_⟩
  show sS1 c 1 kd' fr f' kw v' = _
  unfold sS1
  rw [cI_f (by omega), cI_t (by omega), cI_f (by omega)]
  exact inr5 (by omega) (by omega)
theorem k_t_n2 {z n c w L zm zr kd fr to nu sg wo i : Int} (p1 : pPSR z n 2 c w L zm zr kd fr to nu sg wo) (p2 : pNamr kd wo 1) (p3 : pFndr zm zr 0 0 wo i) (p4 : -1 * i ≤ 0) : pPSP z n 1 to c 0 L zm zr := by
  obtain ⟨p, ⟨t, hR⟩, hT0⟩ := p1
  obtain ⟨kd', f', kw, v', w', hT, g0, g1, g2, g3, g5, g6, g7, g8⟩ := TokR_p hT0
  have tb0 := (Tok_p hT).2.1
  have tb1 := (Tok_p hT).2.2.1
  have m2 := iff1_t p2 rfl
  have k2 : kd' = 2 := by omega
  have kn : kw = -1 := by
    by_cases q : 0 ≤ kw
    · exact absurd (((g5 k2).2.2 kw.toNat (by omega)).mp (by omega)) (m2.2 kw.toNat (by omega))
    · omega
  have ei : eR zm zr 0 w' = i := by
    unfold eR ci3
    rw [cn3_0, ← (g5 k2).1]
    exact p3.2.2.2.symm
  refine ⟨t + 1, _, kd', fr, f', kw, v', w', hR, hT, ?_⟩
  show sS2 ((eR zm zr) 0 w') c L kd' fr f' kw = _
  unfold sS2
  rw [ei]
  rw [cI_t (by omega), cI_f (by omega)]
  exact inl5 (by omega) (by omega) (by omega) (by omega) (by omega)
theorem k_t_n2_1 {z n c w L zm zr kd fr to nu sg wo : Int} (p1 : pPSR z n 2 c w L zm zr kd fr to nu sg wo) (p2 : pNamr kd wo 0) : pSAR z n zm zr (-1 * fr + -1) 1 := by
  obtain ⟨p, ⟨t, hR⟩, hT0⟩ := p1
  obtain ⟨kd', f', kw, v', w', hT, g0, g1, g2, g3, g5, g6, g7, g8⟩ := TokR_p hT0
  have tb0 := (Tok_p hT).2.1
  have tb1 := (Tok_p hT).2.2.1
  have m2 := iff1_f p2 rfl
  have kn : ¬ (kd' = 2 ∧ kw = -1) := fun q => m2 ⟨by omega, fun j hj e => by
    have := ((g5 q.1).2.2 j hj).mpr e
    omega⟩
  refine ⟨t, _, kd', fr, f', kw, v', w', hR, hT, ?_⟩
  show sS2 ((eR zm zr) 0 w') c L kd' fr f' kw = _
  unfold sS2
  rw [cI_f (by omega)]
  exact inr5 (by omega) (by omega)
theorem k_t_n2_3 {z n c w L zm zr kd fr to nu sg wo : Int} (p1 : pPSR z n 2 c w L zm zr kd fr to nu sg wo) (p2 : pNamr kd wo 1) (p3 : pFndr zm zr 0 0 wo (-1)) : pSAR z n zm zr (-1 * fr + -1) 3 := by
  obtain ⟨p, ⟨t, hR⟩, hT0⟩ := p1
  obtain ⟨kd', f', kw, v', w', hT, g0, g1, g2, g3, g5, g6, g7, g8⟩ := TokR_p hT0
  have tb0 := (Tok_p hT).2.1
  have tb1 := (Tok_p hT).2.2.1
  have m2 := iff1_t p2 rfl
  have k2 : kd' = 2 := by omega
  have kn : kw = -1 := by
    by_cases q : 0 ≤ kw
    · exact absurd (((g5 k2).2.2 kw.toNat (by omega)).mp (by omega)) (m2.2 kw.toNat (by omega))
    · omega
  have ei : eR zm zr 0 w' = -1 := by
    unfold eR ci3
    rw [cn3_0, ← (g5 k2).1]
    exact p3.2.2.2.symm
  refine ⟨t, _, kd', fr, f', kw, v', w', hR, hT, ?_⟩
  show sS2 ((eR zm zr) 0 w') c L kd' fr f' kw = _
  unfold sS2
  rw [ei]
  rw [cI_t (by omega), cI_t (by omega)]
  exact inr5 (by omega) (by omega)
theorem k_t_n3 {z n c w L zm zr kd fr to nu sg wo i : Int} (p1 : pPSR z n 3 c w L zm zr kd fr to nu sg wo) (p2 : pNamr kd wo 1) (p3 : pFndr zm zr 13 2 wo i) (p4 : -1 * i ≤ 0) : pPSP z n 1 to c 0 L zm zr := by
  obtain ⟨p, ⟨t, hR⟩, hT0⟩ := p1
  obtain ⟨kd', f', kw, v', w', hT, g0, g1, g2, g3, g5, g6, g7, g8⟩ := TokR_p hT0
  have tb0 := (Tok_p hT).2.1
  have tb1 := (Tok_p hT).2.2.1
  have m2 := iff1_t p2 rfl
  have k2 : kd' = 2 := by omega
  have kn : kw = -1 := by
    by_cases q : 0 ≤ kw
    · exact absurd (((g5 k2).2.2 kw.toNat (by omega)).mp (by omega)) (m2.2 kw.toNat (by omega))
    · omega
  have ei : eR zm zr 13 w' = i := by
    unfold eR ci3
    rw [cn3_13, ← (g5 k2).1]
    exact p3.2.2.2.symm
  refine ⟨t + 1, _, kd', fr, f', kw, v', w', hR, hT, ?_⟩
  show sS2 ((eR zm zr) 13 w') c L kd' fr f' kw = _
  unfold sS2
  rw [ei]
  rw [cI_t (by omega), cI_f (by omega)]
  exact inl5 (by omega) (by omega) (by omega) (by omega) (by omega)
theorem k_t_n3_1 {z n c w L zm zr kd fr to nu sg wo : Int} (p1 : pPSR z n 3 c w L zm zr kd fr to nu sg wo) (p2 : pNamr kd wo 0) : pSAR z n zm zr (-1 * fr + -1) 1 := by
  obtain ⟨p, ⟨t, hR⟩, hT0⟩ := p1
  obtain ⟨kd', f', kw, v', w', hT, g0, g1, g2, g3, g5, g6, g7, g8⟩ := TokR_p hT0
  have tb0 := (Tok_p hT).2.1
  have tb1 := (Tok_p hT).2.2.1
  have m2 := iff1_f p2 rfl
  have kn : ¬ (kd' = 2 ∧ kw = -1) := fun q => m2 ⟨by omega, fun j hj e => by
    have := ((g5 q.1).2.2 j hj).mpr e
    omega⟩
  refine ⟨t, _, kd', fr, f', kw, v', w', hR, hT, ?_⟩
  show sS2 ((eR zm zr) 13 w') c L kd' fr f' kw = _
  unfold sS2
  rw [cI_f (by omega)]
  exact inr5 (by omega) (by omega)
theorem k_t_n3_3 {z n c w L zm zr kd fr to nu sg wo : Int} (p1 : pPSR z n 3 c w L zm zr kd fr to nu sg wo) (p2 : pNamr kd wo 1) (p3 : pFndr zm zr 13 2 wo (-1)) : pSAR z n zm zr (-1 * fr + -1) 3 := by
  obtain ⟨p, ⟨t, hR⟩, hT0⟩ := p1
  obtain ⟨kd', f', kw, v', w', hT, g0, g1, g2, g3, g5, g6, g7, g8⟩ := TokR_p hT0
  have tb0 := (Tok_p hT).2.1
  have tb1 := (Tok_p hT).2.2.1
  have m2 := iff1_t p2 rfl
  have k2 : kd' = 2 := by omega
  have kn : kw = -1 := by
    by_cases q : 0 ≤ kw
    · exact absurd (((g5 k2).2.2 kw.toNat (by omega)).mp (by omega)) (m2.2 kw.toNat (by omega))
    · omega
  have ei : eR zm zr 13 w' = -1 := by
    unfold eR ci3
    rw [cn3_13, ← (g5 k2).1]
    exact p3.2.2.2.symm
  refine ⟨t, _, kd', fr, f', kw, v', w', hR, hT, ?_⟩
  show sS2 ((eR zm zr) 13 w') c L kd' fr f' kw = _
  unfold sS2
  rw [ei]
  rw [cI_t (by omega), cI_t (by omega)]
  exact inr5 (by omega) (by omega)
theorem k_t_sg {z n c w L zm zr kd fr to nu sg wo x : Int} (p1 : pPSR z n 4 c w L zm zr kd fr to nu sg wo) (p2 : pSgn kd sg x 1) (p3 : 60 ≤ x ∧ x ≤ 62) : pPSP z n 5 to c 0 L zm zr := by
  obtain ⟨p, ⟨t, hR⟩, hT0⟩ := p1
  obtain ⟨kd', f', kw, v', w', hT, g0, g1, g2, g3, g5, g6, g7, g8⟩ := TokR_p hT0
  have tb0 := (Tok_p hT).2.1
  have tb1 := (Tok_p hT).2.2.1
  have s2 := iff1_t p2 rfl
  refine ⟨t + 1, _, kd', fr, f', kw, v', w', hR, hT, ?_⟩
  show sS4 c L kd' fr f' v' = _
  unfold sS4
  rw [cI_t (by omega)]
  exact inl5 (by omega) (by omega) (by omega) (by omega) (by omega)
theorem k_t_sg_bad {z n c w L zm zr kd fr to nu sg wo : Int} (p1 : pPSR z n 4 c w L zm zr kd fr to nu sg wo) (p2 : pSgn kd sg 60 0) (p3 : pSgn kd sg 61 0) (p4 : pSgn kd sg 62 0) : pSAR z n zm zr (-1 * fr + -1) 1 := by
  obtain ⟨p, ⟨t, hR⟩, hT0⟩ := p1
  obtain ⟨kd', f', kw, v', w', hT, g0, g1, g2, g3, g5, g6, g7, g8⟩ := TokR_p hT0
  have tb0 := (Tok_p hT).2.1
  have tb1 := (Tok_p hT).2.2.1
  have s2 := iff1_f p2 rfl
  have s3 := iff1_f p3 rfl
  have s4 := iff1_f p4 rfl
  refine ⟨t, _, kd', fr, f', kw, v', w', hR, hT, ?_⟩
  show sS4 c L kd' fr f' v' = _
  unfold sS4
  rw [cI_f (by omega)]
  exact inr5 (by omega) (by omega)
theorem k_t_nu {z n c w L zm zr kd fr to nu sg wo : Int} (p1 : pPSR z n 5 c w L zm zr kd fr to nu sg wo) (p2 : 3 ≤ kd ∧ kd ≤ 3) : pPSP z n 1 to c 0 L zm zr := by
  obtain ⟨p, ⟨t, hR⟩, hT0⟩ := p1
  obtain ⟨kd', f', kw, v', w', hT, g0, g1, g2, g3, g5, g6, g7, g8⟩ := TokR_p hT0
  have tb0 := (Tok_p hT).2.1
  have tb1 := (Tok_p hT).2.2.1
  refine ⟨t + 1, _, kd', fr, f', kw, v', w', hR, hT, ?_⟩
  show sS5 c L kd' fr f' = _
  unfold sS5
  rw [cI_t (by omega)]
  exact inl5 (by omega) (by omega) (by omega) (by omega) (by omega)
theorem k_t_nu_bad {z n c w L zm zr kd fr to nu sg wo : Int} (p1 : pPSR z n 5 c w L zm zr kd fr to nu sg wo) (p2 : kd ≠ 3) : pSAR z n zm zr (-1 * fr + -1) 1 := by
  obtain ⟨p, ⟨t, hR⟩, hT0⟩ := p1
  obtain ⟨kd', f', kw, v', w', hT, g0, g1, g2, g3, g5, g6, g7, g8⟩ := TokR_p hT0
  have tb0 := (Tok_p hT).2.1
  have tb1 := (Tok_p hT).2.2.1
  refine ⟨t, _, kd', fr, f', kw, v', w', hR, hT, ?_⟩
  show sS5 c L kd' fr f' = _
  unfold sS5
  rw [cI_f (by omega)]
  exact inr5 (by omega) (by omega)
theorem k_t_nu_x {z n c w L zm zr kd fr to nu sg wo : Int} (p1 : pPSR z n 5 c w L zm zr kd fr to nu sg wo) (p2 : 3 ≤ kd ∧ kd ≤ 3) (p3 : pWin nu 0 999 0) : False := by
  obtain ⟨p, ⟨t, hR⟩, hT0⟩ := p1
  obtain ⟨kd', f', kw, v', w', hT, g0, g1, g2, g3, g5, g6, g7, g8⟩ := TokR_p hT0
  have tb0 := (Tok_p hT).2.1
  have k3 : kd' = 3 := by omega
  subst k3
  have q := Tok_num hT
  have e := g2 rfl
  have u := iff1_f p3 rfl
  omega
theorem k_b_init {n z zn h r g : Int} (p1 : -1 * n ≤ 0) : pPBC z n 0 0 0 zn h r g := ⟨0, rfl⟩
theorem k_b_tok {z n q p k zn h r g kd pl fi kw va wo : Int} (p1 : pPBC z n q p k zn h r g) (p2 : pTokC z n 400 p kd pl fi kw va wo) : pPBT z n q k zn h r g kd pl fi kw va wo := ⟨p, p1, p2⟩
theorem k_b_end {z n k zn h r g kd pl fi kw va wo : Int} (p1 : pPBT z n 0 k zn h r g kd pl fi kw va wo) (p2 : 1 ≤ kd ∧ kd ≤ 1) : pBAC z n zn h r g k 0 := by
  obtain ⟨p, ⟨t, hR⟩, f', v', w', hT, g1, g2, g3⟩ := p1
  obtain ⟨b0, b1, b2, b3, b4, b5, _, _⟩ := Tok_p hT
  refine ⟨t, _, kd, pl, f', kw, v', w', hR, hT, ?_⟩
  show sB0 ((eC zn h r g) 13 w') k kd pl f' kw = _
  unfold sB0
  rw [cI_t (by omega)]
theorem k_b_k11 {z n k zn h r g kd pl fi kw va wo : Int} (p1 : pPBT z n 0 k zn h r g kd pl fi kw va wo) (p2 : 11 ≤ kw ∧ kw ≤ 11) (p3 : k + -39 ≤ 0) : pPBC z n 1 fi k zn h r g := by
  obtain ⟨p, ⟨t, hR⟩, f', v', w', hT, g1, g2, g3⟩ := p1
  obtain ⟨b0, b1, b2, b3, b4, b5, _, _⟩ := Tok_p hT
  refine ⟨t + 1, _, kd, pl, f', kw, v', w', hR, hT, ?_⟩
  show sB0 ((eC zn h r g) 13 w') k kd pl f' kw = _
  unfold sB0
  rw [cI_f (by omega), cI_t (by omega), cI_f (by omega)]
  exact inl3 (by omega) (by omega) (by omega)
theorem k_b_m11 {z n k zn h r g kd pl fi kw va wo : Int} (p1 : pPBT z n 0 k zn h r g kd pl fi kw va wo) (p2 : 11 ≤ kw ∧ kw ≤ 11) (p3 : -1 * k + 40 ≤ 0) : pBAC z n zn h r g (-1 * pl + -1) 4 := by
  obtain ⟨p, ⟨t, hR⟩, f', v', w', hT, g1, g2, g3⟩ := p1
  obtain ⟨b0, b1, b2, b3, b4, b5, _, _⟩ := Tok_p hT
  refine ⟨t, _, kd, pl, f', kw, v', w', hR, hT, ?_⟩
  show sB0 ((eC zn h r g) 13 w') k kd pl f' kw = _
  unfold sB0
  rw [cI_f (by omega), cI_t (by omega), cI_t (by omega)]
  exact inr3 (by omega) (by omega)
theorem k_b_k12 {z n k zn h r g kd pl fi kw va wo : Int} (p1 : pPBT z n 0 k zn h r g kd pl fi kw va wo) (p2 : 12 ≤ kw ∧ kw ≤ 12) (p3 : k + -39 ≤ 0) : pPBC z n 2 fi k zn h r g := by
  obtain ⟨p, ⟨t, hR⟩, f', v', w', hT, g1, g2, g3⟩ := p1
  obtain ⟨b0, b1, b2, b3, b4, b5, _, _⟩ := Tok_p hT
  refine ⟨t + 1, _, kd, pl, f', kw, v', w', hR, hT, ?_⟩
  show sB0 ((eC zn h r g) 13 w') k kd pl f' kw = _
  unfold sB0
  rw [cI_f (by omega), cI_t (by omega), cI_f (by omega)]
  exact inl3 (by omega) (by omega) (by omega)
theorem k_b_m12 {z n k zn h r g kd pl fi kw va wo : Int} (p1 : pPBT z n 0 k zn h r g kd pl fi kw va wo) (p2 : 12 ≤ kw ∧ kw ≤ 12) (p3 : -1 * k + 40 ≤ 0) : pBAC z n zn h r g (-1 * pl + -1) 4 := by
  obtain ⟨p, ⟨t, hR⟩, f', v', w', hT, g1, g2, g3⟩ := p1
  obtain ⟨b0, b1, b2, b3, b4, b5, _, _⟩ := Tok_p hT
  refine ⟨t, _, kd, pl, f', kw, v', w', hR, hT, ?_⟩
  show sB0 ((eC zn h r g) 13 w') k kd pl f' kw = _
  unfold sB0
  rw [cI_f (by omega), cI_t (by omega), cI_t (by omega)]
  exact inr3 (by omega) (by omega)
theorem k_b_g {z n k zn h r g kd pl fi kw va wo i : Int} (p1 : pPBT z n 0 k zn h r g kd pl fi kw va wo) (p2 : pNam kd kw 1) (p3 : pFnd zn 13 g wo i) (p4 : -1 * i ≤ 0) (p5 : k + -39 ≤ 0) : pPBC z n 3 fi k zn h r g := by
  obtain ⟨p, ⟨t, hR⟩, f', v', w', hT, g1, g2, g3⟩ := p1
  obtain ⟨b0, b1, b2, b3, b4, b5, _, _⟩ := Tok_p hT
  have m2 := iff1_t p2 rfl
  have ei : eC zn h r g 13 w' = i := by
    unfold eC
    rw [cn3_13, ← g3 (by omega)]
    exact p3.2.2.symm
  refine ⟨t + 1, _, kd, pl, f', kw, v', w', hR, hT, ?_⟩
  show sB0 ((eC zn h r g) 13 w') k kd pl f' kw = _
  unfold sB0
  rw [ei]
  rw [cI_f (by omega), cI_f (by omega), cI_t (by omega), cI_f (by omega), cI_f (by omega)]
  exact inl3 (by omega) (by omega) (by omega)
theorem k_b_g1 {z n k zn h r g kd pl fi kw va wo : Int} (p1 : pPBT z n 0 k zn h r g kd pl fi kw va wo) (p2 : kd ≠ 1) (p3 : pNe kw 11) (p4 : pNe kw 12) (p5 : pNam kd kw 0) : pBAC z n zn h r g (-1 * pl + -1) 1 := by
  obtain ⟨p, ⟨t, hR⟩, f', v', w', hT, g1, g2, g3⟩ := p1
  obtain ⟨b0, b1, b2, b3, b4, b5, _, _⟩ := Tok_p hT
  unfold pNe at p3 p4
  have m2 := iff1_f p5 rfl
  refine ⟨t, _, kd, pl, f', kw, v', w', hR, hT, ?_⟩
  show sB0 ((eC zn h r g) 13 w') k kd pl f' kw = _
  unfold sB0
  rw [cI_f (by omega), cI_f (by omega), cI_f (by omega)]
  exact inr3 (by omega) (by omega)
theorem k_b_g3 {z n k zn h r g kd pl fi kw va wo : Int} (p1 : pPBT z n 0 k zn h r g kd pl fi kw va wo) (p2 : pNam kd kw 1) (p3 : pFnd zn 13 g wo (-1)) : pBAC z n zn h r g (-1 * pl + -1) 3 := by
  obtain ⟨p, ⟨t, hR⟩, f', v', w', hT, g1, g2, g3⟩ := p1
  obtain ⟨b0, b1, b2, b3, b4, b5, _, _⟩ := Tok_p hT
  have m2 := iff1_t p2 rfl
  have ei : eC zn h r g 13 w' = -1 := by
    unfold eC
    rw [cn3_13, ← g3 (by omega)]
    exact p3.2.2.symm
  refine ⟨t, _, kd, pl, f', kw, v', w', hR, hT, ?_⟩
  show sB0 ((eC zn h r g) 13 w') k kd pl f' kw = _
  unfold sB0
  rw [ei]
  rw [cI_f (by omega), cI_f (by omega), cI_t (by omega), cI_t (by omega)]
  exact inr3 (by omega) (by omega)
theorem k_b_g4 {z n k zn h r g kd pl fi kw va wo i : Int} (p1 : pPBT z n 0 k zn h r g kd pl fi kw va wo) (p2 : pNam kd kw 1) (p3 : pFnd zn 13 g wo i) (p4 : -1 * i ≤ 0) (p5 : -1 * k + 40 ≤ 0) : pBAC z n zn h r g (-1 * pl + -1) 4 := by
  obtain ⟨p, ⟨t, hR⟩, f', v', w', hT, g1, g2, g3⟩ := p1
  obtain ⟨b0, b1, b2, b3, b4, b5, _, _⟩ := Tok_p hT
  have m2 := iff1_t p2 rfl
  have ei : eC zn h r g 13 w' = i := by
    unfold eC
    rw [cn3_13, ← g3 (by omega)]
    exact p3.2.2.symm
  refine ⟨t, _, kd, pl, f', kw, v', w', hR, hT, ?_⟩
  show sB0 ((eC zn h r g) 13 w') k kd pl f' kw = _
  unfold sB0
  rw [ei]
  rw [cI_f (by omega), cI_f (by omega), cI_t (by omega), cI_f (by omega), cI_t (by omega)]
  exact inr3 (by omega) (by omega)
theorem k_b_n1 {z n k zn h r g kd pl fi kw va wo : Int} (p1 : pPBT z n 1 k zn h r g kd pl fi kw va wo) (p2 : 3 ≤ kd ∧ kd ≤ 3) (p3 : 0 ≤ va ∧ va ≤ 5) : pPBC z n 6 fi k zn h r g := by
  obtain ⟨p, ⟨t, hR⟩, f', v', w', hT, g1, g2, g3⟩ := p1
  obtain ⟨b0, b1, b2, b3, b4, b5, _, _⟩ := Tok_p hT
  refine ⟨t + 1, _, kd, pl, f', kw, v', w', hR, hT, ?_⟩
  show sBn k kd pl f' v' 0 5 = _
  unfold sBn
  rw [cI_t (by omega), cI_t (by omega)]
  exact inl3 (by omega) (by omega) (by omega)
theorem k_b_n1_1 {z n k zn h r g kd pl fi kw va wo : Int} (p1 : pPBT z n 1 k zn h r g kd pl fi kw va wo) (p2 : kd ≠ 3) : pBAC z n zn h r g (-1 * pl + -1) 1 := by
  obtain ⟨p, ⟨t, hR⟩, f', v', w', hT, g1, g2, g3⟩ := p1
  obtain ⟨b0, b1, b2, b3, b4, b5, _, _⟩ := Tok_p hT
  refine ⟨t, _, kd, pl, f', kw, v', w', hR, hT, ?_⟩
  show sBn k kd pl f' v' 0 5 = _
  unfold sBn
  rw [cI_f (by omega)]
  exact inr3 (by omega) (by omega)
theorem k_b_n1_2 {z n k zn h r g kd pl fi kw va wo : Int} (p1 : pPBT z n 1 k zn h r g kd pl fi kw va wo) (p2 : 3 ≤ kd ∧ kd ≤ 3) (p3 : pWin va 0 5 0) : pBAC z n zn h r g (-1 * pl + -1) 2 := by
  obtain ⟨p, ⟨t, hR⟩, f', v', w', hT, g1, g2, g3⟩ := p1
  obtain ⟨b0, b1, b2, b3, b4, b5, _, _⟩ := Tok_p hT
  have m3 := iff1_f p3 rfl
  refine ⟨t, _, kd, pl, f', kw, v', w', hR, hT, ?_⟩
  show sBn k kd pl f' v' 0 5 = _
  unfold sBn
  rw [cI_t (by omega), cI_f (by omega)]
  exact inr3 (by omega) (by omega)
theorem k_b_n2 {z n k zn h r g kd pl fi kw va wo : Int} (p1 : pPBT z n 2 k zn h r g kd pl fi kw va wo) (p2 : 3 ≤ kd ∧ kd ≤ 3) (p3 : 1 ≤ va ∧ va ≤ 60) : pPBC z n 6 fi k zn h r g := by
  obtain ⟨p, ⟨t, hR⟩, f', v', w', hT, g1, g2, g3⟩ := p1
  obtain ⟨b0, b1, b2, b3, b4, b5, _, _⟩ := Tok_p hT
  refine ⟨t + 1, _, kd, pl, f', kw, v', w', hR, hT, ?_⟩
  show sBn k kd pl f' v' 1 60 = _
  unfold sBn
  rw [cI_t (by omega), cI_t (by omega)]
  exact inl3 (by omega) (by omega) (by omega)
theorem k_b_n2_1 {z n k zn h r g kd pl fi kw va wo : Int} (p1 : pPBT z n 2 k zn h r g kd pl fi kw va wo) (p2 : kd ≠ 3) : pBAC z n zn h r g (-1 * pl + -1) 1 := by
  obtain ⟨p, ⟨t, hR⟩, f', v', w', hT, g1, g2, g3⟩ := p1
  obtain ⟨b0, b1, b2, b3, b4, b5, _, _⟩ := Tok_p hT
  refine ⟨t, _, kd, pl, f', kw, v', w', hR, hT, ?_⟩
  show sBn k kd pl f' v' 1 60 = _
  unfold sBn
  rw [cI_f (by omega)]
  exact inr3 (by omega) (by omega)
theorem k_b_n2_2 {z n k zn h r g kd pl fi kw va wo : Int} (p1 : pPBT z n 2 k zn h r g kd pl fi kw va wo) (p2 : 3 ≤ kd ∧ kd ≤ 3) (p3 : pWin va 1 60 0) : pBAC z n zn h r g (-1 * pl + -1) 2 := by
  obtain ⟨p, ⟨t, hR⟩, f', v', w', hT, g1, g2, g3⟩ := p1
  obtain ⟨b0, b1, b2, b3, b4, b5, _, _⟩ := Tok_p hT
  have m3 := iff1_f p3 rfl
  refine ⟨t, _, kd, pl, f', kw, v', w', hR, hT, ?_⟩
  show sBn k kd pl f' v' 1 60 = _
  unfold sBn
  rw [cI_t (by omega), cI_f (by omega)]
  exact inr3 (by omega) (by omega)
theorem k_b_n5 {z n k zn h r g kd pl fi kw va wo : Int} (p1 : pPBT z n 5 k zn h r g kd pl fi kw va wo) (p2 : 3 ≤ kd ∧ kd ≤ 3) (p3 : 1 ≤ va ∧ va ≤ 30) : pPBC z n 6 fi k zn h r g := by
  obtain ⟨p, ⟨t, hR⟩, f', v', w', hT, g1, g2, g3⟩ := p1
  obtain ⟨b0, b1, b2, b3, b4, b5, _, _⟩ := Tok_p hT
  refine ⟨t + 1, _, kd, pl, f', kw, v', w', hR, hT, ?_⟩
  show sBn k kd pl f' v' 1 30 = _
  unfold sBn
  rw [cI_t (by omega), cI_t (by omega)]
  exact inl3 (by omega) (by omega) (by omega)
theorem k_b_n5_1 {z n k zn h r g kd pl fi kw va wo : Int} (p1 : pPBT z n 5 k zn h r g kd pl fi kw va wo) (p2 : kd ≠ 3) : pBAC z n zn h r g (-1 * pl + -1) 1 := by
  obtain ⟨p, ⟨t, hR⟩, f', v', w', hT, g1, g2, g3⟩ := p1
  obtain ⟨b0, b1, b2, b3, b4, b5, _, _⟩ := Tok_p hT
  refine ⟨t, _, kd, pl, f', kw, v', w', hR, hT, ?_⟩
  show sBn k kd pl f' v' 1 30 = _
  unfold sBn
  rw [cI_f (by omega)]
  exact inr3 (by omega) (by omega)
theorem k_b_n5_2 {z n k zn h r g kd pl fi kw va wo : Int} (p1 : pPBT z n 5 k zn h r g kd pl fi kw va wo) (p2 : 3 ≤ kd ∧ kd ≤ 3) (p3 : pWin va 1 30 0) : pBAC z n zn h r g (-1 * pl + -1) 2 := by
  obtain ⟨p, ⟨t, hR⟩, f', v', w', hT, g1, g2, g3⟩ := p1
  obtain ⟨b0, b1, b2, b3, b4, b5, _, _⟩ := Tok_p hT
  have m3 := iff1_f p3 rfl
  refine ⟨t, _, kd, pl, f', kw, v', w', hR, hT, ?_⟩
  show sBn k kd pl f' v' 1 30 = _
  unfold sBn
  rw [cI_t (by omega), cI_f (by omega)]
  exact inr3 (by omega) (by omega)
theorem k_b_lv {z n k zn h r g kd pl fi kw va wo : Int} (p1 : pPBT z n 3 k zn h r g kd pl fi kw va wo) (p2 : 10 ≤ kw ∧ kw ≤ 10) : pPBC z n 6 fi k zn h r g := by
  obtain ⟨p, ⟨t, hR⟩, f', v', w', hT, g1, g2, g3⟩ := p1
  obtain ⟨b0, b1, b2, b3, b4, b5, _, _⟩ := Tok_p hT
  refine ⟨t + 1, _, kd, pl, f', kw, v', w', hR, hT, ?_⟩
  show sB3 k pl f' kw = _
  unfold sB3
  rw [cI_t (by omega)]
  exact inl3 (by omega) (by omega) (by omega)
theorem k_b_tk {z n k zn h r g kd pl fi kw va wo : Int} (p1 : pPBT z n 3 k zn h r g kd pl fi kw va wo) (p2 : 9 ≤ kw ∧ kw ≤ 9) : pPBC z n 4 fi k zn h r g := by
  obtain ⟨p, ⟨t, hR⟩, f', v', w', hT, g1, g2, g3⟩ := p1
  obtain ⟨b0, b1, b2, b3, b4, b5, _, _⟩ := Tok_p hT
  refine ⟨t + 1, _, kd, pl, f', kw, v', w', hR, hT, ?_⟩
  show sB3 k pl f' kw = _
  unfold sB3
  rw [cI_f (by omega), cI_t (by omega)]
  exact inl3 (by omega) (by omega) (by omega)
theorem k_b_vb {z n k zn h r g kd pl fi kw va wo : Int} (p1 : pPBT z n 3 k zn h r g kd pl fi kw va wo) (p2 : pNe kw 9) (p3 : pNe kw 10) : pBAC z n zn h r g (-1 * pl + -1) 1 := by
  obtain ⟨p, ⟨t, hR⟩, f', v', w', hT, g1, g2, g3⟩ := p1
  obtain ⟨b0, b1, b2, b3, b4, b5, _, _⟩ := Tok_p hT
  unfold pNe at p2 p3
  refine ⟨t, _, kd, pl, f', kw, v', w', hR, hT, ?_⟩
  show sB3 k pl f' kw = _
  unfold sB3
  rw [cI_f (by omega), cI_f (by omega)]
  exact inr3 (by omega) (by omega)
theorem k_b_r {z n k zn h r g kd pl fi kw va wo i : Int} (p1 : pPBT z n 4 k zn h r g kd pl fi kw va wo) (p2 : pNam kd kw 1) (p3 : pFnd zn 5 r wo i) (p4 : -1 * i ≤ 0) : pPBC z n 5 fi k zn h r g := by
  obtain ⟨p, ⟨t, hR⟩, f', v', w', hT, g1, g2, g3⟩ := p1
  obtain ⟨b0, b1, b2, b3, b4, b5, _, _⟩ := Tok_p hT
  have m2 := iff1_t p2 rfl
  have ei : eC zn h r g 5 w' = i := by
    unfold eC
    rw [cn3_5, ← g3 (by omega)]
    exact p3.2.2.symm
  refine ⟨t + 1, _, kd, pl, f', kw, v', w', hR, hT, ?_⟩
  show sB4 ((eC zn h r g) 5 w') k kd pl f' kw = _
  unfold sB4
  rw [ei]
  rw [cI_t (by omega), cI_f (by omega)]
  exact inl3 (by omega) (by omega) (by omega)
theorem k_b_r1 {z n k zn h r g kd pl fi kw va wo : Int} (p1 : pPBT z n 4 k zn h r g kd pl fi kw va wo) (p2 : pNam kd kw 0) : pBAC z n zn h r g (-1 * pl + -1) 1 := by
  obtain ⟨p, ⟨t, hR⟩, f', v', w', hT, g1, g2, g3⟩ := p1
  obtain ⟨b0, b1, b2, b3, b4, b5, _, _⟩ := Tok_p hT
  have m2 := iff1_f p2 rfl
  refine ⟨t, _, kd, pl, f', kw, v', w', hR, hT, ?_⟩
  show sB4 ((eC zn h r g) 5 w') k kd pl f' kw = _
  unfold sB4
  rw [cI_f (by omega)]
  exact inr3 (by omega) (by omega)
theorem k_b_r3 {z n k zn h r g kd pl fi kw va wo : Int} (p1 : pPBT z n 4 k zn h r g kd pl fi kw va wo) (p2 : pNam kd kw 1) (p3 : pFnd zn 5 r wo (-1)) : pBAC z n zn h r g (-1 * pl + -1) 3 := by
  obtain ⟨p, ⟨t, hR⟩, f', v', w', hT, g1, g2, g3⟩ := p1
  obtain ⟨b0, b1, b2, b3, b4, b5, _, _⟩ := Tok_p hT
  have m2 := iff1_t p2 rfl
  have ei : eC zn h r g 5 w' = -1 := by
    unfold eC
    rw [cn3_5, ← g3 (by omega)]
    exact p3.2.2.symm
  refine ⟨t, _, kd, pl, f', kw, v', w', hR, hT, ?_⟩
  show sB4 ((eC zn h r g) 5 w') k kd pl f' kw = _
  unfold sB4
  rw [ei]
  rw [cI_t (by omega), cI_t (by omega)]
  exact inr3 (by omega) (by omega)
theorem k_b_s {z n k zn h r g kd pl fi kw va wo : Int} (p1 : pPBT z n 6 k zn h r g kd pl fi kw va wo) (p2 : pSgn kd va 59 1) : pPBC z n 0 fi (k + 1) zn h r g := by
  obtain ⟨p, ⟨t, hR⟩, f', v', w', hT, g1, g2, g3⟩ := p1
  obtain ⟨b0, b1, b2, b3, b4, b5, _, _⟩ := Tok_p hT
  have s2 := iff1_t p2 rfl
  refine ⟨t + 1, _, kd, pl, f', kw, v', w', hR, hT, ?_⟩
  show sB6 k kd pl f' v' = _
  unfold sB6
  rw [cI_t (by omega)]
  exact inl3 (by omega) (by omega) (by omega)
theorem k_b_s1 {z n k zn h r g kd pl fi kw va wo : Int} (p1 : pPBT z n 6 k zn h r g kd pl fi kw va wo) (p2 : pSgn kd va 59 0) : pBAC z n zn h r g (-1 * pl + -1) 1 := by
  obtain ⟨p, ⟨t, hR⟩, f', v', w', hT, g1, g2, g3⟩ := p1
  obtain ⟨b0, b1, b2, b3, b4, b5, _, _⟩ := Tok_p hT
  have s2 := iff1_f p2 rfl
  refine ⟨t, _, kd, pl, f', kw, v', w', hR, hT, ?_⟩
  show sB6 k kd pl f' v' = _
  unfold sB6
  rw [cI_f (by omega)]
  exact inr3 (by omega) (by omega)
theorem k_d_init {n z zm zr : Int} (p1 : -1 * n ≤ 0) : pPBP z n 0 0 0 zm zr := ⟨0, rfl⟩
theorem k_d_tok {z n q p k zm zr kd fr to nu sg wo : Int} (p1 : pPBP z n q p k zm zr) (p2 : pTokR z n 400 p kd fr to nu sg wo) : pPBR z n q k zm zr kd fr to nu sg wo := ⟨p, p1, p2⟩
theorem k_d_end {z n k zm zr kd fr to nu sg wo : Int} (p1 : pPBR z n 0 k zm zr kd fr to nu sg wo) (p2 : 0 ≤ kd ∧ kd ≤ 0) : pBAR z n zm zr k 0 := by
  obtain ⟨p, ⟨t, hR⟩, hT0⟩ := p1
  obtain ⟨kd', f', kw, v', w', hT, g0, g1, g2, g3, g5, g6, g7, g8⟩ := TokR_p hT0
  have tb0 := (Tok_p hT).2.1
  have tb1 := (Tok_p hT).2.2.1
  refine ⟨t, _, kd', fr, f', kw, v', w', hR, hT, ?_⟩
  show sB0 ((eR zm zr) 13 w') k kd' fr f' kw = _
  unfold sB0
  rw [cI_t (by omega)]
theorem k_d_k11 {z n k zm zr kd fr to nu sg wo : Int} (p1 : pPBR z n 0 k zm zr kd fr to nu sg wo) (p2 : pIsw kd wo 11 1) (p3 : k + -39 ≤ 0) : pPBP z n 1 to k zm zr := by
  obtain ⟨p, ⟨t, hR⟩, hT0⟩ := p1
  obtain ⟨kd', f', kw, v', w', hT, g0, g1, g2, g3, g5, g6, g7, g8⟩ := TokR_p hT0
  have tb0 := (Tok_p hT).2.1
  have tb1 := (Tok_p hT).2.2.1
  have w2 := iff1_t p2 rfl
  have k2 : kd' = 2 := by omega
  have kk : kw = 11 := ((g5 k2).2.2 11 (by decide)).mpr w2.2
  refine ⟨t + 1, _, kd', fr, f', kw, v', w', hR, hT, ?_⟩
  show sB0 ((eR zm zr) 13 w') k kd' fr f' kw = _
  unfold sB0
  rw [cI_f (by omega), cI_t (by omega), cI_f (by omega)]
  exact inl3 (by omega) (by omega) (by omega)
theorem k_d_m11 {z n k zm zr kd fr to nu sg wo : Int} (p1 : pPBR z n 0 k zm zr kd fr to nu sg wo) (p2 : pIsw kd wo 11 1) (p3 : -1 * k + 40 ≤ 0) : pBAR z n zm zr (-1 * fr + -1) 4 := by
  obtain ⟨p, ⟨t, hR⟩, hT0⟩ := p1
  obtain ⟨kd', f', kw, v', w', hT, g0, g1, g2, g3, g5, g6, g7, g8⟩ := TokR_p hT0
  have tb0 := (Tok_p hT).2.1
  have tb1 := (Tok_p hT).2.2.1
  have w2 := iff1_t p2 rfl
  have k2 : kd' = 2 := by omega
  have kk : kw = 11 := ((g5 k2).2.2 11 (by decide)).mpr w2.2
  refine ⟨t, _, kd', fr, f', kw, v', w', hR, hT, ?_⟩
  show sB0 ((eR zm zr) 13 w') k kd' fr f' kw = _
  unfold sB0
  rw [cI_f (by omega), cI_t (by omega), cI_t (by omega)]
  exact inr3 (by omega) (by omega)
theorem k_d_k12 {z n k zm zr kd fr to nu sg wo : Int} (p1 : pPBR z n 0 k zm zr kd fr to nu sg wo) (p2 : pIsw kd wo 12 1) (p3 : k + -39 ≤ 0) : pPBP z n 2 to k zm zr := by
  obtain ⟨p, ⟨t, hR⟩, hT0⟩ := p1
  obtain ⟨kd', f', kw, v', w', hT, g0, g1, g2, g3, g5, g6, g7, g8⟩ := TokR_p hT0
  have tb0 := (Tok_p hT).2.1
  have tb1 := (Tok_p hT).2.2.1
  have w2 := iff1_t p2 rfl
  have k2 : kd' = 2 := by omega
  have kk : kw = 12 := ((g5 k2).2.2 12 (by decide)).mpr w2.2
  refine ⟨t + 1, _, kd', fr, f', kw, v', w', hR, hT, ?_⟩
  show sB0 ((eR zm zr) 13 w') k kd' fr f' kw = _
  unfold sB0
  rw [cI_f (by omega), cI_t (by omega), cI_f (by omega)]
  exact inl3 (by omega) (by omega) (by omega)
theorem k_d_m12 {z n k zm zr kd fr to nu sg wo : Int} (p1 : pPBR z n 0 k zm zr kd fr to nu sg wo) (p2 : pIsw kd wo 12 1) (p3 : -1 * k + 40 ≤ 0) : pBAR z n zm zr (-1 * fr + -1) 4 := by
  obtain ⟨p, ⟨t, hR⟩, hT0⟩ := p1
  obtain ⟨kd', f', kw, v', w', hT, g0, g1, g2, g3, g5, g6, g7, g8⟩ := TokR_p hT0
  have tb0 := (Tok_p hT).2.1
  have tb1 := (Tok_p hT).2.2.1
  have w2 := iff1_t p2 rfl
  have k2 : kd' = 2 := by omega
  have kk : kw = 12 := ((g5 k2).2.2 12 (by decide)).mpr w2.2
  refine ⟨t, _, kd', fr, f', kw, v', w', hR, hT, ?_⟩
  show sB0 ((eR zm zr) 13 w') k kd' fr f' kw = _
  unfold sB0
  rw [cI_f (by omega), cI_t (by omega), cI_t (by omega)]
  exact inr3 (by omega) (by omega)
theorem k_d_g {z n k zm zr kd fr to nu sg wo i : Int} (p1 : pPBR z n 0 k zm zr kd fr to nu sg wo) (p2 : pNamr kd wo 1) (p3 : pFndr zm zr 13 2 wo i) (p4 : -1 * i ≤ 0) (p5 : k + -39 ≤ 0) : pPBP z n 3 to k zm zr := by
  obtain ⟨p, ⟨t, hR⟩, hT0⟩ := p1
  obtain ⟨kd', f', kw, v', w', hT, g0, g1, g2, g3, g5, g6, g7, g8⟩ := TokR_p hT0
  have tb0 := (Tok_p hT).2.1
  have tb1 := (Tok_p hT).2.2.1
  have m2 := iff1_t p2 rfl
  have k2 : kd' = 2 := by omega
  have kn : kw = -1 := by
    by_cases q : 0 ≤ kw
    · exact absurd (((g5 k2).2.2 kw.toNat (by omega)).mp (by omega)) (m2.2 kw.toNat (by omega))
    · omega
  have ei : eR zm zr 13 w' = i := by
    unfold eR ci3
    rw [cn3_13, ← (g5 k2).1]
    exact p3.2.2.2.symm
  refine ⟨t + 1, _, kd', fr, f', kw, v', w', hR, hT, ?_⟩
  show sB0 ((eR zm zr) 13 w') k kd' fr f' kw = _
  unfold sB0
  rw [ei]
  rw [cI_f (by omega), cI_f (by omega), cI_t (by omega), cI_f (by omega), cI_f (by omega)]
  exact inl3 (by omega) (by omega) (by omega)
theorem k_d_g1 {z n k zm zr kd fr to nu sg wo : Int} (p1 : pPBR z n 0 k zm zr kd fr to nu sg wo) (p2 : 1 ≤ kd) (p3 : pIsw kd wo 11 0) (p4 : pIsw kd wo 12 0) (p5 : pNamr kd wo 0) : pBAR z n zm zr (-1 * fr + -1) 1 := by
  obtain ⟨p, ⟨t, hR⟩, hT0⟩ := p1
  obtain ⟨kd', f', kw, v', w', hT, g0, g1, g2, g3, g5, g6, g7, g8⟩ := TokR_p hT0
  have tb0 := (Tok_p hT).2.1
  have tb1 := (Tok_p hT).2.2.1
  have n11 : ¬ kw = 11 := by
    by_cases k2 : kd' = 2
    · exact fun q => iff1_f p3 rfl ⟨by omega, ((g5 k2).2.2 11 (by decide)).mp q⟩
    · have := g6 k2
      omega
  have n12 : ¬ kw = 12 := by
    by_cases k2 : kd' = 2
    · exact fun q => iff1_f p4 rfl ⟨by omega, ((g5 k2).2.2 12 (by decide)).mp q⟩
    · have := g6 k2
      omega
  have m2 := iff1_f p5 rfl
  have kn : ¬ (kd' = 2 ∧ kw = -1) := fun q => m2 ⟨by omega, fun j hj e => by
    have := ((g5 q.1).2.2 j hj).mpr e
    omega⟩
  refine ⟨t, _, kd', fr, f', kw, v', w', hR, hT, ?_⟩
  show sB0 ((eR zm zr) 13 w') k kd' fr f' kw = _
  unfold sB0
  rw [cI_f (by omega), cI_f (by omega), cI_f (by omega)]
  exact inr3 (by omega) (by omega)
theorem k_d_g3 {z n k zm zr kd fr to nu sg wo : Int} (p1 : pPBR z n 0 k zm zr kd fr to nu sg wo) (p2 : pNamr kd wo 1) (p3 : pFndr zm zr 13 2 wo (-1)) : pBAR z n zm zr (-1 * fr + -1) 3 := by
  obtain ⟨p, ⟨t, hR⟩, hT0⟩ := p1
  obtain ⟨kd', f', kw, v', w', hT, g0, g1, g2, g3, g5, g6, g7, g8⟩ := TokR_p hT0
  have tb0 := (Tok_p hT).2.1
  have tb1 := (Tok_p hT).2.2.1
  have m2 := iff1_t p2 rfl
  have k2 : kd' = 2 := by omega
  have kn : kw = -1 := by
    by_cases q : 0 ≤ kw
    · exact absurd (((g5 k2).2.2 kw.toNat (by omega)).mp (by omega)) (m2.2 kw.toNat (by omega))
    · omega
  have ei : eR zm zr 13 w' = -1 := by
    unfold eR ci3
    rw [cn3_13, ← (g5 k2).1]
    exact p3.2.2.2.symm
  refine ⟨t, _, kd', fr, f', kw, v', w', hR, hT, ?_⟩
  show sB0 ((eR zm zr) 13 w') k kd' fr f' kw = _
  unfold sB0
  rw [ei]
  rw [cI_f (by omega), cI_f (by omega), cI_t (by omega), cI_t (by omega)]
  exact inr3 (by omega) (by omega)
theorem k_d_g4 {z n k zm zr kd fr to nu sg wo i : Int} (p1 : pPBR z n 0 k zm zr kd fr to nu sg wo) (p2 : pNamr kd wo 1) (p3 : pFndr zm zr 13 2 wo i) (p4 : -1 * i ≤ 0) (p5 : -1 * k + 40 ≤ 0) : pBAR z n zm zr (-1 * fr + -1) 4 := by
  obtain ⟨p, ⟨t, hR⟩, hT0⟩ := p1
  obtain ⟨kd', f', kw, v', w', hT, g0, g1, g2, g3, g5, g6, g7, g8⟩ := TokR_p hT0
  have tb0 := (Tok_p hT).2.1
  have tb1 := (Tok_p hT).2.2.1
  have m2 := iff1_t p2 rfl
  have k2 : kd' = 2 := by omega
  have kn : kw = -1 := by
    by_cases q : 0 ≤ kw
    · exact absurd (((g5 k2).2.2 kw.toNat (by omega)).mp (by omega)) (m2.2 kw.toNat (by omega))
    · omega
  have ei : eR zm zr 13 w' = i := by
    unfold eR ci3
    rw [cn3_13, ← (g5 k2).1]
    exact p3.2.2.2.symm
  refine ⟨t, _, kd', fr, f', kw, v', w', hR, hT, ?_⟩
  show sB0 ((eR zm zr) 13 w') k kd' fr f' kw = _
  unfold sB0
  rw [ei]
  rw [cI_f (by omega), cI_f (by omega), cI_t (by omega), cI_f (by omega), cI_t (by omega)]
  exact inr3 (by omega) (by omega)
theorem k_d_n1 {z n k zm zr kd fr to nu sg wo : Int} (p1 : pPBR z n 1 k zm zr kd fr to nu sg wo) (p2 : 3 ≤ kd ∧ kd ≤ 3) (p3 : 0 ≤ nu ∧ nu ≤ 5) : pPBP z n 6 to k zm zr := by
  obtain ⟨p, ⟨t, hR⟩, hT0⟩ := p1
  obtain ⟨kd', f', kw, v', w', hT, g0, g1, g2, g3, g5, g6, g7, g8⟩ := TokR_p hT0
  have tb0 := (Tok_p hT).2.1
  have tb1 := (Tok_p hT).2.2.1
  refine ⟨t + 1, _, kd', fr, f', kw, v', w', hR, hT, ?_⟩
  show sBn k kd' fr f' v' 0 5 = _
  unfold sBn
  rw [cI_t (by omega), cI_t (by omega)]
  exact inl3 (by omega) (by omega) (by omega)
theorem k_d_n1_1 {z n k zm zr kd fr to nu sg wo : Int} (p1 : pPBR z n 1 k zm zr kd fr to nu sg wo) (p2 : kd ≠ 3) : pBAR z n zm zr (-1 * fr + -1) 1 := by
  obtain ⟨p, ⟨t, hR⟩, hT0⟩ := p1
  obtain ⟨kd', f', kw, v', w', hT, g0, g1, g2, g3, g5, g6, g7, g8⟩ := TokR_p hT0
  have tb0 := (Tok_p hT).2.1
  have tb1 := (Tok_p hT).2.2.1
  refine ⟨t, _, kd', fr, f', kw, v', w', hR, hT, ?_⟩
  show sBn k kd' fr f' v' 0 5 = _
  unfold sBn
  rw [cI_f (by omega)]
  exact inr3 (by omega) (by omega)
theorem k_d_n1_2 {z n k zm zr kd fr to nu sg wo : Int} (p1 : pPBR z n 1 k zm zr kd fr to nu sg wo) (p2 : 3 ≤ kd ∧ kd ≤ 3) (p3 : pWin nu 0 5 0) : pBAR z n zm zr (-1 * fr + -1) 2 := by
  obtain ⟨p, ⟨t, hR⟩, hT0⟩ := p1
  obtain ⟨kd', f', kw, v', w', hT, g0, g1, g2, g3, g5, g6, g7, g8⟩ := TokR_p hT0
  have tb0 := (Tok_p hT).2.1
  have tb1 := (Tok_p hT).2.2.1
  have m3 := iff1_f p3 rfl
  refine ⟨t, _, kd', fr, f', kw, v', w', hR, hT, ?_⟩
  show sBn k kd' fr f' v' 0 5 = _
  unfold sBn
  rw [cI_t (by omega), cI_f (by omega)]
  exact inr3 (by omega) (by omega)
theorem k_d_n2 {z n k zm zr kd fr to nu sg wo : Int} (p1 : pPBR z n 2 k zm zr kd fr to nu sg wo) (p2 : 3 ≤ kd ∧ kd ≤ 3) (p3 : 1 ≤ nu ∧ nu ≤ 60) : pPBP z n 6 to k zm zr := by
  obtain ⟨p, ⟨t, hR⟩, hT0⟩ := p1
  obtain ⟨kd', f', kw, v', w', hT, g0, g1, g2, g3, g5, g6, g7, g8⟩ := TokR_p hT0
  have tb0 := (Tok_p hT).2.1
  have tb1 := (Tok_p hT).2.2.1
  refine ⟨t + 1, _, kd', fr, f', kw, v', w', hR, hT, ?_⟩
  show sBn k kd' fr f' v' 1 60 = _
  unfold sBn
  rw [cI_t (by omega), cI_t (by omega)]
  exact inl3 (by omega) (by omega) (by omega)
theorem k_d_n2_1 {z n k zm zr kd fr to nu sg wo : Int} (p1 : pPBR z n 2 k zm zr kd fr to nu sg wo) (p2 : kd ≠ 3) : pBAR z n zm zr (-1 * fr + -1) 1 := by
  obtain ⟨p, ⟨t, hR⟩, hT0⟩ := p1
  obtain ⟨kd', f', kw, v', w', hT, g0, g1, g2, g3, g5, g6, g7, g8⟩ := TokR_p hT0
  have tb0 := (Tok_p hT).2.1
  have tb1 := (Tok_p hT).2.2.1
  refine ⟨t, _, kd', fr, f', kw, v', w', hR, hT, ?_⟩
  show sBn k kd' fr f' v' 1 60 = _
  unfold sBn
  rw [cI_f (by omega)]
  exact inr3 (by omega) (by omega)
theorem k_d_n2_2 {z n k zm zr kd fr to nu sg wo : Int} (p1 : pPBR z n 2 k zm zr kd fr to nu sg wo) (p2 : 3 ≤ kd ∧ kd ≤ 3) (p3 : pWin nu 1 60 0) : pBAR z n zm zr (-1 * fr + -1) 2 := by
  obtain ⟨p, ⟨t, hR⟩, hT0⟩ := p1
  obtain ⟨kd', f', kw, v', w', hT, g0, g1, g2, g3, g5, g6, g7, g8⟩ := TokR_p hT0
  have tb0 := (Tok_p hT).2.1
  have tb1 := (Tok_p hT).2.2.1
  have m3 := iff1_f p3 rfl
  refine ⟨t, _, kd', fr, f', kw, v', w', hR, hT, ?_⟩
  show sBn k kd' fr f' v' 1 60 = _
  unfold sBn
  rw [cI_t (by omega), cI_f (by omega)]
  exact inr3 (by omega) (by omega)
theorem k_d_n5 {z n k zm zr kd fr to nu sg wo : Int} (p1 : pPBR z n 5 k zm zr kd fr to nu sg wo) (p2 : 3 ≤ kd ∧ kd ≤ 3) (p3 : 1 ≤ nu ∧ nu ≤ 30) : pPBP z n 6 to k zm zr := by
  obtain ⟨p, ⟨t, hR⟩, hT0⟩ := p1
  obtain ⟨kd', f', kw, v', w', hT, g0, g1, g2, g3, g5, g6, g7, g8⟩ := TokR_p hT0
  have tb0 := (Tok_p hT).2.1
  have tb1 := (Tok_p hT).2.2.1
  refine ⟨t + 1, _, kd', fr, f', kw, v', w', hR, hT, ?_⟩
  show sBn k kd' fr f' v' 1 30 = _
  unfold sBn
  rw [cI_t (by omega), cI_t (by omega)]
  exact inl3 (by omega) (by omega) (by omega)
theorem k_d_n5_1 {z n k zm zr kd fr to nu sg wo : Int} (p1 : pPBR z n 5 k zm zr kd fr to nu sg wo) (p2 : kd ≠ 3) : pBAR z n zm zr (-1 * fr + -1) 1 := by
  obtain ⟨p, ⟨t, hR⟩, hT0⟩ := p1
  obtain ⟨kd', f', kw, v', w', hT, g0, g1, g2, g3, g5, g6, g7, g8⟩ := TokR_p hT0
  have tb0 := (Tok_p hT).2.1
  have tb1 := (Tok_p hT).2.2.1
  refine ⟨t, _, kd', fr, f', kw, v', w', hR, hT, ?_⟩
  show sBn k kd' fr f' v' 1 30 = _
  unfold sBn
  rw [cI_f (by omega)]
  exact inr3 (by omega) (by omega)
theorem k_d_n5_2 {z n k zm zr kd fr to nu sg wo : Int} (p1 : pPBR z n 5 k zm zr kd fr to nu sg wo) (p2 : 3 ≤ kd ∧ kd ≤ 3) (p3 : pWin nu 1 30 0) : pBAR z n zm zr (-1 * fr + -1) 2 := by
  obtain ⟨p, ⟨t, hR⟩, hT0⟩ := p1
  obtain ⟨kd', f', kw, v', w', hT, g0, g1, g2, g3, g5, g6, g7, g8⟩ := TokR_p hT0
  have tb0 := (Tok_p hT).2.1
  have tb1 := (Tok_p hT).2.2.1
  have m3 := iff1_f p3 rfl
  refine ⟨t, _, kd', fr, f', kw, v', w', hR, hT, ?_⟩
  show sBn k kd' fr f' v' 1 30 = _
  unfold sBn
  rw [cI_t (by omega), cI_f (by omega)]
  exact inr3 (by omega) (by omega)
theorem k_d_lv {z n k zm zr kd fr to nu sg wo : Int} (p1 : pPBR z n 3 k zm zr kd fr to nu sg wo) (p2 : pIsw kd wo 10 1) : pPBP z n 6 to k zm zr := by
  obtain ⟨p, ⟨t, hR⟩, hT0⟩ := p1
  obtain ⟨kd', f', kw, v', w', hT, g0, g1, g2, g3, g5, g6, g7, g8⟩ := TokR_p hT0
  have tb0 := (Tok_p hT).2.1
  have tb1 := (Tok_p hT).2.2.1
  have w2 := iff1_t p2 rfl
  have k2 : kd' = 2 := by omega
  have kk : kw = 10 := ((g5 k2).2.2 10 (by decide)).mpr w2.2
  refine ⟨t + 1, _, kd', fr, f', kw, v', w', hR, hT, ?_⟩
  show sB3 k fr f' kw = _
  unfold sB3
  rw [cI_t (by omega)]
  exact inl3 (by omega) (by omega) (by omega)
theorem k_d_tk {z n k zm zr kd fr to nu sg wo : Int} (p1 : pPBR z n 3 k zm zr kd fr to nu sg wo) (p2 : pIsw kd wo 9 1) : pPBP z n 4 to k zm zr := by
  obtain ⟨p, ⟨t, hR⟩, hT0⟩ := p1
  obtain ⟨kd', f', kw, v', w', hT, g0, g1, g2, g3, g5, g6, g7, g8⟩ := TokR_p hT0
  have tb0 := (Tok_p hT).2.1
  have tb1 := (Tok_p hT).2.2.1
  have w2 := iff1_t p2 rfl
  have k2 : kd' = 2 := by omega
  have kk : kw = 9 := ((g5 k2).2.2 9 (by decide)).mpr w2.2
  refine ⟨t + 1, _, kd', fr, f', kw, v', w', hR, hT, ?_⟩
  show sB3 k fr f' kw = _
  unfold sB3
  rw [cI_f (by omega), cI_t (by omega)]
  exact inl3 (by omega) (by omega) (by omega)
theorem k_d_vb {z n k zm zr kd fr to nu sg wo : Int} (p1 : pPBR z n 3 k zm zr kd fr to nu sg wo) (p2 : pIsw kd wo 9 0) (p3 : pIsw kd wo 10 0) : pBAR z n zm zr (-1 * fr + -1) 1 := by
  obtain ⟨p, ⟨t, hR⟩, hT0⟩ := p1
  obtain ⟨kd', f', kw, v', w', hT, g0, g1, g2, g3, g5, g6, g7, g8⟩ := TokR_p hT0
  have tb0 := (Tok_p hT).2.1
  have tb1 := (Tok_p hT).2.2.1
  have n9 : ¬ kw = 9 := by
    by_cases k2 : kd' = 2
    · exact fun q => iff1_f p2 rfl ⟨by omega, ((g5 k2).2.2 9 (by decide)).mp q⟩
    · have := g6 k2
      omega
  have n10 : ¬ kw = 10 := by
    by_cases k2 : kd' = 2
    · exact fun q => iff1_f p3 rfl ⟨by omega, ((g5 k2).2.2 10 (by decide)).mp q⟩
    · have := g6 k2
      omega
  refine ⟨t, _, kd', fr, f', kw, v', w', hR, hT, ?_⟩
  show sB3 k fr f' kw = _
  unfold sB3
  rw [cI_f (by omega), cI_f (by omega)]
  exact inr3 (by omega) (by omega)
theorem k_d_r {z n k zm zr kd fr to nu sg wo i : Int} (p1 : pPBR z n 4 k zm zr kd fr to nu sg wo) (p2 : pNamr kd wo 1) (p3 : pFndr zm zr 5 1 wo i) (p4 : -1 * i ≤ 0) : pPBP z n 5 to k zm zr := by
  obtain ⟨p, ⟨t, hR⟩, hT0⟩ := p1
  obtain ⟨kd', f', kw, v', w', hT, g0, g1, g2, g3, g5, g6, g7, g8⟩ := TokR_p hT0
  have tb0 := (Tok_p hT).2.1
  have tb1 := (Tok_p hT).2.2.1
  have m2 := iff1_t p2 rfl
  have k2 : kd' = 2 := by omega
  have kn : kw = -1 := by
    by_cases q : 0 ≤ kw
    · exact absurd (((g5 k2).2.2 kw.toNat (by omega)).mp (by omega)) (m2.2 kw.toNat (by omega))
    · omega
  have ei : eR zm zr 5 w' = i := by
    unfold eR ci3
    rw [cn3_5, ← (g5 k2).1]
    exact p3.2.2.2.symm
  refine ⟨t + 1, _, kd', fr, f', kw, v', w', hR, hT, ?_⟩
  show sB4 ((eR zm zr) 5 w') k kd' fr f' kw = _
  unfold sB4
  rw [ei]
  rw [cI_t (by omega), cI_f (by omega)]
  exact inl3 (by omega) (by omega) (by omega)
theorem k_d_r1 {z n k zm zr kd fr to nu sg wo : Int} (p1 : pPBR z n 4 k zm zr kd fr to nu sg wo) (p2 : pNamr kd wo 0) : pBAR z n zm zr (-1 * fr + -1) 1 := by
  obtain ⟨p, ⟨t, hR⟩, hT0⟩ := p1
  obtain ⟨kd', f', kw, v', w', hT, g0, g1, g2, g3, g5, g6, g7, g8⟩ := TokR_p hT0
  have tb0 := (Tok_p hT).2.1
  have tb1 := (Tok_p hT).2.2.1
  have m2 := iff1_f p2 rfl
  have kn : ¬ (kd' = 2 ∧ kw = -1) := fun q => m2 ⟨by omega, fun j hj e => by
    have := ((g5 q.1).2.2 j hj).mpr e
    omega⟩
  refine ⟨t, _, kd', fr, f', kw, v', w', hR, hT, ?_⟩
  show sB4 ((eR zm zr) 5 w') k kd' fr f' kw = _
  unfold sB4
  rw [cI_f (by omega)]
  exact inr3 (by omega) (by omega)
theorem k_d_r3 {z n k zm zr kd fr to nu sg wo : Int} (p1 : pPBR z n 4 k zm zr kd fr to nu sg wo) (p2 : pNamr kd wo 1) (p3 : pFndr zm zr 5 1 wo (-1)) : pBAR z n zm zr (-1 * fr + -1) 3 := by
  obtain ⟨p, ⟨t, hR⟩, hT0⟩ := p1
  obtain ⟨kd', f', kw, v', w', hT, g0, g1, g2, g3, g5, g6, g7, g8⟩ := TokR_p hT0
  have tb0 := (Tok_p hT).2.1
  have tb1 := (Tok_p hT).2.2.1
  have m2 := iff1_t p2 rfl
  have k2 : kd' = 2 := by omega
  have kn : kw = -1 := by
    by_cases q : 0 ≤ kw
    · exact absurd (((g5 k2).2.2 kw.toNat (by omega)).mp (by omega)) (m2.2 kw.toNat (by omega))
    · omega
  have ei : eR zm zr 5 w' = -1 := by
    unfold eR ci3
    rw [cn3_5, ← (g5 k2).1]
    exact p3.2.2.2.symm
  refine ⟨t, _, kd', fr, f', kw, v', w', hR, hT, ?_⟩
  show sB4 ((eR zm zr) 5 w') k kd' fr f' kw = _
  unfold sB4
  rw [ei]
  rw [cI_t (by omega), cI_t (by omega)]
  exact inr3 (by omega) (by omega)
theorem k_d_s {z n k zm zr kd fr to nu sg wo : Int} (p1 : pPBR z n 6 k zm zr kd fr to nu sg wo) (p2 : pSgn kd sg 59 1) : pPBP z n 0 to (k + 1) zm zr := by
  obtain ⟨p, ⟨t, hR⟩, hT0⟩ := p1
  obtain ⟨kd', f', kw, v', w', hT, g0, g1, g2, g3, g5, g6, g7, g8⟩ := TokR_p hT0
  have tb0 := (Tok_p hT).2.1
  have tb1 := (Tok_p hT).2.2.1
  have s2 := iff1_t p2 rfl
  refine ⟨t + 1, _, kd', fr, f', kw, v', w', hR, hT, ?_⟩
  show sB6 k kd' fr f' v' = _
  unfold sB6
  rw [cI_t (by omega)]
  exact inl3 (by omega) (by omega) (by omega)
theorem k_d_s1 {z n k zm zr kd fr to nu sg wo : Int} (p1 : pPBR z n 6 k zm zr kd fr to nu sg wo) (p2 : pSgn kd sg 59 0) : pBAR z n zm zr (-1 * fr + -1) 1 := by
  obtain ⟨p, ⟨t, hR⟩, hT0⟩ := p1
  obtain ⟨kd', f', kw, v', w', hT, g0, g1, g2, g3, g5, g6, g7, g8⟩ := TokR_p hT0
  have tb0 := (Tok_p hT).2.1
  have tb1 := (Tok_p hT).2.2.1
  have s2 := iff1_f p2 rfl
  refine ⟨t, _, kd', fr, f', kw, v', w', hR, hT, ?_⟩
  show sB6 k kd' fr f' v' = _
  unfold sB6
  rw [cI_f (by omega)]
  exact inr3 (by omega) (by omega)
theorem k_fnd_x {z b m w i j : Int} (p1 : pFnd z b m w i) (p2 : pFnd z b m w j) (p3 : j + 1 ≤ 0) (p4 : -1 * i ≤ 0) : False := by
  have e1 := p1.2.2
  have e2 := p2.2.2
  omega
theorem k_isw_x {kd w k : Int} (p1 : pIsw kd w k 1) (p2 : pIsw kd w k 0) : False := iff1_f p2 rfl (iff1_t p1 rfl)
theorem k_baf {z n zn h r g a f : Int} (p1 : pBAC z n zn h r g a f) : pBAF z n zn h r g f := ⟨a, p1⟩
theorem k_brf {z n zm zr a f : Int} (p1 : pBAR z n zm zr a f) : pBRF z n zm zr f := ⟨a, p1⟩
theorem k_fnd_2 {z b m w i k j x c : Int} (p1 : pFnd z b m w i) (p2 : pFnd z b k w j) (p3 : pDec m x c) (p4 : pDec k x c) (p5 : -1 * i ≤ 0) (p6 : k + -6 ≤ 0) (p7 : -2147483648 ≤ j ∧ j ≤ 2147483647) : (0 ≤ j) ∧ (j ≤ 5) := by
  have e : m = k := by rw [← p3.2, ← p4.2]
  obtain ⟨a1, a2, a3⟩ := p1
  obtain ⟨c1, c2, c3⟩ := p2
  rw [← e, ← a3] at c3
  have q := (fndF_pos (by omega) a3).1
  omega
theorem k_sa_eq {x n zn h r g a f z zm zr b e zt ev ri ml so : Int} (p1 : pSAC x n zn h r g a f) (p2 : pSAR z n zm zr b e) (p3 : pTape x z n) (p4 : pVV zr zm zn zt h r g ev ri ml so) (p5 : n + -940 ≤ 0) : (0 ≤ a + -1 * b) ∧ (a + -1 * b ≤ 0) ∧ (0 ≤ -1 * a + b) ∧ (-1 * a + b ≤ 0) ∧ (pEq f e) := by
  have q := ansG_u (ansG_t (tape_eq p3 (by omega)) (ansG_e (stS_e (env_al p4)) p1)) p2
  unfold pEq
  omega
theorem k_ba_eq {x n zn h r g f z zm zr e zt ev ri ml so : Int} (p1 : pBAF x n zn h r g f) (p2 : pBRF z n zm zr e) (p3 : pTape x z n) (p4 : pVV zr zm zn zt h r g ev ri ml so) (p5 : n + -940 ≤ 0) : pEq f e := by
  obtain ⟨a1, p1⟩ := p1
  obtain ⟨a2, p2⟩ := p2
  have q := ansG_u (ansG_t (tape_eq p3 (by omega)) (ansG_e (stB_e (env_al p4)) p1)) p2
  exact q.2
theorem k_an_eq {x n a f z b e : Int} (p1 : pAns x n a f) (p2 : pAns z n b e) (p3 : pTape x z n) (p4 : n + -940 ≤ 0) : pEq f e := (ans_u (ans_t (tape_eq p3 (by omega)) p1) p2).2
end
