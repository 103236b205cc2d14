noncomputable section
/-! T3: rules (printed by wip/v5/gen/rules4.py) -/
theorem k_r_init {zr o0 o1 o2 o3 n z zm : Int} (p1 : pRg zr 0 3 0 0) (p2 : pRg zr 3 4 7 7) (p3 : pRg zr 4 5 3 3) (p4 : pRg zr 5 6 15 15) (p5 : pRg zr 6 7 0 0) (p6 : pRg zr 7 8 20 20) (p7 : pRg zr 8 60 0 0) (p8 : pRg zr 60 66 (-1) (-1)) (p9 : pRg zr 66 72 0 0) (p10 : 0 ≤ o0 ∧ o0 ≤ 0) (p11 : 0 ≤ o1 ∧ o1 ≤ 0) (p12 : 0 ≤ o2 ∧ o2 ≤ 0) (p13 : 0 ≤ o3 ∧ o3 ≤ 0) (p14 : 0 ≤ n ∧ n ≤ 940) : pPR z n 0 0 0 zr zm o0 o1 o2 o3 0 := ⟨0, sI, rfl, rfl, rfl, rfl, rfl, (fun j j0 j1 _ => by
  have q1 := p1 j j0
  have q2 := p2 j j0
  have q3 := p3 j j0
  have q4 := p4 j j0
  have q5 := p5 j j0
  have q6 := p6 j j0
  have q7 := p7 j j0
  have q8 := p8 j j0
  have q9 := p9 j j0
  have hj : j = 0 ∨ j = 1 ∨ j = 2 ∨ j = 3 ∨ j = 4 ∨ j = 5 ∨ j = 6 ∨ j = 7 ∨ j = 8 ∨ j = 9 ∨ j = 10 ∨ j = 11 ∨ j = 12 ∨ j = 13 ∨ j = 14 ∨ j = 15 ∨ j = 16 ∨ j = 17 ∨ j = 18 ∨ j = 19 ∨ j = 20 ∨ j = 21 ∨ j = 22 ∨ j = 23 ∨ j = 24 ∨ j = 25 ∨ j = 26 ∨ j = 27 ∨ j = 28 ∨ j = 29 ∨ j = 30 ∨ j = 31 ∨ j = 32 ∨ j = 33 ∨ j = 34 ∨ j = 35 ∨ j = 36 ∨ j = 37 ∨ j = 38 ∨ j = 39 ∨ j = 40 ∨ j = 41 ∨ j = 42 ∨ j = 43 ∨ j = 44 ∨ j = 45 ∨ j = 46 ∨ j = 47 ∨ j = 48 ∨ j = 49 ∨ j = 50 ∨ j = 51 ∨ j = 52 ∨ j = 53 ∨ j = 54 ∨ j = 55 ∨ j = 56 ∨ j = 57 ∨ j = 58 ∨ j = 59 ∨ j = 60 ∨ j = 61 ∨ j = 62 ∨ j = 63 ∨ j = 64 ∨ j = 65 ∨ j = 66 ∨ j = 67 ∨ j = 68 ∨ j = 69 ∨ j = 70 ∨ j = 71 := by omega
  rcases hj with rfl | rfl | rfl | rfl | rfl | rfl | rfl | rfl | rfl | rfl | rfl | rfl | rfl | rfl | rfl | rfl | rfl | rfl | rfl | rfl | rfl | rfl | rfl | rfl | rfl | rfl | rfl | rfl | rfl | rfl | rfl | rfl | rfl | rfl | rfl | rfl | rfl | rfl | rfl | rfl | rfl | rfl | rfl | rfl | rfl | rfl | rfl | rfl | rfl | rfl | rfl | rfl | rfl | rfl | rfl | rfl | rfl | rfl | rfl | rfl | rfl | rfl | rfl | rfl | rfl | rfl | rfl | rfl | rfl | rfl | rfl | rfl <;> first
    | exact absurd (rfl : (0 : Int) = 0) (by omega)
    | (show _ = (0 : Int); omega)
    | (show _ = (7 : Int); omega)
    | (show _ = (3 : Int); omega)
    | (show _ = (15 : Int); omega)
    | (show _ = (20 : Int); omega)
    | (show _ = (-1 : Int); omega)), (fun h => absurd h (by decide)), (fun j q _ _ => by
  exfalso
  unfold kslot pend at q
  rw [show sI 0 = 0 from rfl, show sI 200 = 0 from rfl, show sI 201 = 0 from rfl, show sI 202 = 0 from rfl] at q
  omega), (by show o0 = 0; omega), (by show o1 = 0; omega), (by show o2 = 0; omega), (by show o3 = 0; omega)⟩
theorem k_r0_end {z n k zr zm o0 o1 o2 o3 kd fr to nu sg w : Int} (p1 : pPRT z n 0 k zr zm o0 o1 o2 o3 0 kd fr to nu sg w) (p2 : 0 ≤ kd ∧ kd ≤ 0) : pAns z n k 0 := by
  obtain ⟨p, ⟨i0, S, hR, e0, rfl, rfl, e3, hz0, hz20, hm, rfl, rfl, rfl, rfl⟩, hT0⟩ := p1
  obtain ⟨kd', f', kw, v', w', hT, g0, g1, g2, g3, g4, g5, g6, g7⟩ := TokR_p hT0
  obtain ⟨t1, t2, t3, t4, t5, t6, t7, t8⟩ := Tok_p hT
  obtain ⟨h1, h2, h3, h4⟩ := Rch_I hR
  have h1' := h1
  unfold I1 at h1
  have hz : aAg zr S 200 72 := fun j j0 j1 => hz0 j j0 j1 (fun h => absurd h (by decide))
  exact ⟨i0, S, kd', fr, f', kw, v', w', hR, hT, by rw [sA_0 e0, st0_1 (by omega)]⟩
theorem k_r0_bad {z n k zr zm o0 o1 o2 o3 kd fr to nu sg w : Int} (p1 : pPRT z n 0 k zr zm o0 o1 o2 o3 0 kd fr to nu sg w) (p2 : 1 ≤ kd) (p3 : pIsw kd w 0 0) (p4 : pIsw kd w 1 0) (p5 : pIsw kd w 2 0) (p6 : pIsw kd w 3 0) (p7 : pIsw kd w 4 0) (p8 : pIsw kd w 5 0) (p9 : pIsw kd w 6 0) (p10 : pIsw kd w 7 0) (p11 : pIsw kd w 8 0) : pAns z n (-1 * fr + -1) 1 := by
  obtain ⟨p, ⟨i0, S, hR, e0, rfl, rfl, e3, hz0, hz20, hm, rfl, rfl, rfl, rfl⟩, hT0⟩ := p1
  obtain ⟨kd', f', kw, v', w', hT, g0, g1, g2, g3, g4, g5, g6, g7⟩ := TokR_p hT0
  obtain ⟨t1, t2, t3, t4, t5, t6, t7, t8⟩ := Tok_p hT
  obtain ⟨h1, h2, h3, h4⟩ := Rch_I hR
  have h1' := h1
  unfold I1 at h1
  have hz : aAg zr S 200 72 := fun j j0 j1 => hz0 j j0 j1 (fun h => absurd h (by decide))
  have kz : kw < 0 ∨ 9 ≤ kw := by
    by_cases k2 : kd' = 2
    · skip
      have n0 : ¬ kw = 0 := fun q => iff1_f p3 rfl ⟨by omega, ((g5 k2).2.2 0 (by decide)).mp q⟩
      have n1 : ¬ kw = 1 := fun q => iff1_f p4 rfl ⟨by omega, ((g5 k2).2.2 1 (by decide)).mp q⟩
      have n2 : ¬ kw = 2 := fun q => iff1_f p5 rfl ⟨by omega, ((g5 k2).2.2 2 (by decide)).mp q⟩
      have n3 : ¬ kw = 3 := fun q => iff1_f p6 rfl ⟨by omega, ((g5 k2).2.2 3 (by decide)).mp q⟩
      have n4 : ¬ kw = 4 := fun q => iff1_f p7 rfl ⟨by omega, ((g5 k2).2.2 4 (by decide)).mp q⟩
      have n5 : ¬ kw = 5 := fun q => iff1_f p8 rfl ⟨by omega, ((g5 k2).2.2 5 (by decide)).mp q⟩
      have n6 : ¬ kw = 6 := fun q => iff1_f p9 rfl ⟨by omega, ((g5 k2).2.2 6 (by decide)).mp q⟩
      have n7 : ¬ kw = 7 := fun q => iff1_f p10 rfl ⟨by omega, ((g5 k2).2.2 7 (by decide)).mp q⟩
      have n8 : ¬ kw = 8 := fun q => iff1_f p11 rfl ⟨by omega, ((g5 k2).2.2 8 (by decide)).mp q⟩
      omega
    · have := g6 k2
      omega
  exact ans_mk hR hT (F := _) (by
    rw [sA_0 e0]
    exact st0_z (by omega) kz) (by omega) rfl
theorem k_r0_first0 {z n k zr zm o0 o1 o2 o3 kd fr to nu sg w y : Int} (p1 : pPRT z n 0 k zr zm o0 o1 o2 o3 0 kd fr to nu sg w) (p2 : pIsw kd w 0 1) (p3 : 0 ≤ o0 ∧ o0 ≤ 0) (p4 : 1 ≤ y ∧ y ≤ 1) : pPR z n 1 to k zr zm y o1 o2 o3 0 := by
  obtain ⟨p, ⟨i0, S, hR, e0, rfl, rfl, e3, hz0, hz20, hm, rfl, rfl, rfl, rfl⟩, hT0⟩ := p1
  obtain ⟨kd', f', kw, v', w', hT, g0, g1, g2, g3, g4, g5, g6, g7⟩ := TokR_p hT0
  obtain ⟨t1, t2, t3, t4, t5, t6, t7, t8⟩ := Tok_p hT
  obtain ⟨h1, h2, h3, h4⟩ := Rch_I hR
  have h1' := h1
  unfold I1 at h1
  have hz : aAg zr S 200 72 := fun j j0 j1 => hz0 j j0 j1 (fun h => absurd h (by decide))
  have w0 := iff1_t p2 rfl
  have kd2 : kd' = 2 := by omega
  have kk : kw = 0 := ((g5 kd2).2.2 0 (by decide)).mpr w0.2
  have st : stepA S kd' fr f' kw v' w' = .inl (adv (up S 10 1) 1 f') := by
    rw [sA_0 e0]
    exact st0_t0 (by omega) kk (by omega)
  have e_0 : (adv (up S 10 1) 1 f') 0 = 1 := by rw [adv_0]
  have e_200 : (adv (up S 10 1) 1 f') 200 = S 200 := by rw [adv_n (by omega) (by omega), up_n (by omega)]
  have e_201 : (adv (up S 10 1) 1 f') 201 = S 201 := by rw [adv_n (by omega) (by omega), up_n (by omega)]
  have e_202 : (adv (up S 10 1) 1 f') 202 = S 202 := by rw [adv_n (by omega) (by omega), up_n (by omega)]
  have hm' : ∀ j : Int, kslot (adv (up S 10 1) 1 f') j ∨ pend (adv (up S 10 1) 1 f') j → 0 ≤ j → j < 19 → dcd j.toNat zm = c27 8 ((adv (up S 10 1) 1 f') (100 + j)) := fun j jq j0 j1 => by
    unfold kslot pend at jq
    rw [e_0, e_200, e_201, e_202] at jq
    rw [adv_n (by omega) (by omega), up_n (by omega)]
    refine hm j ?_ j0 j1
    unfold kslot pend
    rw [e0]
    omega
  exact ⟨i0 + 1, _, ⟨S, kd', fr, f', kw, v', w', hR, hT, st⟩, adv_0, (by rw [adv_1]; exact (g1 (by omega)).symm), (by rw [adv_n (by omega) (by omega), up_n (by omega)]), (by rw [adv_n (by omega) (by omega), up_n (by omega)]; exact e3), (fun j j0 j1 _ => (aAg_a (aAg_o hz (Or.inl (by omega))) (by decide)) j j0 j1), (fun h => absurd h (by decide)), hm', (by rw [adv_n (by omega) (by omega), up_s]; omega), (by rw [adv_n (by omega) (by omega), up_n (by omega)]), (by rw [adv_n (by omega) (by omega), up_n (by omega)]), (by rw [adv_n (by omega) (by omega), up_n (by omega)])⟩
theorem k_r0_again0 {z n k zr zm o0 o1 o2 o3 kd fr to nu sg w : Int} (p1 : pPRT z n 0 k zr zm o0 o1 o2 o3 0 kd fr to nu sg w) (p2 : pIsw kd w 0 1) (p3 : 1 ≤ o0 ∧ o0 ≤ 1) : pAns z n (-1 * fr + -1) 3 := by
  obtain ⟨p, ⟨i0, S, hR, e0, rfl, rfl, e3, hz0, hz20, hm, rfl, rfl, rfl, rfl⟩, hT0⟩ := p1
  obtain ⟨kd', f', kw, v', w', hT, g0, g1, g2, g3, g4, g5, g6, g7⟩ := TokR_p hT0
  obtain ⟨t1, t2, t3, t4, t5, t6, t7, t8⟩ := Tok_p hT
  obtain ⟨h1, h2, h3, h4⟩ := Rch_I hR
  have h1' := h1
  unfold I1 at h1
  have hz : aAg zr S 200 72 := fun j j0 j1 => hz0 j j0 j1 (fun h => absurd h (by decide))
  have w0 := iff1_t p2 rfl
  have kd2 : kd' = 2 := by omega
  have kk : kw = 0 := ((g5 kd2).2.2 0 (by decide)).mpr w0.2
  exact ans_mk hR hT (F := _) (by
    rw [sA_0 e0]
    exact st0_f0 (by omega) kk (by omega)) (by omega) rfl
theorem k_r0_first1 {z n k zr zm o0 o1 o2 o3 kd fr to nu sg w y : Int} (p1 : pPRT z n 0 k zr zm o0 o1 o2 o3 0 kd fr to nu sg w) (p2 : pIsw kd w 1 1) (p3 : 0 ≤ o1 ∧ o1 ≤ 0) (p4 : 1 ≤ y ∧ y ≤ 1) : pPR z n 2 to k zr zm o0 y o2 o3 0 := by
  obtain ⟨p, ⟨i0, S, hR, e0, rfl, rfl, e3, hz0, hz20, hm, rfl, rfl, rfl, rfl⟩, hT0⟩ := p1
  obtain ⟨kd', f', kw, v', w', hT, g0, g1, g2, g3, g4, g5, g6, g7⟩ := TokR_p hT0
  obtain ⟨t1, t2, t3, t4, t5, t6, t7, t8⟩ := Tok_p hT
  obtain ⟨h1, h2, h3, h4⟩ := Rch_I hR
  have h1' := h1
  unfold I1 at h1
  have hz : aAg zr S 200 72 := fun j j0 j1 => hz0 j j0 j1 (fun h => absurd h (by decide))
  have w1 := iff1_t p2 rfl
  have kd2 : kd' = 2 := by omega
  have kk : kw = 1 := ((g5 kd2).2.2 1 (by decide)).mpr w1.2
  have st : stepA S kd' fr f' kw v' w' = .inl (adv (up S 11 1) 2 f') := by
    rw [sA_0 e0]
    exact st0_t1 (by omega) kk (by omega)
  have e_0 : (adv (up S 11 1) 2 f') 0 = 2 := by rw [adv_0]
  have e_200 : (adv (up S 11 1) 2 f') 200 = S 200 := by rw [adv_n (by omega) (by omega), up_n (by omega)]
  have e_201 : (adv (up S 11 1) 2 f') 201 = S 201 := by rw [adv_n (by omega) (by omega), up_n (by omega)]
  have e_202 : (adv (up S 11 1) 2 f') 202 = S 202 := by rw [adv_n (by omega) (by omega), up_n (by omega)]
  have hm' : ∀ j : Int, kslot (adv (up S 11 1) 2 f') j ∨ pend (adv (up S 11 1) 2 f') j → 0 ≤ j → j < 19 → dcd j.toNat zm = c27 8 ((adv (up S 11 1) 2 f') (100 + j)) := fun j jq j0 j1 => by
    unfold kslot pend at jq
    rw [e_0, e_200, e_201, e_202] at jq
    rw [adv_n (by omega) (by omega), up_n (by omega)]
    refine hm j ?_ j0 j1
    unfold kslot pend
    rw [e0]
    omega
  exact ⟨i0 + 1, _, ⟨S, kd', fr, f', kw, v', w', hR, hT, st⟩, adv_0, (by rw [adv_1]; exact (g1 (by omega)).symm), (by rw [adv_n (by omega) (by omega), up_n (by omega)]), (by rw [adv_n (by omega) (by omega), up_n (by omega)]; exact e3), (fun j j0 j1 _ => (aAg_a (aAg_o hz (Or.inl (by omega))) (by decide)) j j0 j1), (fun h => absurd h (by decide)), hm', (by rw [adv_n (by omega) (by omega), up_n (by omega)]), (by rw [adv_n (by omega) (by omega), up_s]; omega), (by rw [adv_n (by omega) (by omega), up_n (by omega)]), (by rw [adv_n (by omega) (by omega), up_n (by omega)])⟩
theorem k_r0_again1 {z n k zr zm o0 o1 o2 o3 kd fr to nu sg w : Int} (p1 : pPRT z n 0 k zr zm o0 o1 o2 o3 0 kd fr to nu sg w) (p2 : pIsw kd w 1 1) (p3 : 1 ≤ o1 ∧ o1 ≤ 1) : pAns z n (-1 * fr + -1) 3 := by
  obtain ⟨p, ⟨i0, S, hR, e0, rfl, rfl, e3, hz0, hz20, hm, rfl, rfl, rfl, rfl⟩, hT0⟩ := p1
  obtain ⟨kd', f', kw, v', w', hT, g0, g1, g2, g3, g4, g5, g6, g7⟩ := TokR_p hT0
  obtain ⟨t1, t2, t3, t4, t5, t6, t7, t8⟩ := Tok_p hT
  obtain ⟨h1, h2, h3, h4⟩ := Rch_I hR
  have h1' := h1
  unfold I1 at h1
  have hz : aAg zr S 200 72 := fun j j0 j1 => hz0 j j0 j1 (fun h => absurd h (by decide))
  have w1 := iff1_t p2 rfl
  have kd2 : kd' = 2 := by omega
  have kk : kw = 1 := ((g5 kd2).2.2 1 (by decide)).mpr w1.2
  exact ans_mk hR hT (F := _) (by
    rw [sA_0 e0]
    exact st0_f1 (by omega) kk (by omega)) (by omega) rfl
theorem k_r0_first2 {z n k zr zm o0 o1 o2 o3 kd fr to nu sg w y : Int} (p1 : pPRT z n 0 k zr zm o0 o1 o2 o3 0 kd fr to nu sg w) (p2 : pIsw kd w 2 1) (p3 : 0 ≤ o2 ∧ o2 ≤ 0) (p4 : 1 ≤ y ∧ y ≤ 1) : pPR z n 4 to k zr zm o0 o1 y o3 0 := by
  obtain ⟨p, ⟨i0, S, hR, e0, rfl, rfl, e3, hz0, hz20, hm, rfl, rfl, rfl, rfl⟩, hT0⟩ := p1
  obtain ⟨kd', f', kw, v', w', hT, g0, g1, g2, g3, g4, g5, g6, g7⟩ := TokR_p hT0
  obtain ⟨t1, t2, t3, t4, t5, t6, t7, t8⟩ := Tok_p hT
  obtain ⟨h1, h2, h3, h4⟩ := Rch_I hR
  have h1' := h1
  unfold I1 at h1
  have hz : aAg zr S 200 72 := fun j j0 j1 => hz0 j j0 j1 (fun h => absurd h (by decide))
  have w2 := iff1_t p2 rfl
  have kd2 : kd' = 2 := by omega
  have kk : kw = 2 := ((g5 kd2).2.2 2 (by decide)).mpr w2.2
  have st : stepA S kd' fr f' kw v' w' = .inl (adv (up S 12 1) 4 f') := by
    rw [sA_0 e0]
    exact st0_t2 (by omega) kk (by omega)
  have e_0 : (adv (up S 12 1) 4 f') 0 = 4 := by rw [adv_0]
  have e_200 : (adv (up S 12 1) 4 f') 200 = S 200 := by rw [adv_n (by omega) (by omega), up_n (by omega)]
  have e_201 : (adv (up S 12 1) 4 f') 201 = S 201 := by rw [adv_n (by omega) (by omega), up_n (by omega)]
  have e_202 : (adv (up S 12 1) 4 f') 202 = S 202 := by rw [adv_n (by omega) (by omega), up_n (by omega)]
  have hm' : ∀ j : Int, kslot (adv (up S 12 1) 4 f') j ∨ pend (adv (up S 12 1) 4 f') j → 0 ≤ j → j < 19 → dcd j.toNat zm = c27 8 ((adv (up S 12 1) 4 f') (100 + j)) := fun j jq j0 j1 => by
    unfold kslot pend at jq
    rw [e_0, e_200, e_201, e_202] at jq
    rw [adv_n (by omega) (by omega), up_n (by omega)]
    refine hm j ?_ j0 j1
    unfold kslot pend
    rw [e0]
    omega
  exact ⟨i0 + 1, _, ⟨S, kd', fr, f', kw, v', w', hR, hT, st⟩, adv_0, (by rw [adv_1]; exact (g1 (by omega)).symm), (by rw [adv_n (by omega) (by omega), up_n (by omega)]), (by rw [adv_n (by omega) (by omega), up_n (by omega)]; exact e3), (fun j j0 j1 _ => (aAg_a (aAg_o hz (Or.inl (by omega))) (by decide)) j j0 j1), (fun h => absurd h (by decide)), hm', (by rw [adv_n (by omega) (by omega), up_n (by omega)]), (by rw [adv_n (by omega) (by omega), up_n (by omega)]), (by rw [adv_n (by omega) (by omega), up_s]; omega), (by rw [adv_n (by omega) (by omega), up_n (by omega)])⟩
theorem k_r0_again2 {z n k zr zm o0 o1 o2 o3 kd fr to nu sg w : Int} (p1 : pPRT z n 0 k zr zm o0 o1 o2 o3 0 kd fr to nu sg w) (p2 : pIsw kd w 2 1) (p3 : 1 ≤ o2 ∧ o2 ≤ 1) : pAns z n (-1 * fr + -1) 3 := by
  obtain ⟨p, ⟨i0, S, hR, e0, rfl, rfl, e3, hz0, hz20, hm, rfl, rfl, rfl, rfl⟩, hT0⟩ := p1
  obtain ⟨kd', f', kw, v', w', hT, g0, g1, g2, g3, g4, g5, g6, g7⟩ := TokR_p hT0
  obtain ⟨t1, t2, t3, t4, t5, t6, t7, t8⟩ := Tok_p hT
  obtain ⟨h1, h2, h3, h4⟩ := Rch_I hR
  have h1' := h1
  unfold I1 at h1
  have hz : aAg zr S 200 72 := fun j j0 j1 => hz0 j j0 j1 (fun h => absurd h (by decide))
  have w2 := iff1_t p2 rfl
  have kd2 : kd' = 2 := by omega
  have kk : kw = 2 := ((g5 kd2).2.2 2 (by decide)).mpr w2.2
  exact ans_mk hR hT (F := _) (by
    rw [sA_0 e0]
    exact st0_f2 (by omega) kk (by omega)) (by omega) rfl
theorem k_r0_first3 {z n k zr zm o0 o1 o2 o3 kd fr to nu sg w y : Int} (p1 : pPRT z n 0 k zr zm o0 o1 o2 o3 0 kd fr to nu sg w) (p2 : pIsw kd w 3 1) (p3 : 0 ≤ o3 ∧ o3 ≤ 0) (p4 : 1 ≤ y ∧ y ≤ 1) : pPR z n 5 to k zr zm o0 o1 o2 y 0 := by
  obtain ⟨p, ⟨i0, S, hR, e0, rfl, rfl, e3, hz0, hz20, hm, rfl, rfl, rfl, rfl⟩, hT0⟩ := p1
  obtain ⟨kd', f', kw, v', w', hT, g0, g1, g2, g3, g4, g5, g6, g7⟩ := TokR_p hT0
  obtain ⟨t1, t2, t3, t4, t5, t6, t7, t8⟩ := Tok_p hT
  obtain ⟨h1, h2, h3, h4⟩ := Rch_I hR
  have h1' := h1
  unfold I1 at h1
  have hz : aAg zr S 200 72 := fun j j0 j1 => hz0 j j0 j1 (fun h => absurd h (by decide))
  have w3 := iff1_t p2 rfl
  have kd2 : kd' = 2 := by omega
  have kk : kw = 3 := ((g5 kd2).2.2 3 (by decide)).mpr w3.2
  have st : stepA S kd' fr f' kw v' w' = .inl (adv (up S 13 1) 5 f') := by
    rw [sA_0 e0]
    exact st0_t3 (by omega) kk (by omega)
  have e_0 : (adv (up S 13 1) 5 f') 0 = 5 := by rw [adv_0]
  have e_200 : (adv (up S 13 1) 5 f') 200 = S 200 := by rw [adv_n (by omega) (by omega), up_n (by omega)]
  have e_201 : (adv (up S 13 1) 5 f') 201 = S 201 := by rw [adv_n (by omega) (by omega), up_n (by omega)]
  have e_202 : (adv (up S 13 1) 5 f') 202 = S 202 := by rw [adv_n (by omega) (by omega), up_n (by omega)]
  have hm' : ∀ j : Int, kslot (adv (up S 13 1) 5 f') j ∨ pend (adv (up S 13 1) 5 f') j → 0 ≤ j → j < 19 → dcd j.toNat zm = c27 8 ((adv (up S 13 1) 5 f') (100 + j)) := fun j jq j0 j1 => by
    unfold kslot pend at jq
    rw [e_0, e_200, e_201, e_202] at jq
    rw [adv_n (by omega) (by omega), up_n (by omega)]
    refine hm j ?_ j0 j1
    unfold kslot pend
    rw [e0]
    omega
  exact ⟨i0 + 1, _, ⟨S, kd', fr, f', kw, v', w', hR, hT, st⟩, adv_0, (by rw [adv_1]; exact (g1 (by omega)).symm), (by rw [adv_n (by omega) (by omega), up_n (by omega)]), (by rw [adv_n (by omega) (by omega), up_n (by omega)]; exact e3), (fun j j0 j1 _ => (aAg_a (aAg_o hz (Or.inl (by omega))) (by decide)) j j0 j1), (fun h => absurd h (by decide)), hm', (by rw [adv_n (by omega) (by omega), up_n (by omega)]), (by rw [adv_n (by omega) (by omega), up_n (by omega)]), (by rw [adv_n (by omega) (by omega), up_n (by omega)]), (by rw [adv_n (by omega) (by omega), up_s]; omega)⟩
theorem k_r0_again3 {z n k zr zm o0 o1 o2 o3 kd fr to nu sg w : Int} (p1 : pPRT z n 0 k zr zm o0 o1 o2 o3 0 kd fr to nu sg w) (p2 : pIsw kd w 3 1) (p3 : 1 ≤ o3 ∧ o3 ≤ 1) : pAns z n (-1 * fr + -1) 3 := by
  obtain ⟨p, ⟨i0, S, hR, e0, rfl, rfl, e3, hz0, hz20, hm, rfl, rfl, rfl, rfl⟩, hT0⟩ := p1
  obtain ⟨kd', f', kw, v', w', hT, g0, g1, g2, g3, g4, g5, g6, g7⟩ := TokR_p hT0
  obtain ⟨t1, t2, t3, t4, t5, t6, t7, t8⟩ := Tok_p hT
  obtain ⟨h1, h2, h3, h4⟩ := Rch_I hR
  have h1' := h1
  unfold I1 at h1
  have hz : aAg zr S 200 72 := fun j j0 j1 => hz0 j j0 j1 (fun h => absurd h (by decide))
  have w3 := iff1_t p2 rfl
  have kd2 : kd' = 2 := by omega
  have kk : kw = 3 := ((g5 kd2).2.2 3 (by decide)).mpr w3.2
  exact ans_mk hR hT (F := _) (by
    rw [sA_0 e0]
    exact st0_f3 (by omega) kk (by omega)) (by omega) rfl
theorem k_r0_n4 {z n k zr zm o0 o1 o2 o3 kd fr to nu sg w : Int} (p1 : pPRT z n 0 k zr zm o0 o1 o2 o3 0 kd fr to nu sg w) (p2 : pIsw kd w 4 1) (p3 : pCnt zr 0 5 0) : pPR z n 6 to k zr zm o0 o1 o2 o3 0 := by
  obtain ⟨p, ⟨i0, S, hR, e0, rfl, rfl, e3, hz0, hz20, hm, rfl, rfl, rfl, rfl⟩, hT0⟩ := p1
  obtain ⟨kd', f', kw, v', w', hT, g0, g1, g2, g3, g4, g5, g6, g7⟩ := TokR_p hT0
  obtain ⟨t1, t2, t3, t4, t5, t6, t7, t8⟩ := Tok_p hT
  obtain ⟨h1, h2, h3, h4⟩ := Rch_I hR
  have h1' := h1
  unfold I1 at h1
  have hz : aAg zr S 200 72 := fun j j0 j1 => hz0 j j0 j1 (fun h => absurd h (by decide))
  have w4 := iff1_t p2 rfl
  have kd2 : kd' = 2 := by omega
  have kk : kw = 4 := ((g5 kd2).2.2 4 (by decide)).mpr w4.2
  have hc := hz 0 (by decide) (by decide)
  change dcd (0 : Int).toNat zr = S 200 at hc
  have hq := iff1_f p3.1 rfl
  rw [hc] at hq
  have st : stepA S kd' fr f' kw v' w' = .inl (adv S 6 f') := by
    rw [sA_0 e0]
    exact st0_t4 (by omega) kk (by omega)
  have e_0 : (adv S 6 f') 0 = 6 := by rw [adv_0]
  have e_200 : (adv S 6 f') 200 = S 200 := by rw [adv_n (by omega) (by omega)]
  have e_201 : (adv S 6 f') 201 = S 201 := by rw [adv_n (by omega) (by omega)]
  have e_202 : (adv S 6 f') 202 = S 202 := by rw [adv_n (by omega) (by omega)]
  have hm' : ∀ j : Int, kslot (adv S 6 f') j ∨ pend (adv S 6 f') j → 0 ≤ j → j < 19 → dcd j.toNat zm = c27 8 ((adv S 6 f') (100 + j)) := fun j jq j0 j1 => by
    unfold kslot pend at jq
    rw [e_0, e_200, e_201, e_202] at jq
    rw [adv_n (by omega) (by omega)]
    refine hm j ?_ j0 j1
    unfold kslot pend
    rw [e0]
    omega
  exact ⟨i0 + 1, _, ⟨S, kd', fr, f', kw, v', w', hR, hT, st⟩, adv_0, (by rw [adv_1]; exact (g1 (by omega)).symm), (by rw [adv_n (by omega) (by omega)]), (by rw [adv_n (by omega) (by omega)]; exact e3), (fun j j0 j1 _ => (aAg_a hz (by decide)) j j0 j1), (fun h => absurd h (by decide)), hm', (by rw [adv_n (by omega) (by omega)]), (by rw [adv_n (by omega) (by omega)]), (by rw [adv_n (by omega) (by omega)]), (by rw [adv_n (by omega) (by omega)])⟩
theorem k_r0_many4 {z n k zr zm o0 o1 o2 o3 kd fr to nu sg w : Int} (p1 : pPRT z n 0 k zr zm o0 o1 o2 o3 0 kd fr to nu sg w) (p2 : pIsw kd w 4 1) (p3 : pCnt zr 0 5 1) : pAns z n (-1 * fr + -1) 4 := by
  obtain ⟨p, ⟨i0, S, hR, e0, rfl, rfl, e3, hz0, hz20, hm, rfl, rfl, rfl, rfl⟩, hT0⟩ := p1
  obtain ⟨kd', f', kw, v', w', hT, g0, g1, g2, g3, g4, g5, g6, g7⟩ := TokR_p hT0
  obtain ⟨t1, t2, t3, t4, t5, t6, t7, t8⟩ := Tok_p hT
  obtain ⟨h1, h2, h3, h4⟩ := Rch_I hR
  have h1' := h1
  unfold I1 at h1
  have hz : aAg zr S 200 72 := fun j j0 j1 => hz0 j j0 j1 (fun h => absurd h (by decide))
  have w4 := iff1_t p2 rfl
  have kd2 : kd' = 2 := by omega
  have kk : kw = 4 := ((g5 kd2).2.2 4 (by decide)).mpr w4.2
  have hc := hz 0 (by decide) (by decide)
  change dcd (0 : Int).toNat zr = S 200 at hc
  have hq := iff1_t p3.1 rfl
  rw [hc] at hq
  exact ans_mk hR hT (F := _) (by
    rw [sA_0 e0]
    exact st0_f4 (by omega) kk (by omega)) (by omega) rfl
theorem k_r0_n5 {z n k zr zm o0 o1 o2 o3 kd fr to nu sg w : Int} (p1 : pPRT z n 0 k zr zm o0 o1 o2 o3 0 kd fr to nu sg w) (p2 : pIsw kd w 5 1) (p3 : pCnt zr 1 8 0) : pPR z n 9 to k zr zm o0 o1 o2 o3 0 := by
  obtain ⟨p, ⟨i0, S, hR, e0, rfl, rfl, e3, hz0, hz20, hm, rfl, rfl, rfl, rfl⟩, hT0⟩ := p1
  obtain ⟨kd', f', kw, v', w', hT, g0, g1, g2, g3, g4, g5, g6, g7⟩ := TokR_p hT0
  obtain ⟨t1, t2, t3, t4, t5, t6, t7, t8⟩ := Tok_p hT
  obtain ⟨h1, h2, h3, h4⟩ := Rch_I hR
  have h1' := h1
  unfold I1 at h1
  have hz : aAg zr S 200 72 := fun j j0 j1 => hz0 j j0 j1 (fun h => absurd h (by decide))
  have w5 := iff1_t p2 rfl
  have kd2 : kd' = 2 := by omega
  have kk : kw = 5 := ((g5 kd2).2.2 5 (by decide)).mpr w5.2
  have hc := hz 1 (by decide) (by decide)
  change dcd (1 : Int).toNat zr = S 201 at hc
  have hq := iff1_f p3.1 rfl
  rw [hc] at hq
  have st : stepA S kd' fr f' kw v' w' = .inl (adv S 9 f') := by
    rw [sA_0 e0]
    exact st0_t5 (by omega) kk (by omega)
  have e_0 : (adv S 9 f') 0 = 9 := by rw [adv_0]
  have e_200 : (adv S 9 f') 200 = S 200 := by rw [adv_n (by omega) (by omega)]
  have e_201 : (adv S 9 f') 201 = S 201 := by rw [adv_n (by omega) (by omega)]
  have e_202 : (adv S 9 f') 202 = S 202 := by rw [adv_n (by omega) (by omega)]
  have hm' : ∀ j : Int, kslot (adv S 9 f') j ∨ pend (adv S 9 f') j → 0 ≤ j → j < 19 → dcd j.toNat zm = c27 8 ((adv S 9 f') (100 + j)) := fun j jq j0 j1 => by
    unfold kslot pend at jq
    rw [e_0, e_200, e_201, e_202] at jq
    rw [adv_n (by omega) (by omega)]
    refine hm j ?_ j0 j1
    unfold kslot pend
    rw [e0]
    omega
  exact ⟨i0 + 1, _, ⟨S, kd', fr, f', kw, v', w', hR, hT, st⟩, adv_0, (by rw [adv_1]; exact (g1 (by omega)).symm), (by rw [adv_n (by omega) (by omega)]), (by rw [adv_n (by omega) (by omega)]; exact e3), (fun j j0 j1 _ => (aAg_a hz (by decide)) j j0 j1), (fun h => absurd h (by decide)), hm', (by rw [adv_n (by omega) (by omega)]), (by rw [adv_n (by omega) (by omega)]), (by rw [adv_n (by omega) (by omega)]), (by rw [adv_n (by omega) (by omega)])⟩
theorem k_r0_many5 {z n k zr zm o0 o1 o2 o3 kd fr to nu sg w : Int} (p1 : pPRT z n 0 k zr zm o0 o1 o2 o3 0 kd fr to nu sg w) (p2 : pIsw kd w 5 1) (p3 : pCnt zr 1 8 1) : pAns z n (-1 * fr + -1) 4 := by
  obtain ⟨p, ⟨i0, S, hR, e0, rfl, rfl, e3, hz0, hz20, hm, rfl, rfl, rfl, rfl⟩, hT0⟩ := p1
  obtain ⟨kd', f', kw, v', w', hT, g0, g1, g2, g3, g4, g5, g6, g7⟩ := TokR_p hT0
  obtain ⟨t1, t2, t3, t4, t5, t6, t7, t8⟩ := Tok_p hT
  obtain ⟨h1, h2, h3, h4⟩ := Rch_I hR
  have h1' := h1
  unfold I1 at h1
  have hz : aAg zr S 200 72 := fun j j0 j1 => hz0 j j0 j1 (fun h => absurd h (by decide))
  have w5 := iff1_t p2 rfl
  have kd2 : kd' = 2 := by omega
  have kk : kw = 5 := ((g5 kd2).2.2 5 (by decide)).mpr w5.2
  have hc := hz 1 (by decide) (by decide)
  change dcd (1 : Int).toNat zr = S 201 at hc
  have hq := iff1_t p3.1 rfl
  rw [hc] at hq
  exact ans_mk hR hT (F := _) (by
    rw [sA_0 e0]
    exact st0_f5 (by omega) kk (by omega)) (by omega) rfl
theorem k_r0_n6 {z n k zr zm o0 o1 o2 o3 kd fr to nu sg w : Int} (p1 : pPRT z n 0 k zr zm o0 o1 o2 o3 0 kd fr to nu sg w) (p2 : pIsw kd w 6 1) (p3 : pCnt zr 2 6 0) : pPR z n 13 to k zr zm o0 o1 o2 o3 0 := by
  obtain ⟨p, ⟨i0, S, hR, e0, rfl, rfl, e3, hz0, hz20, hm, rfl, rfl, rfl, rfl⟩, hT0⟩ := p1
  obtain ⟨kd', f', kw, v', w', hT, g0, g1, g2, g3, g4, g5, g6, g7⟩ := TokR_p hT0
  obtain ⟨t1, t2, t3, t4, t5, t6, t7, t8⟩ := Tok_p hT
  obtain ⟨h1, h2, h3, h4⟩ := Rch_I hR
  have h1' := h1
  unfold I1 at h1
  have hz : aAg zr S 200 72 := fun j j0 j1 => hz0 j j0 j1 (fun h => absurd h (by decide))
  have w6 := iff1_t p2 rfl
  have kd2 : kd' = 2 := by omega
  have kk : kw = 6 := ((g5 kd2).2.2 6 (by decide)).mpr w6.2
  have hc := hz 2 (by decide) (by decide)
  change dcd (2 : Int).toNat zr = S 202 at hc
  have hq := iff1_f p3.1 rfl
  rw [hc] at hq
  have st : stepA S kd' fr f' kw v' w' = .inl (adv S 13 f') := by
    rw [sA_0 e0]
    exact st0_t6 (by omega) kk (by omega)
  have e_0 : (adv S 13 f') 0 = 13 := by rw [adv_0]
  have e_200 : (adv S 13 f') 200 = S 200 := by rw [adv_n (by omega) (by omega)]
  have e_201 : (adv S 13 f') 201 = S 201 := by rw [adv_n (by omega) (by omega)]
  have e_202 : (adv S 13 f') 202 = S 202 := by rw [adv_n (by omega) (by omega)]
  have hm' : ∀ j : Int, kslot (adv S 13 f') j ∨ pend (adv S 13 f') j → 0 ≤ j → j < 19 → dcd j.toNat zm = c27 8 ((adv S 13 f') (100 + j)) := fun j jq j0 j1 => by
    unfold kslot pend at jq
    rw [e_0, e_200, e_201, e_202] at jq
    rw [adv_n (by omega) (by omega)]
    refine hm j ?_ j0 j1
    unfold kslot pend
    rw [e0]
    omega
  exact ⟨i0 + 1, _, ⟨S, kd', fr, f', kw, v', w', hR, hT, st⟩, adv_0, (by rw [adv_1]; exact (g1 (by omega)).symm), (by rw [adv_n (by omega) (by omega)]), (by rw [adv_n (by omega) (by omega)]; exact e3), (fun j j0 j1 _ => (aAg_a hz (by decide)) j j0 j1), (fun h => absurd h (by decide)), hm', (by rw [adv_n (by omega) (by omega)]), (by rw [adv_n (by omega) (by omega)]), (by rw [adv_n (by omega) (by omega)]), (by rw [adv_n (by omega) (by omega)])⟩
theorem k_r0_many6 {z n k zr zm o0 o1 o2 o3 kd fr to nu sg w : Int} (p1 : pPRT z n 0 k zr zm o0 o1 o2 o3 0 kd fr to nu sg w) (p2 : pIsw kd w 6 1) (p3 : pCnt zr 2 6 1) : pAns z n (-1 * fr + -1) 4 := by
  obtain ⟨p, ⟨i0, S, hR, e0, rfl, rfl, e3, hz0, hz20, hm, rfl, rfl, rfl, rfl⟩, hT0⟩ := p1
  obtain ⟨kd', f', kw, v', w', hT, g0, g1, g2, g3, g4, g5, g6, g7⟩ := TokR_p hT0
  obtain ⟨t1, t2, t3, t4, t5, t6, t7, t8⟩ := Tok_p hT
  obtain ⟨h1, h2, h3, h4⟩ := Rch_I hR
  have h1' := h1
  unfold I1 at h1
  have hz : aAg zr S 200 72 := fun j j0 j1 => hz0 j j0 j1 (fun h => absurd h (by decide))
  have w6 := iff1_t p2 rfl
  have kd2 : kd' = 2 := by omega
  have kk : kw = 6 := ((g5 kd2).2.2 6 (by decide)).mpr w6.2
  have hc := hz 2 (by decide) (by decide)
  change dcd (2 : Int).toNat zr = S 202 at hc
  have hq := iff1_t p3.1 rfl
  rw [hc] at hq
  exact ans_mk hR hT (F := _) (by
    rw [sA_0 e0]
    exact st0_f6 (by omega) kk (by omega)) (by omega) rfl
theorem k_r0_k7 {z n k zr zm o0 o1 o2 o3 kd fr to nu sg w : Int} (p1 : pPRT z n 0 k zr zm o0 o1 o2 o3 0 kd fr to nu sg w) (p2 : pIsw kd w 7 1) : pPR z n 16 to k zr zm o0 o1 o2 o3 0 := by
  obtain ⟨p, ⟨i0, S, hR, e0, rfl, rfl, e3, hz0, hz20, hm, rfl, rfl, rfl, rfl⟩, hT0⟩ := p1
  obtain ⟨kd', f', kw, v', w', hT, g0, g1, g2, g3, g4, g5, g6, g7⟩ := TokR_p hT0
  obtain ⟨t1, t2, t3, t4, t5, t6, t7, t8⟩ := Tok_p hT
  obtain ⟨h1, h2, h3, h4⟩ := Rch_I hR
  have h1' := h1
  unfold I1 at h1
  have hz : aAg zr S 200 72 := fun j j0 j1 => hz0 j j0 j1 (fun h => absurd h (by decide))
  have w7 := iff1_t p2 rfl
  have kd2 : kd' = 2 := by omega
  have kk : kw = 7 := ((g5 kd2).2.2 7 (by decide)).mpr w7.2
  have st : stepA S kd' fr f' kw v' w' = .inl (adv S 16 f') := by
    rw [sA_0 e0]
    exact st0_t7 (by omega) kk
  have e_0 : (adv S 16 f') 0 = 16 := by rw [adv_0]
  have e_200 : (adv S 16 f') 200 = S 200 := by rw [adv_n (by omega) (by omega)]
  have e_201 : (adv S 16 f') 201 = S 201 := by rw [adv_n (by omega) (by omega)]
  have e_202 : (adv S 16 f') 202 = S 202 := by rw [adv_n (by omega) (by omega)]
  have hm' : ∀ j : Int, kslot (adv S 16 f') j ∨ pend (adv S 16 f') j → 0 ≤ j → j < 19 → dcd j.toNat zm = c27 8 ((adv S 16 f') (100 + j)) := fun j jq j0 j1 => by
    unfold kslot pend at jq
    rw [e_0, e_200, e_201, e_202] at jq
    rw [adv_n (by omega) (by omega)]
    refine hm j ?_ j0 j1
    unfold kslot pend
    rw [e0]
    omega
  exact ⟨i0 + 1, _, ⟨S, kd', fr, f', kw, v', w', hR, hT, st⟩, adv_0, (by rw [adv_1]; exact (g1 (by omega)).symm), (by rw [adv_n (by omega) (by omega)]), (by rw [adv_n (by omega) (by omega)]; exact e3), (fun j j0 j1 _ => (aAg_a hz (by decide)) j j0 j1), (fun h => absurd h (by decide)), hm', (by rw [adv_n (by omega) (by omega)]), (by rw [adv_n (by omega) (by omega)]), (by rw [adv_n (by omega) (by omega)]), (by rw [adv_n (by omega) (by omega)])⟩
theorem k_r0_k8 {z n k zr zm o0 o1 o2 o3 kd fr to nu sg w : Int} (p1 : pPRT z n 0 k zr zm o0 o1 o2 o3 0 kd fr to nu sg w) (p2 : pIsw kd w 8 1) : pPR z n 18 to k zr zm o0 o1 o2 o3 0 := by
  obtain ⟨p, ⟨i0, S, hR, e0, rfl, rfl, e3, hz0, hz20, hm, rfl, rfl, rfl, rfl⟩, hT0⟩ := p1
  obtain ⟨kd', f', kw, v', w', hT, g0, g1, g2, g3, g4, g5, g6, g7⟩ := TokR_p hT0
  obtain ⟨t1, t2, t3, t4, t5, t6, t7, t8⟩ := Tok_p hT
  obtain ⟨h1, h2, h3, h4⟩ := Rch_I hR
  have h1' := h1
  unfold I1 at h1
  have hz : aAg zr S 200 72 := fun j j0 j1 => hz0 j j0 j1 (fun h => absurd h (by decide))
  have w8 := iff1_t p2 rfl
  have kd2 : kd' = 2 := by omega
  have kk : kw = 8 := ((g5 kd2).2.2 8 (by decide)).mpr w8.2
  have st : stepA S kd' fr f' kw v' w' = .inl (adv S 18 f') := by
    rw [sA_0 e0]
    exact st0_t8 (by omega) kk
  have e_0 : (adv S 18 f') 0 = 18 := by rw [adv_0]
  have e_200 : (adv S 18 f') 200 = S 200 := by rw [adv_n (by omega) (by omega)]
  have e_201 : (adv S 18 f') 201 = S 201 := by rw [adv_n (by omega) (by omega)]
  have e_202 : (adv S 18 f') 202 = S 202 := by rw [adv_n (by omega) (by omega)]
  have hm' : ∀ j : Int, kslot (adv S 18 f') j ∨ pend (adv S 18 f') j → 0 ≤ j → j < 19 → dcd j.toNat zm = c27 8 ((adv S 18 f') (100 + j)) := fun j jq j0 j1 => by
    unfold kslot pend at jq
    rw [e_0, e_200, e_201, e_202] at jq
    rw [adv_n (by omega) (by omega)]
    refine hm j ?_ j0 j1
    unfold kslot pend
    rw [e0]
    omega
  exact ⟨i0 + 1, _, ⟨S, kd', fr, f', kw, v', w', hR, hT, st⟩, adv_0, (by rw [adv_1]; exact (g1 (by omega)).symm), (by rw [adv_n (by omega) (by omega)]), (by rw [adv_n (by omega) (by omega)]; exact e3), (fun j j0 j1 _ => (aAg_a hz (by decide)) j j0 j1), (fun h => absurd h (by decide)), hm', (by rw [adv_n (by omega) (by omega)]), (by rw [adv_n (by omega) (by omega)]), (by rw [adv_n (by omega) (by omega)]), (by rw [adv_n (by omega) (by omega)])⟩
theorem k_r1_ok {z n k zr zm o0 o1 o2 o3 kd fr to nu sg w zr2 : Int} (p1 : pPRT z n 1 k zr zm o0 o1 o2 o3 0 kd fr to nu sg w) (p2 : 3 ≤ kd ∧ kd ≤ 3) (p3 : 0 ≤ nu ∧ nu ≤ 99) (p4 : pUpd zr2 zr 7 nu) : pPR z n 30 to k zr2 zm o0 o1 o2 o3 0 := by
  obtain ⟨p, ⟨i0, S, hR, e0, rfl, rfl, e3, hz0, hz20, hm, rfl, rfl, rfl, rfl⟩, hT0⟩ := p1
  obtain ⟨kd', f', kw, v', w', hT, g0, g1, g2, g3, g4, g5, g6, g7⟩ := TokR_p hT0
  obtain ⟨t1, t2, t3, t4, t5, t6, t7, t8⟩ := Tok_p hT
  obtain ⟨h1, h2, h3, h4⟩ := Rch_I hR
  have h1' := h1
  unfold I1 at h1
  have hz : aAg zr S 200 72 := fun j j0 j1 => hz0 j j0 j1 (fun h => absurd h (by decide))
  have k3 : kd' = 3 := by omega
  have ev := g2 k3
  have z2 := aAg_w (i' := 207) (v' := v') hz p4 (by decide) (by omega) ev
  have st : stepA S kd' fr f' kw v' w' = .inl (adv (up S 207 v') 30 f') := by
    rw [sA_1 e0]
    exact stNum_t k3 (by omega) (by omega)
  have e_0 : (adv (up S 207 v') 30 f') 0 = 30 := by rw [adv_0]
  have e_200 : (adv (up S 207 v') 30 f') 200 = S 200 := by rw [adv_n (by omega) (by omega), up_n (by omega)]
  have e_201 : (adv (up S 207 v') 30 f') 201 = S 201 := by rw [adv_n (by omega) (by omega), up_n (by omega)]
  have e_202 : (adv (up S 207 v') 30 f') 202 = S 202 := by rw [adv_n (by omega) (by omega), up_n (by omega)]
  have hm' : ∀ j : Int, kslot (adv (up S 207 v') 30 f') j ∨ pend (adv (up S 207 v') 30 f') j → 0 ≤ j → j < 19 → dcd j.toNat zm = c27 8 ((adv (up S 207 v') 30 f') (100 + j)) := fun j jq j0 j1 => by
    unfold kslot pend at jq
    rw [e_0, e_200, e_201, e_202] at jq
    rw [adv_n (by omega) (by omega), up_n (by omega)]
    refine hm j ?_ j0 j1
    unfold kslot pend
    rw [e0]
    omega
  exact ⟨i0 + 1, _, ⟨S, kd', fr, f', kw, v', w', hR, hT, st⟩, adv_0, (by rw [adv_1]; exact (g1 (by omega)).symm), (by rw [adv_n (by omega) (by omega), up_n (by omega)]), (by rw [adv_n (by omega) (by omega), up_n (by omega)]; exact e3), (fun j j0 j1 _ => (aAg_a z2 (by decide)) j j0 j1), (fun h => absurd h (by decide)), hm', (by rw [adv_n (by omega) (by omega), up_n (by omega)]), (by rw [adv_n (by omega) (by omega), up_n (by omega)]), (by rw [adv_n (by omega) (by omega), up_n (by omega)]), (by rw [adv_n (by omega) (by omega), up_n (by omega)])⟩
theorem k_r1_bad1 {z n k zr zm o0 o1 o2 o3 kd fr to nu sg w : Int} (p1 : pPRT z n 1 k zr zm o0 o1 o2 o3 0 kd fr to nu sg w) (p2 : kd ≠ 3) : pAns z n (-1 * fr + -1) 1 := by
  obtain ⟨p, ⟨i0, S, hR, e0, rfl, rfl, e3, hz0, hz20, hm, rfl, rfl, rfl, rfl⟩, hT0⟩ := p1
  obtain ⟨kd', f', kw, v', w', hT, g0, g1, g2, g3, g4, g5, g6, g7⟩ := TokR_p hT0
  obtain ⟨t1, t2, t3, t4, t5, t6, t7, t8⟩ := Tok_p hT
  obtain ⟨h1, h2, h3, h4⟩ := Rch_I hR
  have h1' := h1
  unfold I1 at h1
  have hz : aAg zr S 200 72 := fun j j0 j1 => hz0 j j0 j1 (fun h => absurd h (by decide))
  exact ans_mk hR hT (F := _) (by
    rw [sA_1 e0]
    exact stNum_k (by omega)) (by omega) rfl
theorem k_r1_bad3 {z n k zr zm o0 o1 o2 o3 kd fr to nu sg w : Int} (p1 : pPRT z n 1 k zr zm o0 o1 o2 o3 0 kd fr to nu sg w) (p2 : 3 ≤ kd ∧ kd ≤ 3) (p3 : pWin nu 0 99 0) : pAns z n (-1 * fr + -1) 2 := by
  obtain ⟨p, ⟨i0, S, hR, e0, rfl, rfl, e3, hz0, hz20, hm, rfl, rfl, rfl, rfl⟩, hT0⟩ := p1
  obtain ⟨kd', f', kw, v', w', hT, g0, g1, g2, g3, g4, g5, g6, g7⟩ := TokR_p hT0
  obtain ⟨t1, t2, t3, t4, t5, t6, t7, t8⟩ := Tok_p hT
  obtain ⟨h1, h2, h3, h4⟩ := Rch_I hR
  have h1' := h1
  unfold I1 at h1
  have hz : aAg zr S 200 72 := fun j j0 j1 => hz0 j j0 j1 (fun h => absurd h (by decide))
  exact ans_mk hR hT (F := _) (by
    rw [sA_1 e0]
    exact stNum_v (by omega) (by rw [← g2 (by omega)]; exact iff1_f p3 rfl)) (by omega) rfl
theorem k_r2_ok {z n k zr zm o0 o1 o2 o3 kd fr to nu sg w zr2 : Int} (p1 : pPRT z n 2 k zr zm o0 o1 o2 o3 0 kd fr to nu sg w) (p2 : 3 ≤ kd ∧ kd ≤ 3) (p3 : 1 ≤ nu ∧ nu ≤ 30) (p4 : pUpd zr2 zr 3 nu) : pPR z n 3 to k zr2 zm o0 o1 o2 o3 0 := by
  obtain ⟨p, ⟨i0, S, hR, e0, rfl, rfl, e3, hz0, hz20, hm, rfl, rfl, rfl, rfl⟩, hT0⟩ := p1
  obtain ⟨kd', f', kw, v', w', hT, g0, g1, g2, g3, g4, g5, g6, g7⟩ := TokR_p hT0
  obtain ⟨t1, t2, t3, t4, t5, t6, t7, t8⟩ := Tok_p hT
  obtain ⟨h1, h2, h3, h4⟩ := Rch_I hR
  have h1' := h1
  unfold I1 at h1
  have hz : aAg zr S 200 72 := fun j j0 j1 => hz0 j j0 j1 (fun h => absurd h (by decide))
  have k3 : kd' = 3 := by omega
  have ev := g2 k3
  have z2 := aAg_w (i' := 203) (v' := v') hz p4 (by decide) (by omega) ev
  have st : stepA S kd' fr f' kw v' w' = .inl (adv (up S 203 v') 3 f') := by
    rw [sA_2 e0]
    exact stNum_t k3 (by omega) (by omega)
  have e_0 : (adv (up S 203 v') 3 f') 0 = 3 := by rw [adv_0]
  have e_200 : (adv (up S 203 v') 3 f') 200 = S 200 := by rw [adv_n (by omega) (by omega), up_n (by omega)]
  have e_201 : (adv (up S 203 v') 3 f') 201 = S 201 := by rw [adv_n (by omega) (by omega), up_n (by omega)]
  have e_202 : (adv (up S 203 v') 3 f') 202 = S 202 := by rw [adv_n (by omega) (by omega), up_n (by omega)]
  have hm' : ∀ j : Int, kslot (adv (up S 203 v') 3 f') j ∨ pend (adv (up S 203 v') 3 f') j → 0 ≤ j → j < 19 → dcd j.toNat zm = c27 8 ((adv (up S 203 v') 3 f') (100 + j)) := fun j jq j0 j1 => by
    unfold kslot pend at jq
    rw [e_0, e_200, e_201, e_202] at jq
    rw [adv_n (by omega) (by omega), up_n (by omega)]
    refine hm j ?_ j0 j1
    unfold kslot pend
    rw [e0]
    omega
  exact ⟨i0 + 1, _, ⟨S, kd', fr, f', kw, v', w', hR, hT, st⟩, adv_0, (by rw [adv_1]; exact (g1 (by omega)).symm), (by rw [adv_n (by omega) (by omega), up_n (by omega)]), (by rw [adv_n (by omega) (by omega), up_n (by omega)]; exact e3), (fun j j0 j1 _ => (aAg_a z2 (by decide)) j j0 j1), (fun h => absurd h (by decide)), hm', (by rw [adv_n (by omega) (by omega), up_n (by omega)]), (by rw [adv_n (by omega) (by omega), up_n (by omega)]), (by rw [adv_n (by omega) (by omega), up_n (by omega)]), (by rw [adv_n (by omega) (by omega), up_n (by omega)])⟩
theorem k_r2_bad1 {z n k zr zm o0 o1 o2 o3 kd fr to nu sg w : Int} (p1 : pPRT z n 2 k zr zm o0 o1 o2 o3 0 kd fr to nu sg w) (p2 : kd ≠ 3) : pAns z n (-1 * fr + -1) 1 := by
  obtain ⟨p, ⟨i0, S, hR, e0, rfl, rfl, e3, hz0, hz20, hm, rfl, rfl, rfl, rfl⟩, hT0⟩ := p1
  obtain ⟨kd', f', kw, v', w', hT, g0, g1, g2, g3, g4, g5, g6, g7⟩ := TokR_p hT0
  obtain ⟨t1, t2, t3, t4, t5, t6, t7, t8⟩ := Tok_p hT
  obtain ⟨h1, h2, h3, h4⟩ := Rch_I hR
  have h1' := h1
  unfold I1 at h1
  have hz : aAg zr S 200 72 := fun j j0 j1 => hz0 j j0 j1 (fun h => absurd h (by decide))
  exact ans_mk hR hT (F := _) (by
    rw [sA_2 e0]
    exact stNum_k (by omega)) (by omega) rfl
theorem k_r2_bad3 {z n k zr zm o0 o1 o2 o3 kd fr to nu sg w : Int} (p1 : pPRT z n 2 k zr zm o0 o1 o2 o3 0 kd fr to nu sg w) (p2 : 3 ≤ kd ∧ kd ≤ 3) (p3 : pWin nu 1 30 0) : pAns z n (-1 * fr + -1) 2 := by
  obtain ⟨p, ⟨i0, S, hR, e0, rfl, rfl, e3, hz0, hz20, hm, rfl, rfl, rfl, rfl⟩, hT0⟩ := p1
  obtain ⟨kd', f', kw, v', w', hT, g0, g1, g2, g3, g4, g5, g6, g7⟩ := TokR_p hT0
  obtain ⟨t1, t2, t3, t4, t5, t6, t7, t8⟩ := Tok_p hT
  obtain ⟨h1, h2, h3, h4⟩ := Rch_I hR
  have h1' := h1
  unfold I1 at h1
  have hz : aAg zr S 200 72 := fun j j0 j1 => hz0 j j0 j1 (fun h => absurd h (by decide))
  exact ans_mk hR hT (F := _) (by
    rw [sA_2 e0]
    exact stNum_v (by omega) (by rw [← g2 (by omega)]; exact iff1_f p3 rfl)) (by omega) rfl
theorem k_r3_ok {z n k zr zm o0 o1 o2 o3 kd fr to nu sg w zr2 : Int} (p1 : pPRT z n 3 k zr zm o0 o1 o2 o3 0 kd fr to nu sg w) (p2 : 3 ≤ kd ∧ kd ≤ 3) (p3 : 0 ≤ nu ∧ nu ≤ 9) (p4 : pUpd zr2 zr 4 nu) : pPR z n 30 to k zr2 zm o0 o1 o2 o3 0 := by
  obtain ⟨p, ⟨i0, S, hR, e0, rfl, rfl, e3, hz0, hz20, hm, rfl, rfl, rfl, rfl⟩, hT0⟩ := p1
  obtain ⟨kd', f', kw, v', w', hT, g0, g1, g2, g3, g4, g5, g6, g7⟩ := TokR_p hT0
  obtain ⟨t1, t2, t3, t4, t5, t6, t7, t8⟩ := Tok_p hT
  obtain ⟨h1, h2, h3, h4⟩ := Rch_I hR
  have h1' := h1
  unfold I1 at h1
  have hz : aAg zr S 200 72 := fun j j0 j1 => hz0 j j0 j1 (fun h => absurd h (by decide))
  have k3 : kd' = 3 := by omega
  have ev := g2 k3
  have z2 := aAg_w (i' := 204) (v' := v') hz p4 (by decide) (by omega) ev
  have st : stepA S kd' fr f' kw v' w' = .inl (adv (up S 204 v') 30 f') := by
    rw [sA_3 e0]
    exact stNum_t k3 (by omega) (by omega)
  have e_0 : (adv (up S 204 v') 30 f') 0 = 30 := by rw [adv_0]
  have e_200 : (adv (up S 204 v') 30 f') 200 = S 200 := by rw [adv_n (by omega) (by omega), up_n (by omega)]
  have e_201 : (adv (up S 204 v') 30 f') 201 = S 201 := by rw [adv_n (by omega) (by omega), up_n (by omega)]
  have e_202 : (adv (up S 204 v') 30 f') 202 = S 202 := by rw [adv_n (by omega) (by omega), up_n (by omega)]
  have hm' : ∀ j : Int, kslot (adv (up S 204 v') 30 f') j ∨ pend (adv (up S 204 v') 30 f') j → 0 ≤ j → j < 19 → dcd j.toNat zm = c27 8 ((adv (up S 204 v') 30 f') (100 + j)) := fun j jq j0 j1 => by
    unfold kslot pend at jq
    rw [e_0, e_200, e_201, e_202] at jq
    rw [adv_n (by omega) (by omega), up_n (by omega)]
    refine hm j ?_ j0 j1
    unfold kslot pend
    rw [e0]
    omega
  exact ⟨i0 + 1, _, ⟨S, kd', fr, f', kw, v', w', hR, hT, st⟩, adv_0, (by rw [adv_1]; exact (g1 (by omega)).symm), (by rw [adv_n (by omega) (by omega), up_n (by omega)]), (by rw [adv_n (by omega) (by omega), up_n (by omega)]; exact e3), (fun j j0 j1 _ => (aAg_a z2 (by decide)) j j0 j1), (fun h => absurd h (by decide)), hm', (by rw [adv_n (by omega) (by omega), up_n (by omega)]), (by rw [adv_n (by omega) (by omega), up_n (by omega)]), (by rw [adv_n (by omega) (by omega), up_n (by omega)]), (by rw [adv_n (by omega) (by omega), up_n (by omega)])⟩
theorem k_r3_bad1 {z n k zr zm o0 o1 o2 o3 kd fr to nu sg w : Int} (p1 : pPRT z n 3 k zr zm o0 o1 o2 o3 0 kd fr to nu sg w) (p2 : kd ≠ 3) : pAns z n (-1 * fr + -1) 1 := by
  obtain ⟨p, ⟨i0, S, hR, e0, rfl, rfl, e3, hz0, hz20, hm, rfl, rfl, rfl, rfl⟩, hT0⟩ := p1
  obtain ⟨kd', f', kw, v', w', hT, g0, g1, g2, g3, g4, g5, g6, g7⟩ := TokR_p hT0
  obtain ⟨t1, t2, t3, t4, t5, t6, t7, t8⟩ := Tok_p hT
  obtain ⟨h1, h2, h3, h4⟩ := Rch_I hR
  have h1' := h1
  unfold I1 at h1
  have hz : aAg zr S 200 72 := fun j j0 j1 => hz0 j j0 j1 (fun h => absurd h (by decide))
  exact ans_mk hR hT (F := _) (by
    rw [sA_3 e0]
    exact stNum_k (by omega)) (by omega) rfl
theorem k_r3_bad3 {z n k zr zm o0 o1 o2 o3 kd fr to nu sg w : Int} (p1 : pPRT z n 3 k zr zm o0 o1 o2 o3 0 kd fr to nu sg w) (p2 : 3 ≤ kd ∧ kd ≤ 3) (p3 : pWin nu 0 9 0) : pAns z n (-1 * fr + -1) 2 := by
  obtain ⟨p, ⟨i0, S, hR, e0, rfl, rfl, e3, hz0, hz20, hm, rfl, rfl, rfl, rfl⟩, hT0⟩ := p1
  obtain ⟨kd', f', kw, v', w', hT, g0, g1, g2, g3, g4, g5, g6, g7⟩ := TokR_p hT0
  obtain ⟨t1, t2, t3, t4, t5, t6, t7, t8⟩ := Tok_p hT
  obtain ⟨h1, h2, h3, h4⟩ := Rch_I hR
  have h1' := h1
  unfold I1 at h1
  have hz : aAg zr S 200 72 := fun j j0 j1 => hz0 j j0 j1 (fun h => absurd h (by decide))
  exact ans_mk hR hT (F := _) (by
    rw [sA_3 e0]
    exact stNum_v (by omega) (by rw [← g2 (by omega)]; exact iff1_f p3 rfl)) (by omega) rfl
theorem k_r4_ok {z n k zr zm o0 o1 o2 o3 kd fr to nu sg w zr2 : Int} (p1 : pPRT z n 4 k zr zm o0 o1 o2 o3 0 kd fr to nu sg w) (p2 : 3 ≤ kd ∧ kd ≤ 3) (p3 : 0 ≤ nu ∧ nu ≤ 99) (p4 : pUpd zr2 zr 5 nu) : pPR z n 30 to k zr2 zm o0 o1 o2 o3 0 := by
  obtain ⟨p, ⟨i0, S, hR, e0, rfl, rfl, e3, hz0, hz20, hm, rfl, rfl, rfl, rfl⟩, hT0⟩ := p1
  obtain ⟨kd', f', kw, v', w', hT, g0, g1, g2, g3, g4, g5, g6, g7⟩ := TokR_p hT0
  obtain ⟨t1, t2, t3, t4, t5, t6, t7, t8⟩ := Tok_p hT
  obtain ⟨h1, h2, h3, h4⟩ := Rch_I hR
  have h1' := h1
  unfold I1 at h1
  have hz : aAg zr S 200 72 := fun j j0 j1 => hz0 j j0 j1 (fun h => absurd h (by decide))
  have k3 : kd' = 3 := by omega
  have ev := g2 k3
  have z2 := aAg_w (i' := 205) (v' := v') hz p4 (by decide) (by omega) ev
  have st : stepA S kd' fr f' kw v' w' = .inl (adv (up S 205 v') 30 f') := by
    rw [sA_4 e0]
    exact stNum_t k3 (by omega) (by omega)
  have e_0 : (adv (up S 205 v') 30 f') 0 = 30 := by rw [adv_0]
  have e_200 : (adv (up S 205 v') 30 f') 200 = S 200 := by rw [adv_n (by omega) (by omega), up_n (by omega)]
  have e_201 : (adv (up S 205 v') 30 f') 201 = S 201 := by rw [adv_n (by omega) (by omega), up_n (by omega)]
  have e_202 : (adv (up S 205 v') 30 f') 202 = S 202 := by rw [adv_n (by omega) (by omega), up_n (by omega)]
  have hm' : ∀ j : Int, kslot (adv (up S 205 v') 30 f') j ∨ pend (adv (up S 205 v') 30 f') j → 0 ≤ j → j < 19 → dcd j.toNat zm = c27 8 ((adv (up S 205 v') 30 f') (100 + j)) := fun j jq j0 j1 => by
    unfold kslot pend at jq
    rw [e_0, e_200, e_201, e_202] at jq
    rw [adv_n (by omega) (by omega), up_n (by omega)]
    refine hm j ?_ j0 j1
    unfold kslot pend
    rw [e0]
    omega
  exact ⟨i0 + 1, _, ⟨S, kd', fr, f', kw, v', w', hR, hT, st⟩, adv_0, (by rw [adv_1]; exact (g1 (by omega)).symm), (by rw [adv_n (by omega) (by omega), up_n (by omega)]), (by rw [adv_n (by omega) (by omega), up_n (by omega)]; exact e3), (fun j j0 j1 _ => (aAg_a z2 (by decide)) j j0 j1), (fun h => absurd h (by decide)), hm', (by rw [adv_n (by omega) (by omega), up_n (by omega)]), (by rw [adv_n (by omega) (by omega), up_n (by omega)]), (by rw [adv_n (by omega) (by omega), up_n (by omega)]), (by rw [adv_n (by omega) (by omega), up_n (by omega)])⟩
theorem k_r4_bad1 {z n k zr zm o0 o1 o2 o3 kd fr to nu sg w : Int} (p1 : pPRT z n 4 k zr zm o0 o1 o2 o3 0 kd fr to nu sg w) (p2 : kd ≠ 3) : pAns z n (-1 * fr + -1) 1 := by
  obtain ⟨p, ⟨i0, S, hR, e0, rfl, rfl, e3, hz0, hz20, hm, rfl, rfl, rfl, rfl⟩, hT0⟩ := p1
  obtain ⟨kd', f', kw, v', w', hT, g0, g1, g2, g3, g4, g5, g6, g7⟩ := TokR_p hT0
  obtain ⟨t1, t2, t3, t4, t5, t6, t7, t8⟩ := Tok_p hT
  obtain ⟨h1, h2, h3, h4⟩ := Rch_I hR
  have h1' := h1
  unfold I1 at h1
  have hz : aAg zr S 200 72 := fun j j0 j1 => hz0 j j0 j1 (fun h => absurd h (by decide))
  exact ans_mk hR hT (F := _) (by
    rw [sA_4 e0]
    exact stNum_k (by omega)) (by omega) rfl
theorem k_r4_bad3 {z n k zr zm o0 o1 o2 o3 kd fr to nu sg w : Int} (p1 : pPRT z n 4 k zr zm o0 o1 o2 o3 0 kd fr to nu sg w) (p2 : 3 ≤ kd ∧ kd ≤ 3) (p3 : pWin nu 0 99 0) : pAns z n (-1 * fr + -1) 2 := by
  obtain ⟨p, ⟨i0, S, hR, e0, rfl, rfl, e3, hz0, hz20, hm, rfl, rfl, rfl, rfl⟩, hT0⟩ := p1
  obtain ⟨kd', f', kw, v', w', hT, g0, g1, g2, g3, g4, g5, g6, g7⟩ := TokR_p hT0
  obtain ⟨t1, t2, t3, t4, t5, t6, t7, t8⟩ := Tok_p hT
  obtain ⟨h1, h2, h3, h4⟩ := Rch_I hR
  have h1' := h1
  unfold I1 at h1
  have hz : aAg zr S 200 72 := fun j j0 j1 => hz0 j j0 j1 (fun h => absurd h (by decide))
  exact ans_mk hR hT (F := _) (by
    rw [sA_4 e0]
    exact stNum_v (by omega) (by rw [← g2 (by omega)]; exact iff1_f p3 rfl)) (by omega) rfl
theorem k_r5_ok {z n k zr zm o0 o1 o2 o3 kd fr to nu sg w zr2 : Int} (p1 : pPRT z n 5 k zr zm o0 o1 o2 o3 0 kd fr to nu sg w) (p2 : 3 ≤ kd ∧ kd ≤ 3) (p3 : 0 ≤ nu ∧ nu ≤ 12) (p4 : pUpd zr2 zr 6 nu) : pPR z n 30 to k zr2 zm o0 o1 o2 o3 0 := by
  obtain ⟨p, ⟨i0, S, hR, e0, rfl, rfl, e3, hz0, hz20, hm, rfl, rfl, rfl, rfl⟩, hT0⟩ := p1
  obtain ⟨kd', f', kw, v', w', hT, g0, g1, g2, g3, g4, g5, g6, g7⟩ := TokR_p hT0
  obtain ⟨t1, t2, t3, t4, t5, t6, t7, t8⟩ := Tok_p hT
  obtain ⟨h1, h2, h3, h4⟩ := Rch_I hR
  have h1' := h1
  unfold I1 at h1
  have hz : aAg zr S 200 72 := fun j j0 j1 => hz0 j j0 j1 (fun h => absurd h (by decide))
  have k3 : kd' = 3 := by omega
  have ev := g2 k3
  have z2 := aAg_w (i' := 206) (v' := v') hz p4 (by decide) (by omega) ev
  have st : stepA S kd' fr f' kw v' w' = .inl (adv (up S 206 v') 30 f') := by
    rw [sA_5 e0]
    exact stNum_t k3 (by omega) (by omega)
  have e_0 : (adv (up S 206 v') 30 f') 0 = 30 := by rw [adv_0]
  have e_200 : (adv (up S 206 v') 30 f') 200 = S 200 := by rw [adv_n (by omega) (by omega), up_n (by omega)]
  have e_201 : (adv (up S 206 v') 30 f') 201 = S 201 := by rw [adv_n (by omega) (by omega), up_n (by omega)]
  have e_202 : (adv (up S 206 v') 30 f') 202 = S 202 := by rw [adv_n (by omega) (by omega), up_n (by omega)]
  have hm' : ∀ j : Int, kslot (adv (up S 206 v') 30 f') j ∨ pend (adv (up S 206 v') 30 f') j → 0 ≤ j → j < 19 → dcd j.toNat zm = c27 8 ((adv (up S 206 v') 30 f') (100 + j)) := fun j jq j0 j1 => by
    unfold kslot pend at jq
    rw [e_0, e_200, e_201, e_202] at jq
    rw [adv_n (by omega) (by omega), up_n (by omega)]
    refine hm j ?_ j0 j1
    unfold kslot pend
    rw [e0]
    omega
  exact ⟨i0 + 1, _, ⟨S, kd', fr, f', kw, v', w', hR, hT, st⟩, adv_0, (by rw [adv_1]; exact (g1 (by omega)).symm), (by rw [adv_n (by omega) (by omega), up_n (by omega)]), (by rw [adv_n (by omega) (by omega), up_n (by omega)]; exact e3), (fun j j0 j1 _ => (aAg_a z2 (by decide)) j j0 j1), (fun h => absurd h (by decide)), hm', (by rw [adv_n (by omega) (by omega), up_n (by omega)]), (by rw [adv_n (by omega) (by omega), up_n (by omega)]), (by rw [adv_n (by omega) (by omega), up_n (by omega)]), (by rw [adv_n (by omega) (by omega), up_n (by omega)])⟩
theorem k_r5_bad1 {z n k zr zm o0 o1 o2 o3 kd fr to nu sg w : Int} (p1 : pPRT z n 5 k zr zm o0 o1 o2 o3 0 kd fr to nu sg w) (p2 : kd ≠ 3) : pAns z n (-1 * fr + -1) 1 := by
  obtain ⟨p, ⟨i0, S, hR, e0, rfl, rfl, e3, hz0, hz20, hm, rfl, rfl, rfl, rfl⟩, hT0⟩ := p1
  obtain ⟨kd', f', kw, v', w', hT, g0, g1, g2, g3, g4, g5, g6, g7⟩ := TokR_p hT0
  obtain ⟨t1, t2, t3, t4, t5, t6, t7, t8⟩ := Tok_p hT
  obtain ⟨h1, h2, h3, h4⟩ := Rch_I hR
  have h1' := h1
  unfold I1 at h1
  have hz : aAg zr S 200 72 := fun j j0 j1 => hz0 j j0 j1 (fun h => absurd h (by decide))
  exact ans_mk hR hT (F := _) (by
    rw [sA_5 e0]
    exact stNum_k (by omega)) (by omega) rfl
theorem k_r5_bad3 {z n k zr zm o0 o1 o2 o3 kd fr to nu sg w : Int} (p1 : pPRT z n 5 k zr zm o0 o1 o2 o3 0 kd fr to nu sg w) (p2 : 3 ≤ kd ∧ kd ≤ 3) (p3 : pWin nu 0 12 0) : pAns z n (-1 * fr + -1) 2 := by
  obtain ⟨p, ⟨i0, S, hR, e0, rfl, rfl, e3, hz0, hz20, hm, rfl, rfl, rfl, rfl⟩, hT0⟩ := p1
  obtain ⟨kd', f', kw, v', w', hT, g0, g1, g2, g3, g4, g5, g6, g7⟩ := TokR_p hT0
  obtain ⟨t1, t2, t3, t4, t5, t6, t7, t8⟩ := Tok_p hT
  obtain ⟨h1, h2, h3, h4⟩ := Rch_I hR
  have h1' := h1
  unfold I1 at h1
  have hz : aAg zr S 200 72 := fun j j0 j1 => hz0 j j0 j1 (fun h => absurd h (by decide))
  exact ans_mk hR hT (F := _) (by
    rw [sA_5 e0]
    exact stNum_v (by omega) (by rw [← g2 (by omega)]; exact iff1_f p3 rfl)) (by omega) rfl
theorem k_r7_ok {z n k zr zm o0 o1 o2 o3 kd fr to nu sg w zr2 h : Int} (p1 : pPRT z n 7 k zr zm o0 o1 o2 o3 0 kd fr to nu sg w) (p2 : 3 ≤ kd ∧ kd ≤ 3) (p3 : 0 ≤ nu ∧ nu ≤ 20) (p4 : pUpd zr2 zr (h + 8) nu) (p5 : pCtr zr 0 h) : pPR z n 8 to k zr2 zm o0 o1 o2 o3 0 := by
  obtain ⟨p, ⟨i0, S, hR, e0, rfl, rfl, e3, hz0, hz20, hm, rfl, rfl, rfl, rfl⟩, hT0⟩ := p1
  obtain ⟨kd', f', kw, v', w', hT, g0, g1, g2, g3, g4, g5, g6, g7⟩ := TokR_p hT0
  obtain ⟨t1, t2, t3, t4, t5, t6, t7, t8⟩ := Tok_p hT
  obtain ⟨h1, h2, h3, h4⟩ := Rch_I hR
  have h1' := h1
  unfold I1 at h1
  have hz : aAg zr S 200 72 := fun j j0 j1 => hz0 j j0 j1 (fun h => absurd h (by decide))
  have k3 : kd' = 3 := by omega
  have ev := g2 k3
  have hc := hz 0 (by decide) (by decide)
  change dcd (0 : Int).toNat zr = S 200 at hc
  have eh := p5.2
  change dcd (0 : Int).toNat zr = h at eh
  rw [hc] at eh
  subst eh
  have z2 := aAg_w (i' := 208 + S 200) (v' := v') hz p4 (by decide) (by omega) ev
  have st : stepA S kd' fr f' kw v' w' = .inl (adv (up S (208 + S 200) v') 8 f') := by
    rw [sA_7 e0]
    exact stNum_t k3 (by omega) (by omega)
  have e_0 : (adv (up S (208 + S 200) v') 8 f') 0 = 8 := by rw [adv_0]
  have e_200 : (adv (up S (208 + S 200) v') 8 f') 200 = S 200 := by rw [adv_n (by omega) (by omega), up_n (by omega)]
  have e_201 : (adv (up S (208 + S 200) v') 8 f') 201 = S 201 := by rw [adv_n (by omega) (by omega), up_n (by omega)]
  have e_202 : (adv (up S (208 + S 200) v') 8 f') 202 = S 202 := by rw [adv_n (by omega) (by omega), up_n (by omega)]
  have hm' : ∀ j : Int, kslot (adv (up S (208 + S 200) v') 8 f') j ∨ pend (adv (up S (208 + S 200) v') 8 f') j → 0 ≤ j → j < 19 → dcd j.toNat zm = c27 8 ((adv (up S (208 + S 200) v') 8 f') (100 + j)) := fun j jq j0 j1 => by
    unfold kslot pend at jq
    rw [e_0, e_200, e_201, e_202] at jq
    rw [adv_n (by omega) (by omega), up_n (by omega)]
    refine hm j ?_ j0 j1
    unfold kslot pend
    rw [e0]
    omega
  exact ⟨i0 + 1, _, ⟨S, kd', fr, f', kw, v', w', hR, hT, st⟩, adv_0, (by rw [adv_1]; exact (g1 (by omega)).symm), (by rw [adv_n (by omega) (by omega), up_n (by omega)]), (by rw [adv_n (by omega) (by omega), up_n (by omega)]; exact e3), (fun j j0 j1 _ => (aAg_a z2 (by decide)) j j0 j1), (fun h => absurd h (by decide)), hm', (by rw [adv_n (by omega) (by omega), up_n (by omega)]), (by rw [adv_n (by omega) (by omega), up_n (by omega)]), (by rw [adv_n (by omega) (by omega), up_n (by omega)]), (by rw [adv_n (by omega) (by omega), up_n (by omega)])⟩
theorem k_r7_bad1 {z n k zr zm o0 o1 o2 o3 kd fr to nu sg w : Int} (p1 : pPRT z n 7 k zr zm o0 o1 o2 o3 0 kd fr to nu sg w) (p2 : kd ≠ 3) : pAns z n (-1 * fr + -1) 1 := by
  obtain ⟨p, ⟨i0, S, hR, e0, rfl, rfl, e3, hz0, hz20, hm, rfl, rfl, rfl, rfl⟩, hT0⟩ := p1
  obtain ⟨kd', f', kw, v', w', hT, g0, g1, g2, g3, g4, g5, g6, g7⟩ := TokR_p hT0
  obtain ⟨t1, t2, t3, t4, t5, t6, t7, t8⟩ := Tok_p hT
  obtain ⟨h1, h2, h3, h4⟩ := Rch_I hR
  have h1' := h1
  unfold I1 at h1
  have hz : aAg zr S 200 72 := fun j j0 j1 => hz0 j j0 j1 (fun h => absurd h (by decide))
  exact ans_mk hR hT (F := _) (by
    rw [sA_7 e0]
    exact stNum_k (by omega)) (by omega) rfl
theorem k_r7_bad3 {z n k zr zm o0 o1 o2 o3 kd fr to nu sg w : Int} (p1 : pPRT z n 7 k zr zm o0 o1 o2 o3 0 kd fr to nu sg w) (p2 : 3 ≤ kd ∧ kd ≤ 3) (p3 : pWin nu 0 20 0) : pAns z n (-1 * fr + -1) 2 := by
  obtain ⟨p, ⟨i0, S, hR, e0, rfl, rfl, e3, hz0, hz20, hm, rfl, rfl, rfl, rfl⟩, hT0⟩ := p1
  obtain ⟨kd', f', kw, v', w', hT, g0, g1, g2, g3, g4, g5, g6, g7⟩ := TokR_p hT0
  obtain ⟨t1, t2, t3, t4, t5, t6, t7, t8⟩ := Tok_p hT
  obtain ⟨h1, h2, h3, h4⟩ := Rch_I hR
  have h1' := h1
  unfold I1 at h1
  have hz : aAg zr S 200 72 := fun j j0 j1 => hz0 j j0 j1 (fun h => absurd h (by decide))
  exact ans_mk hR hT (F := _) (by
    rw [sA_7 e0]
    exact stNum_v (by omega) (by rw [← g2 (by omega)]; exact iff1_f p3 rfl)) (by omega) rfl
theorem k_r8_ok {z n k zr zm o0 o1 o2 o3 kd fr to nu sg w zr2 h c zr4 : Int} (p1 : pPRT z n 8 k zr zm o0 o1 o2 o3 0 kd fr to nu sg w) (p2 : 3 ≤ kd ∧ kd ≤ 3) (p3 : 0 ≤ nu ∧ nu ≤ 20) (p4 : pUpd zr2 zr (h + 13) nu) (p5 : pCtr zr 0 h) (p6 : pCtr zr2 0 c) (p7 : pUpd zr4 zr2 0 (c + 1)) : pPR z n 30 to k zr4 zm o0 o1 o2 o3 0 := by
  obtain ⟨p, ⟨i0, S, hR, e0, rfl, rfl, e3, hz0, hz20, hm, rfl, rfl, rfl, rfl⟩, hT0⟩ := p1
  obtain ⟨kd', f', kw, v', w', hT, g0, g1, g2, g3, g4, g5, g6, g7⟩ := TokR_p hT0
  obtain ⟨t1, t2, t3, t4, t5, t6, t7, t8⟩ := Tok_p hT
  obtain ⟨h1, h2, h3, h4⟩ := Rch_I hR
  have h1' := h1
  unfold I1 at h1
  have hz : aAg zr S 200 72 := fun j j0 j1 => hz0 j j0 j1 (fun h => absurd h (by decide))
  have k3 : kd' = 3 := by omega
  have ev := g2 k3
  have hc := hz 0 (by decide) (by decide)
  change dcd (0 : Int).toNat zr = S 200 at hc
  have eh := p5.2
  change dcd (0 : Int).toNat zr = h at eh
  rw [hc] at eh
  subst eh
  have z2 := aAg_w (i' := 213 + S 200) (v' := v') hz p4 (by decide) (by omega) ev
  have hc2 := z2 0 (by decide) (by decide)
  rw [up_n (by omega)] at hc2
  change dcd (0 : Int).toNat zr2 = S 200 at hc2
  have ec := p6.2
  change dcd (0 : Int).toNat zr2 = c at ec
  rw [hc2] at ec
  subst ec
  have z4 := aAg_w (i' := 200) (v' := S 200 + 1) z2 p7 (by decide) (by decide) rfl
  have st : stepA S kd' fr f' kw v' w' = .inl (adv (up (up S (213 + S 200) v') 200 (S 200 + 1)) 30 f') := by
    rw [sA_8 e0]
    exact stNum_t k3 (by omega) (by omega)
  have e_0 : (adv (up (up S (213 + S 200) v') 200 (S 200 + 1)) 30 f') 0 = 30 := by rw [adv_0]
  have e_200 : (adv (up (up S (213 + S 200) v') 200 (S 200 + 1)) 30 f') 200 = S 200 + 1 := by rw [adv_n (by omega) (by omega), up_s]
  have e_201 : (adv (up (up S (213 + S 200) v') 200 (S 200 + 1)) 30 f') 201 = S 201 := by rw [adv_n (by omega) (by omega), up_n (by omega), up_n (by omega)]
  have e_202 : (adv (up (up S (213 + S 200) v') 200 (S 200 + 1)) 30 f') 202 = S 202 := by rw [adv_n (by omega) (by omega), up_n (by omega), up_n (by omega)]
  have hm' : ∀ j : Int, kslot (adv (up (up S (213 + S 200) v') 200 (S 200 + 1)) 30 f') j ∨ pend (adv (up (up S (213 + S 200) v') 200 (S 200 + 1)) 30 f') j → 0 ≤ j → j < 19 → dcd j.toNat zm = c27 8 ((adv (up (up S (213 + S 200) v') 200 (S 200 + 1)) 30 f') (100 + j)) := fun j jq j0 j1 => by
    unfold kslot pend at jq
    rw [e_0, e_200, e_201, e_202] at jq
    rw [adv_n (by omega) (by omega), up_n (by omega), up_n (by omega)]
    refine hm j ?_ j0 j1
    unfold kslot pend
    rw [e0]
    omega
  exact ⟨i0 + 1, _, ⟨S, kd', fr, f', kw, v', w', hR, hT, st⟩, adv_0, (by rw [adv_1]; exact (g1 (by omega)).symm), (by rw [adv_n (by omega) (by omega), up_n (by omega), up_n (by omega)]), (by rw [adv_n (by omega) (by omega), up_n (by omega), up_n (by omega)]; exact e3), (fun j j0 j1 _ => (aAg_a z4 (by decide)) j j0 j1), (fun h => absurd h (by decide)), hm', (by rw [adv_n (by omega) (by omega), up_n (by omega), up_n (by omega)]), (by rw [adv_n (by omega) (by omega), up_n (by omega), up_n (by omega)]), (by rw [adv_n (by omega) (by omega), up_n (by omega), up_n (by omega)]), (by rw [adv_n (by omega) (by omega), up_n (by omega), up_n (by omega)])⟩
theorem k_r8_bad1 {z n k zr zm o0 o1 o2 o3 kd fr to nu sg w : Int} (p1 : pPRT z n 8 k zr zm o0 o1 o2 o3 0 kd fr to nu sg w) (p2 : kd ≠ 3) : pAns z n (-1 * fr + -1) 1 := by
  obtain ⟨p, ⟨i0, S, hR, e0, rfl, rfl, e3, hz0, hz20, hm, rfl, rfl, rfl, rfl⟩, hT0⟩ := p1
  obtain ⟨kd', f', kw, v', w', hT, g0, g1, g2, g3, g4, g5, g6, g7⟩ := TokR_p hT0
  obtain ⟨t1, t2, t3, t4, t5, t6, t7, t8⟩ := Tok_p hT
  obtain ⟨h1, h2, h3, h4⟩ := Rch_I hR
  have h1' := h1
  unfold I1 at h1
  have hz : aAg zr S 200 72 := fun j j0 j1 => hz0 j j0 j1 (fun h => absurd h (by decide))
  exact ans_mk hR hT (F := _) (by
    rw [sA_8 e0]
    exact stNum_k (by omega)) (by omega) rfl
theorem k_r8_bad3 {z n k zr zm o0 o1 o2 o3 kd fr to nu sg w : Int} (p1 : pPRT z n 8 k zr zm o0 o1 o2 o3 0 kd fr to nu sg w) (p2 : 3 ≤ kd ∧ kd ≤ 3) (p3 : pWin nu 0 20 0) : pAns z n (-1 * fr + -1) 2 := by
  obtain ⟨p, ⟨i0, S, hR, e0, rfl, rfl, e3, hz0, hz20, hm, rfl, rfl, rfl, rfl⟩, hT0⟩ := p1
  obtain ⟨kd', f', kw, v', w', hT, g0, g1, g2, g3, g4, g5, g6, g7⟩ := TokR_p hT0
  obtain ⟨t1, t2, t3, t4, t5, t6, t7, t8⟩ := Tok_p hT
  obtain ⟨h1, h2, h3, h4⟩ := Rch_I hR
  have h1' := h1
  unfold I1 at h1
  have hz : aAg zr S 200 72 := fun j j0 j1 => hz0 j j0 j1 (fun h => absurd h (by decide))
  exact ans_mk hR hT (F := _) (by
    rw [sA_8 e0]
    exact stNum_v (by omega) (by rw [← g2 (by omega)]; exact iff1_f p3 rfl)) (by omega) rfl
theorem k_r11_ok {z n k zr zm o0 o1 o2 o3 kd fr to nu sg w zr2 h : Int} (p1 : pPRT z n 11 k zr zm o0 o1 o2 o3 0 kd fr to nu sg w) (p2 : 3 ≤ kd ∧ kd ≤ 3) (p3 : 0 ≤ nu ∧ nu ≤ 99) (p4 : pUpd zr2 zr (h + 26) nu) (p5 : pCtr zr 1 h) : pPR z n 12 to k zr2 zm o0 o1 o2 o3 0 := by
  obtain ⟨p, ⟨i0, S, hR, e0, rfl, rfl, e3, hz0, hz20, hm, rfl, rfl, rfl, rfl⟩, hT0⟩ := p1
  obtain ⟨kd', f', kw, v', w', hT, g0, g1, g2, g3, g4, g5, g6, g7⟩ := TokR_p hT0
  obtain ⟨t1, t2, t3, t4, t5, t6, t7, t8⟩ := Tok_p hT
  obtain ⟨h1, h2, h3, h4⟩ := Rch_I hR
  have h1' := h1
  unfold I1 at h1
  have hz : aAg zr S 200 72 := fun j j0 j1 => hz0 j j0 j1 (fun h => absurd h (by decide))
  have k3 : kd' = 3 := by omega
  have ev := g2 k3
  have hc := hz 1 (by decide) (by decide)
  change dcd (1 : Int).toNat zr = S 201 at hc
  have eh := p5.2
  change dcd (1 : Int).toNat zr = h at eh
  rw [hc] at eh
  subst eh
  have z2 := aAg_w (i' := 226 + S 201) (v' := v') hz p4 (by decide) (by omega) ev
  have st : stepA S kd' fr f' kw v' w' = .inl (adv (up S (226 + S 201) v') 12 f') := by
    rw [sA_11 e0]
    exact stNum_t k3 (by omega) (by omega)
  have e_0 : (adv (up S (226 + S 201) v') 12 f') 0 = 12 := by rw [adv_0]
  have e_200 : (adv (up S (226 + S 201) v') 12 f') 200 = S 200 := by rw [adv_n (by omega) (by omega), up_n (by omega)]
  have e_201 : (adv (up S (226 + S 201) v') 12 f') 201 = S 201 := by rw [adv_n (by omega) (by omega), up_n (by omega)]
  have e_202 : (adv (up S (226 + S 201) v') 12 f') 202 = S 202 := by rw [adv_n (by omega) (by omega), up_n (by omega)]
  have hm' : ∀ j : Int, kslot (adv (up S (226 + S 201) v') 12 f') j ∨ pend (adv (up S (226 + S 201) v') 12 f') j → 0 ≤ j → j < 19 → dcd j.toNat zm = c27 8 ((adv (up S (226 + S 201) v') 12 f') (100 + j)) := fun j jq j0 j1 => by
    unfold kslot pend at jq
    rw [e_0, e_200, e_201, e_202] at jq
    rw [adv_n (by omega) (by omega), up_n (by omega)]
    refine hm j ?_ j0 j1
    unfold kslot pend
    rw [e0]
    omega
  exact ⟨i0 + 1, _, ⟨S, kd', fr, f', kw, v', w', hR, hT, st⟩, adv_0, (by rw [adv_1]; exact (g1 (by omega)).symm), (by rw [adv_n (by omega) (by omega), up_n (by omega)]), (by rw [adv_n (by omega) (by omega), up_n (by omega)]; exact e3), (fun j j0 j1 _ => (aAg_a z2 (by decide)) j j0 j1), (fun h => absurd h (by decide)), hm', (by rw [adv_n (by omega) (by omega), up_n (by omega)]), (by rw [adv_n (by omega) (by omega), up_n (by omega)]), (by rw [adv_n (by omega) (by omega), up_n (by omega)]), (by rw [adv_n (by omega) (by omega), up_n (by omega)])⟩
theorem k_r11_bad1 {z n k zr zm o0 o1 o2 o3 kd fr to nu sg w : Int} (p1 : pPRT z n 11 k zr zm o0 o1 o2 o3 0 kd fr to nu sg w) (p2 : kd ≠ 3) : pAns z n (-1 * fr + -1) 1 := by
  obtain ⟨p, ⟨i0, S, hR, e0, rfl, rfl, e3, hz0, hz20, hm, rfl, rfl, rfl, rfl⟩, hT0⟩ := p1
  obtain ⟨kd', f', kw, v', w', hT, g0, g1, g2, g3, g4, g5, g6, g7⟩ := TokR_p hT0
  obtain ⟨t1, t2, t3, t4, t5, t6, t7, t8⟩ := Tok_p hT
  obtain ⟨h1, h2, h3, h4⟩ := Rch_I hR
  have h1' := h1
  unfold I1 at h1
  have hz : aAg zr S 200 72 := fun j j0 j1 => hz0 j j0 j1 (fun h => absurd h (by decide))
  exact ans_mk hR hT (F := _) (by
    rw [sA_11 e0]
    exact stNum_k (by omega)) (by omega) rfl
theorem k_r11_bad3 {z n k zr zm o0 o1 o2 o3 kd fr to nu sg w : Int} (p1 : pPRT z n 11 k zr zm o0 o1 o2 o3 0 kd fr to nu sg w) (p2 : 3 ≤ kd ∧ kd ≤ 3) (p3 : pWin nu 0 99 0) : pAns z n (-1 * fr + -1) 2 := by
  obtain ⟨p, ⟨i0, S, hR, e0, rfl, rfl, e3, hz0, hz20, hm, rfl, rfl, rfl, rfl⟩, hT0⟩ := p1
  obtain ⟨kd', f', kw, v', w', hT, g0, g1, g2, g3, g4, g5, g6, g7⟩ := TokR_p hT0
  obtain ⟨t1, t2, t3, t4, t5, t6, t7, t8⟩ := Tok_p hT
  obtain ⟨h1, h2, h3, h4⟩ := Rch_I hR
  have h1' := h1
  unfold I1 at h1
  have hz : aAg zr S 200 72 := fun j j0 j1 => hz0 j j0 j1 (fun h => absurd h (by decide))
  exact ans_mk hR hT (F := _) (by
    rw [sA_11 e0]
    exact stNum_v (by omega) (by rw [← g2 (by omega)]; exact iff1_f p3 rfl)) (by omega) rfl
end
