noncomputable section
/-! T3: rules (printed by wip/v5/gen/rules4.py) -/
theorem k_r0_many5 {z n k zr zm o0 o1 o2 o3 kd fr to nu sg w : Int} (p1 : pPRT z n 0 k zr zm o0 o1 o2 o3 0 kd fr to nu sg w) (p2 : pIsw kd w 5 1) (p3 : pCnt zr 1 8 1) : pAns z n (-1 * fr + -1) 4 := by
  obtain ⟨p, ⟨i0, S, hR, e0, rfl, rfl, e3, hz0, hz20, hm, rfl, rfl, rfl, rfl⟩, hT0⟩ := p1
  obtain ⟨kd', f', kw, v', w', hT, g0, g1, g2, g3, g5, g6, g7, g8⟩ := TokR_p hT0
  obtain ⟨h1, h2, h3, h4⟩ := Rch_I hR
  have bb := I1_b h1
  have hz : aAg zr S 200 72 := fun j j0 j1 => hz0 j j0 j1 (fun h => absurd h (by decide))
  have w5 := iff1_t p2 rfl
  have kd2 : kd' = 2 := by omega
  have kk : kw = 5 := ((g5 kd2).2.2 5 (by decide)).mpr w5.2
  have hc := hz 1 (by decide) (by decide)
  change dcd (1 : Int).toNat zr = S 201 at hc
  have hq := iff1_t p3.1 rfl
  rw [hc] at hq
  exact ans_mk hR hT (F := _) (by
    rw [sA_0 e0]
    exact st0_f5 (by omega) kk (by omega)) (by omega) rfl
theorem k_r0_n6 {z n k zr zm o0 o1 o2 o3 kd fr to nu sg w : Int} (p1 : pPRT z n 0 k zr zm o0 o1 o2 o3 0 kd fr to nu sg w) (p2 : pIsw kd w 6 1) (p3 : pCnt zr 2 6 0) : pPR z n 13 to k zr zm o0 o1 o2 o3 0 := by
  obtain ⟨p, ⟨i0, S, hR, e0, rfl, rfl, e3, hz0, hz20, hm, rfl, rfl, rfl, rfl⟩, hT0⟩ := p1
  obtain ⟨kd', f', kw, v', w', hT, g0, g1, g2, g3, g5, g6, g7, g8⟩ := TokR_p hT0
  obtain ⟨h1, h2, h3, h4⟩ := Rch_I hR
  have bb := I1_b h1
  have hz : aAg zr S 200 72 := fun j j0 j1 => hz0 j j0 j1 (fun h => absurd h (by decide))
  have w6 := iff1_t p2 rfl
  have kd2 : kd' = 2 := by omega
  have kk : kw = 6 := ((g5 kd2).2.2 6 (by decide)).mpr w6.2
  have hc := hz 2 (by decide) (by decide)
  change dcd (2 : Int).toNat zr = S 202 at hc
  have hq := iff1_f p3.1 rfl
  rw [hc] at hq
  have g1' := g1 (by omega)
  clear g1
  try clear g0 g2 g3
  have st : stepA S kd' fr f' kw v' w' = .inl (adv S 13 f') := by
    rw [sA_0 e0]
    exact st0_t6 (by omega) kk (by omega)
  have e_0 : (adv S 13 f') 0 = 13 := by rw [adv_0]
  have e_200 : (adv S 13 f') 200 = S 200 := by rw [adv_n (by omega) (by omega)]
  have e_201 : (adv S 13 f') 201 = S 201 := by rw [adv_n (by omega) (by omega)]
  have e_202 : (adv S 13 f') 202 = S 202 := by rw [adv_n (by omega) (by omega)]
  have hm' : ∀ j : Int, kslot (adv S 13 f') j ∨ pend (adv S 13 f') j → 0 ≤ j → j < 19 → dcd j.toNat zm = c27 8 ((adv S 13 f') (100 + j)) := fun j jq j0 j1 => by
    unfold kslot pend at jq
    rw [e_0, e_200, e_201, e_202] at jq
    rw [adv_n (by omega) (by omega)]
    refine hm j ?_ j0 j1
    unfold kslot pend
    rw [e0]
    omega
  exact ⟨i0 + 1, _, ⟨S, kd', fr, f', kw, v', w', hR, hT, st⟩, adv_0, (by rw [adv_1]; exact g1'.symm), (by rw [adv_n (by omega) (by omega)]), (by rw [adv_n (by omega) (by omega)]; exact e3), (fun j j0 j1 _ => (aAg_a hz (by decide)) j j0 j1), (fun h => absurd h (by decide)), hm', (by rw [adv_n (by omega) (by omega)]), (by rw [adv_n (by omega) (by omega)]), (by rw [adv_n (by omega) (by omega)]), (by rw [adv_n (by omega) (by omega)])⟩
theorem k_r0_many6 {z n k zr zm o0 o1 o2 o3 kd fr to nu sg w : Int} (p1 : pPRT z n 0 k zr zm o0 o1 o2 o3 0 kd fr to nu sg w) (p2 : pIsw kd w 6 1) (p3 : pCnt zr 2 6 1) : pAns z n (-1 * fr + -1) 4 := by
  obtain ⟨p, ⟨i0, S, hR, e0, rfl, rfl, e3, hz0, hz20, hm, rfl, rfl, rfl, rfl⟩, hT0⟩ := p1
  obtain ⟨kd', f', kw, v', w', hT, g0, g1, g2, g3, g5, g6, g7, g8⟩ := TokR_p hT0
  obtain ⟨h1, h2, h3, h4⟩ := Rch_I hR
  have bb := I1_b h1
  have hz : aAg zr S 200 72 := fun j j0 j1 => hz0 j j0 j1 (fun h => absurd h (by decide))
  have w6 := iff1_t p2 rfl
  have kd2 : kd' = 2 := by omega
  have kk : kw = 6 := ((g5 kd2).2.2 6 (by decide)).mpr w6.2
  have hc := hz 2 (by decide) (by decide)
  change dcd (2 : Int).toNat zr = S 202 at hc
  have hq := iff1_t p3.1 rfl
  rw [hc] at hq
  exact ans_mk hR hT (F := _) (by
    rw [sA_0 e0]
    exact st0_f6 (by omega) kk (by omega)) (by omega) rfl
theorem k_r0_k7 {z n k zr zm o0 o1 o2 o3 kd fr to nu sg w : Int} (p1 : pPRT z n 0 k zr zm o0 o1 o2 o3 0 kd fr to nu sg w) (p2 : pIsw kd w 7 1) : pPR z n 16 to k zr zm o0 o1 o2 o3 0 := by
  obtain ⟨p, ⟨i0, S, hR, e0, rfl, rfl, e3, hz0, hz20, hm, rfl, rfl, rfl, rfl⟩, hT0⟩ := p1
  obtain ⟨kd', f', kw, v', w', hT, g0, g1, g2, g3, g5, g6, g7, g8⟩ := TokR_p hT0
  obtain ⟨h1, h2, h3, h4⟩ := Rch_I hR
  have bb := I1_b h1
  have hz : aAg zr S 200 72 := fun j j0 j1 => hz0 j j0 j1 (fun h => absurd h (by decide))
  have w7 := iff1_t p2 rfl
  have kd2 : kd' = 2 := by omega
  have kk : kw = 7 := ((g5 kd2).2.2 7 (by decide)).mpr w7.2
  have g1' := g1 (by omega)
  clear g1
  try clear g0 g2 g3
  have st : stepA S kd' fr f' kw v' w' = .inl (adv S 16 f') := by
    rw [sA_0 e0]
    exact st0_t7 (by omega) kk
  have e_0 : (adv S 16 f') 0 = 16 := by rw [adv_0]
  have e_200 : (adv S 16 f') 200 = S 200 := by rw [adv_n (by omega) (by omega)]
  have e_201 : (adv S 16 f') 201 = S 201 := by rw [adv_n (by omega) (by omega)]
  have e_202 : (adv S 16 f') 202 = S 202 := by rw [adv_n (by omega) (by omega)]
  have hm' : ∀ j : Int, kslot (adv S 16 f') j ∨ pend (adv S 16 f') j → 0 ≤ j → j < 19 → dcd j.toNat zm = c27 8 ((adv S 16 f') (100 + j)) := fun j jq j0 j1 => by
    unfold kslot pend at jq
    rw [e_0, e_200, e_201, e_202] at jq
    rw [adv_n (by omega) (by omega)]
    refine hm j ?_ j0 j1
    unfold kslot pend
    rw [e0]
    omega
  exact ⟨i0 + 1, _, ⟨S, kd', fr, f', kw, v', w', hR, hT, st⟩, adv_0, (by rw [adv_1]; exact g1'.symm), (by rw [adv_n (by omega) (by omega)]), (by rw [adv_n (by omega) (by omega)]; exact e3), (fun j j0 j1 _ => (aAg_a hz (by decide)) j j0 j1), (fun h => absurd h (by decide)), hm', (by rw [adv_n (by omega) (by omega)]), (by rw [adv_n (by omega) (by omega)]), (by rw [adv_n (by omega) (by omega)]), (by rw [adv_n (by omega) (by omega)])⟩
theorem k_r0_k8 {z n k zr zm o0 o1 o2 o3 kd fr to nu sg w : Int} (p1 : pPRT z n 0 k zr zm o0 o1 o2 o3 0 kd fr to nu sg w) (p2 : pIsw kd w 8 1) : pPR z n 18 to k zr zm o0 o1 o2 o3 0 := by
  obtain ⟨p, ⟨i0, S, hR, e0, rfl, rfl, e3, hz0, hz20, hm, rfl, rfl, rfl, rfl⟩, hT0⟩ := p1
  obtain ⟨kd', f', kw, v', w', hT, g0, g1, g2, g3, g5, g6, g7, g8⟩ := TokR_p hT0
  obtain ⟨h1, h2, h3, h4⟩ := Rch_I hR
  have bb := I1_b h1
  have hz : aAg zr S 200 72 := fun j j0 j1 => hz0 j j0 j1 (fun h => absurd h (by decide))
  have w8 := iff1_t p2 rfl
  have kd2 : kd' = 2 := by omega
  have kk : kw = 8 := ((g5 kd2).2.2 8 (by decide)).mpr w8.2
  have g1' := g1 (by omega)
  clear g1
  try clear g0 g2 g3
  have st : stepA S kd' fr f' kw v' w' = .inl (adv S 18 f') := by
    rw [sA_0 e0]
    exact st0_t8 (by omega) kk
  have e_0 : (adv S 18 f') 0 = 18 := by rw [adv_0]
  have e_200 : (adv S 18 f') 200 = S 200 := by rw [adv_n (by omega) (by omega)]
  have e_201 : (adv S 18 f') 201 = S 201 := by rw [adv_n (by omega) (by omega)]
  have e_202 : (adv S 18 f') 202 = S 202 := by rw [adv_n (by omega) (by omega)]
  have hm' : ∀ j : Int, kslot (adv S 18 f') j ∨ pend (adv S 18 f') j → 0 ≤ j → j < 19 → dcd j.toNat zm = c27 8 ((adv S 18 f') (100 + j)) := fun j jq j0 j1 => by
    unfold kslot pend at jq
    rw [e_0, e_200, e_201, e_202] at jq
    rw [adv_n (by omega) (by omega)]
    refine hm j ?_ j0 j1
    unfold kslot pend
    rw [e0]
    omega
  exact ⟨i0 + 1, _, ⟨S, kd', fr, f', kw, v', w', hR, hT, st⟩, adv_0, (by rw [adv_1]; exact g1'.symm), (by rw [adv_n (by omega) (by omega)]), (by rw [adv_n (by omega) (by omega)]; exact e3), (fun j j0 j1 _ => (aAg_a hz (by decide)) j j0 j1), (fun h => absurd h (by decide)), hm', (by rw [adv_n (by omega) (by omega)]), (by rw [adv_n (by omega) (by omega)]), (by rw [adv_n (by omega) (by omega)]), (by rw [adv_n (by omega) (by omega)])⟩
theorem k_r1_ok {z n k zr zm o0 o1 o2 o3 kd fr to nu sg w zr2 : Int} (p1 : pPRT z n 1 k zr zm o0 o1 o2 o3 0 kd fr to nu sg w) (p2 : 3 ≤ kd ∧ kd ≤ 3) (p3 : 0 ≤ nu ∧ nu ≤ 99) (p4 : pUpd zr2 zr 7 nu) : pPR z n 30 to k zr2 zm o0 o1 o2 o3 0 := by
  obtain ⟨p, ⟨i0, S, hR, e0, rfl, rfl, e3, hz0, hz20, hm, rfl, rfl, rfl, rfl⟩, hT0⟩ := p1
  obtain ⟨kd', f', kw, v', w', hT, g0, g1, g2, g3, g5, g6, g7, g8⟩ := TokR_p hT0
  obtain ⟨h1, h2, h3, h4⟩ := Rch_I hR
  have bb := I1_b h1
  have hz : aAg zr S 200 72 := fun j j0 j1 => hz0 j j0 j1 (fun h => absurd h (by decide))
  have k3 : kd' = 3 := by omega
  have ev := g2 k3
  clear g0 g2 g3 g5 g6
  have z2 := aAg_w (i' := 207) (v' := v') hz p4 (by decide) (by omega) ev
  have g1' := g1 (by omega)
  clear g1
  try clear g0 g2 g3
  have st : stepA S kd' fr f' kw v' w' = .inl (adv (up S 207 v') 30 f') := by
    rw [sA_1 e0]
    exact stNum_t k3 (by omega) (by omega)
  have e_0 : (adv (up S 207 v') 30 f') 0 = 30 := by rw [adv_0]
  have e_200 : (adv (up S 207 v') 30 f') 200 = S 200 := by rw [adv_n (by omega) (by omega), up_n (by omega)]
  have e_201 : (adv (up S 207 v') 30 f') 201 = S 201 := by rw [adv_n (by omega) (by omega), up_n (by omega)]
  have e_202 : (adv (up S 207 v') 30 f') 202 = S 202 := by rw [adv_n (by omega) (by omega), up_n (by omega)]
  have hm' : ∀ j : Int, kslot (adv (up S 207 v') 30 f') j ∨ pend (adv (up S 207 v') 30 f') j → 0 ≤ j → j < 19 → dcd j.toNat zm = c27 8 ((adv (up S 207 v') 30 f') (100 + j)) := fun j jq j0 j1 => by
    unfold kslot pend at jq
    rw [e_0, e_200, e_201, e_202] at jq
    rw [adv_n (by omega) (by omega), up_n (by omega)]
    refine hm j ?_ j0 j1
    unfold kslot pend
    rw [e0]
    omega
  exact ⟨i0 + 1, _, ⟨S, kd', fr, f', kw, v', w', hR, hT, st⟩, adv_0, (by rw [adv_1]; exact g1'.symm), (by rw [adv_n (by omega) (by omega), up_n (by omega)]), (by rw [adv_n (by omega) (by omega), up_n (by omega)]; exact e3), (fun j j0 j1 _ => (aAg_a z2 (by decide)) j j0 j1), (fun h => absurd h (by decide)), hm', (by rw [adv_n (by omega) (by omega), up_n (by omega)]), (by rw [adv_n (by omega) (by omega), up_n (by omega)]), (by rw [adv_n (by omega) (by omega), up_n (by omega)]), (by rw [adv_n (by omega) (by omega), up_n (by omega)])⟩
theorem k_r1_bad1 {z n k zr zm o0 o1 o2 o3 kd fr to nu sg w : Int} (p1 : pPRT z n 1 k zr zm o0 o1 o2 o3 0 kd fr to nu sg w) (p2 : kd ≠ 3) : pAns z n (-1 * fr + -1) 1 := by
  obtain ⟨p, ⟨i0, S, hR, e0, rfl, rfl, e3, hz0, hz20, hm, rfl, rfl, rfl, rfl⟩, hT0⟩ := p1
  obtain ⟨kd', f', kw, v', w', hT, g0, g1, g2, g3, g5, g6, g7, g8⟩ := TokR_p hT0
  obtain ⟨h1, h2, h3, h4⟩ := Rch_I hR
  have bb := I1_b h1
  have hz : aAg zr S 200 72 := fun j j0 j1 => hz0 j j0 j1 (fun h => absurd h (by decide))
  exact ans_mk hR hT (F := _) (by
    rw [sA_1 e0]
    exact stNum_k (by omega)) (by omega) rfl
theorem k_r1_bad3 {z n k zr zm o0 o1 o2 o3 kd fr to nu sg w : Int} (p1 : pPRT z n 1 k zr zm o0 o1 o2 o3 0 kd fr to nu sg w) (p2 : 3 ≤ kd ∧ kd ≤ 3) (p3 : pWin nu 0 99 0) : pAns z n (-1 * fr + -1) 2 := by
  obtain ⟨p, ⟨i0, S, hR, e0, rfl, rfl, e3, hz0, hz20, hm, rfl, rfl, rfl, rfl⟩, hT0⟩ := p1
  obtain ⟨kd', f', kw, v', w', hT, g0, g1, g2, g3, g5, g6, g7, g8⟩ := TokR_p hT0
  obtain ⟨h1, h2, h3, h4⟩ := Rch_I hR
  have bb := I1_b h1
  have hz : aAg zr S 200 72 := fun j j0 j1 => hz0 j j0 j1 (fun h => absurd h (by decide))
  exact ans_mk hR hT (F := _) (by
    rw [sA_1 e0]
    exact stNum_v (by omega) (by rw [← g2 (by omega)]; exact iff1_f p3 rfl)) (by omega) rfl
theorem k_r2_ok {z n k zr zm o0 o1 o2 o3 kd fr to nu sg w zr2 : Int} (p1 : pPRT z n 2 k zr zm o0 o1 o2 o3 0 kd fr to nu sg w) (p2 : 3 ≤ kd ∧ kd ≤ 3) (p3 : 1 ≤ nu ∧ nu ≤ 30) (p4 : pUpd zr2 zr 3 nu) : pPR z n 3 to k zr2 zm o0 o1 o2 o3 0 := by
  obtain ⟨p, ⟨i0, S, hR, e0, rfl, rfl, e3, hz0, hz20, hm, rfl, rfl, rfl, rfl⟩, hT0⟩ := p1
  obtain ⟨kd', f', kw, v', w', hT, g0, g1, g2, g3, g5, g6, g7, g8⟩ := TokR_p hT0
  obtain ⟨h1, h2, h3, h4⟩ := Rch_I hR
  have bb := I1_b h1
  have hz : aAg zr S 200 72 := fun j j0 j1 => hz0 j j0 j1 (fun h => absurd h (by decide))
  have k3 : kd' = 3 := by omega
  have ev := g2 k3
  clear g0 g2 g3 g5 g6
  have z2 := aAg_w (i' := 203) (v' := v') hz p4 (by decide) (by omega) ev
  have g1' := g1 (by omega)
  clear g1
  try clear g0 g2 g3
  have st : stepA S kd' fr f' kw v' w' = .inl (adv (up S 203 v') 3 f') := by
    rw [sA_2 e0]
    exact stNum_t k3 (by omega) (by omega)
  have e_0 : (adv (up S 203 v') 3 f') 0 = 3 := by rw [adv_0]
  have e_200 : (adv (up S 203 v') 3 f') 200 = S 200 := by rw [adv_n (by omega) (by omega), up_n (by omega)]
  have e_201 : (adv (up S 203 v') 3 f') 201 = S 201 := by rw [adv_n (by omega) (by omega), up_n (by omega)]
  have e_202 : (adv (up S 203 v') 3 f') 202 = S 202 := by rw [adv_n (by omega) (by omega), up_n (by omega)]
  have hm' : ∀ j : Int, kslot (adv (up S 203 v') 3 f') j ∨ pend (adv (up S 203 v') 3 f') j → 0 ≤ j → j < 19 → dcd j.toNat zm = c27 8 ((adv (up S 203 v') 3 f') (100 + j)) := fun j jq j0 j1 => by
    unfold kslot pend at jq
    rw [e_0, e_200, e_201, e_202] at jq
    rw [adv_n (by omega) (by omega), up_n (by omega)]
    refine hm j ?_ j0 j1
    unfold kslot pend
    rw [e0]
    omega
  exact ⟨i0 + 1, _, ⟨S, kd', fr, f', kw, v', w', hR, hT, st⟩, adv_0, (by rw [adv_1]; exact g1'.symm), (by rw [adv_n (by omega) (by omega), up_n (by omega)]), (by rw [adv_n (by omega) (by omega), up_n (by omega)]; exact e3), (fun j j0 j1 _ => (aAg_a z2 (by decide)) j j0 j1), (fun h => absurd h (by decide)), hm', (by rw [adv_n (by omega) (by omega), up_n (by omega)]), (by rw [adv_n (by omega) (by omega), up_n (by omega)]), (by rw [adv_n (by omega) (by omega), up_n (by omega)]), (by rw [adv_n (by omega) (by omega), up_n (by omega)])⟩
theorem k_r2_bad1 {z n k zr zm o0 o1 o2 o3 kd fr to nu sg w : Int} (p1 : pPRT z n 2 k zr zm o0 o1 o2 o3 0 kd fr to nu sg w) (p2 : kd ≠ 3) : pAns z n (-1 * fr + -1) 1 := by
  obtain ⟨p, ⟨i0, S, hR, e0, rfl, rfl, e3, hz0, hz20, hm, rfl, rfl, rfl, rfl⟩, hT0⟩ := p1
  obtain ⟨kd', f', kw, v', w', hT, g0, g1, g2, g3, g5, g6, g7, g8⟩ := TokR_p hT0
  obtain ⟨h1, h2, h3, h4⟩ := Rch_I hR
  have bb := I1_b h1
  have hz : aAg zr S 200 72 := fun j j0 j1 => hz0 j j0 j1 (fun h => absurd h (by decide))
  exact ans_mk hR hT (F := _) (by
    rw [sA_2 e0]
    exact stNum_k (by omega)) (by omega) rfl
theorem k_r2_bad3 {z n k zr zm o0 o1 o2 o3 kd fr to nu sg w : Int} (p1 : pPRT z n 2 k zr zm o0 o1 o2 o3 0 kd fr to nu sg w) (p2 : 3 ≤ kd ∧ kd ≤ 3) (p3 : pWin nu 1 30 0) : pAns z n (-1 * fr + -1) 2 := by
  obtain ⟨p, ⟨i0, S, hR, e0, rfl, rfl, e3, hz0, hz20, hm, rfl, rfl, rfl, rfl⟩, hT0⟩ := p1
  obtain ⟨kd', f', kw, v', w', hT, g0, g1, g2, g3, g5, g6, g7, g8⟩ := TokR_p hT0
  obtain ⟨h1, h2, h3, h4⟩ := Rch_I hR
  have bb := I1_b h1
  have hz : aAg zr S 200 72 := fun j j0 j1 => hz0 j j0 j1 (fun h => absurd h (by decide))
  exact ans_mk hR hT (F := _) (by
    rw [sA_2 e0]
    exact stNum_v (by omega) (by rw [← g2 (by omega)]; exact iff1_f p3 rfl)) (by omega) rfl
theorem k_r3_ok {z n k zr zm o0 o1 o2 o3 kd fr to nu sg w zr2 : Int} (p1 : pPRT z n 3 k zr zm o0 o1 o2 o3 0 kd fr to nu sg w) (p2 : 3 ≤ kd ∧ kd ≤ 3) (p3 : 0 ≤ nu ∧ nu ≤ 9) (p4 : pUpd zr2 zr 4 nu) : pPR z n 30 to k zr2 zm o0 o1 o2 o3 0 := by
  obtain ⟨p, ⟨i0, S, hR, e0, rfl, rfl, e3, hz0, hz20, hm, rfl, rfl, rfl, rfl⟩, hT0⟩ := p1
  obtain ⟨kd', f', kw, v', w', hT, g0, g1, g2, g3, g5, g6, g7, g8⟩ := TokR_p hT0
  obtain ⟨h1, h2, h3, h4⟩ := Rch_I hR
  have bb := I1_b h1
  have hz : aAg zr S 200 72 := fun j j0 j1 => hz0 j j0 j1 (fun h => absurd h (by decide))
  have k3 : kd' = 3 := by omega
  have ev := g2 k3
  clear g0 g2 g3 g5 g6
  have z2 := aAg_w (i' := 204) (v' := v') hz p4 (by decide) (by omega) ev
  have g1' := g1 (by omega)
  clear g1
  try clear g0 g2 g3
  have st : stepA S kd' fr f' kw v' w' = .inl (adv (up S 204 v') 30 f') := by
    rw [sA_3 e0]
    exact stNum_t k3 (by omega) (by omega)
  have e_0 : (adv (up S 204 v') 30 f') 0 = 30 := by rw [adv_0]
  have e_200 : (adv (up S 204 v') 30 f') 200 = S 200 := by rw [adv_n (by omega) (by omega), up_n (by omega)]
  have e_201 : (adv (up S 204 v') 30 f') 201 = S 201 := by rw [adv_n (by omega) (by omega), up_n (by omega)]
  have e_202 : (adv (up S 204 v') 30 f') 202 = S 202 := by rw [adv_n (by omega) (by omega), up_n (by omega)]
  have hm' : ∀ j : Int, kslot (adv (up S 204 v') 30 f') j ∨ pend (adv (up S 204 v') 30 f') j → 0 ≤ j → j < 19 → dcd j.toNat zm = c27 8 ((adv (up S 204 v') 30 f') (100 + j)) := fun j jq j0 j1 => by
    unfold kslot pend at jq
    rw [e_0, e_200, e_201, e_202] at jq
    rw [adv_n (by omega) (by omega), up_n (by omega)]
    refine hm j ?_ j0 j1
    unfold kslot pend
    rw [e0]
    omega
  exact ⟨i0 + 1, _, ⟨S, kd', fr, f', kw, v', w', hR, hT, st⟩, adv_0, (by rw [adv_1]; exact g1'.symm), (by rw [adv_n (by omega) (by omega), up_n (by omega)]), (by rw [adv_n (by omega) (by omega), up_n (by omega)]; exact e3), (fun j j0 j1 _ => (aAg_a z2 (by decide)) j j0 j1), (fun h => absurd h (by decide)), hm', (by rw [adv_n (by omega) (by omega), up_n (by omega)]), (by rw [adv_n (by omega) (by omega), up_n (by omega)]), (by rw [adv_n (by omega) (by omega), up_n (by omega)]), (by rw [adv_n (by omega) (by omega), up_n (by omega)])⟩
theorem k_r3_bad1 {z n k zr zm o0 o1 o2 o3 kd fr to nu sg w : Int} (p1 : pPRT z n 3 k zr zm o0 o1 o2 o3 0 kd fr to nu sg w) (p2 : kd ≠ 3) : pAns z n (-1 * fr + -1) 1 := by
  obtain ⟨p, ⟨i0, S, hR, e0, rfl, rfl, e3, hz0, hz20, hm, rfl, rfl, rfl, rfl⟩, hT0⟩ := p1
  obtain ⟨kd', f', kw, v', w', hT, g0, g1, g2, g3, g5, g6, g7, g8⟩ := TokR_p hT0
  obtain ⟨h1, h2, h3, h4⟩ := Rch_I hR
  have bb := I1_b h1
  have hz : aAg zr S 200 72 := fun j j0 j1 => hz0 j j0 j1 (fun h => absurd h (by decide))
  exact ans_mk hR hT (F := _) (by
    rw [sA_3 e0]
    exact stNum_k (by omega)) (by omega) rfl
theorem k_r3_bad3 {z n k zr zm o0 o1 o2 o3 kd fr to nu sg w : Int} (p1 : pPRT z n 3 k zr zm o0 o1 o2 o3 0 kd fr to nu sg w) (p2 : 3 ≤ kd ∧ kd ≤ 3) (p3 : pWin nu 0 9 0) : pAns z n (-1 * fr + -1) 2 := by
  obtain ⟨p, ⟨i0, S, hR, e0, rfl, rfl, e3, hz0, hz20, hm, rfl, rfl, rfl, rfl⟩, hT0⟩ := p1
  obtain ⟨kd', f', kw, v', w', hT, g0, g1, g2, g3, g5, g6, g7, g8⟩ := TokR_p hT0
  obtain ⟨h1, h2, h3, h4⟩ := Rch_I hR
  have bb := I1_b h1
  have hz : aAg zr S 200 72 := fun j j0 j1 => hz0 j j0 j1 (fun h => absurd h (by decide))
  exact ans_mk hR hT (F := _) (by
    rw [sA_3 e0]
    exact stNum_v (by omega) (by rw [← g2 (by omega)]; exact iff1_f p3 rfl)) (by omega) rfl
end
