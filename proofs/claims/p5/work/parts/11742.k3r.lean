noncomputable section
/-! T3: rules (printed by wip/v5/gen/rules4.py) -/
theorem k_r4_ok {z n k zr zm o0 o1 o2 o3 kd fr to nu sg w zr2 : Int} (p1 : pPRT z n 4 k zr zm o0 o1 o2 o3 0 kd fr to nu sg w) (p2 : 3 ≤ kd ∧ kd ≤ 3) (p3 : 0 ≤ nu ∧ nu ≤ 99) (p4 : pUpd zr2 zr 5 nu) : pPR z n 30 to k zr2 zm o0 o1 o2 o3 0 := by
  obtain ⟨p, ⟨i0, S, hR, e0, rfl, rfl, e3, hz0, hz20, hm, rfl, rfl, rfl, rfl⟩, hT0⟩ := p1
  obtain ⟨kd', f', kw, v', w', hT, g0, g1, g2, g3, g5, g6, g7, g8⟩ := TokR_p hT0
  obtain ⟨h1, h2, h3, h4⟩ := Rch_I hR
  have bb := I1_b h1
  have hz : aAg zr S 200 72 := fun j j0 j1 => hz0 j j0 j1 (fun h => absurd h (by decide))
  have k3 : kd' = 3 := by omega
  have ev := g2 k3
  clear g0 g2 g3 g5 g6
  have z2 := aAg_w (i' := 205) (v' := v') hz p4 (by decide) (by omega) ev
  have g1' := g1 (by omega)
  clear g1
  try clear g0 g2 g3
  have st : stepA S kd' fr f' kw v' w' = .inl (adv (up S 205 v') 30 f') := by
    rw [sA_4 e0]
    exact stNum_t k3 (by omega) (by omega)
  have e_0 : (adv (up S 205 v') 30 f') 0 = 30 := by rw [adv_0]
  have e_200 : (adv (up S 205 v') 30 f') 200 = S 200 := by rw [adv_n (by omega) (by omega), up_n (by omega)]
  have e_201 : (adv (up S 205 v') 30 f') 201 = S 201 := by rw [adv_n (by omega) (by omega), up_n (by omega)]
  have e_202 : (adv (up S 205 v') 30 f') 202 = S 202 := by rw [adv_n (by omega) (by omega), up_n (by omega)]
  have hm' : ∀ j : Int, kslot (adv (up S 205 v') 30 f') j ∨ pend (adv (up S 205 v') 30 f') j → 0 ≤ j → j < 19 → dcd j.toNat zm = c27 8 ((adv (up S 205 v') 30 f') (100 + j)) := fun j jq j0 j1 => by
    unfold kslot pend at jq
    rw [e_0, e_200, e_201, e_202] at jq
    rw [adv_n (by omega) (by omega), up_n (by omega)]
    refine hm j ?_ j0 j1
    unfold kslot pend
    rw [e0]
    omega
  exact ⟨i0 + 1, _, ⟨S, kd', fr, f', kw, v', w', hR, hT, st⟩, adv_0, (by rw [adv_1]; exact g1'.symm), (by rw [adv_n (by omega) (by omega), up_n (by omega)]), (by rw [adv_n (by omega) (by omega), up_n (by omega)]; exact e3), (fun j j0 j1 _ => (aAg_a z2 (by decide)) j j0 j1), (fun h => absurd h (by decide)), hm', (by rw [adv_n (by omega) (by omega), up_n (by omega)]), (by rw [adv_n (by omega) (by omega), up_n (by omega)]), (by rw [adv_n (by omega) (by omega), up_n (by omega)]), (by rw [adv_n (by omega) (by omega), up_n (by omega)])⟩
theorem k_r4_bad1 {z n k zr zm o0 o1 o2 o3 kd fr to nu sg w : Int} (p1 : pPRT z n 4 k zr zm o0 o1 o2 o3 0 kd fr to nu sg w) (p2 : kd ≠ 3) : pAns z n (-1 * fr + -1) 1 := by
  obtain ⟨p, ⟨i0, S, hR, e0, rfl, rfl, e3, hz0, hz20, hm, rfl, rfl, rfl, rfl⟩, hT0⟩ := p1
  obtain ⟨kd', f', kw, v', w', hT, g0, g1, g2, g3, g5, g6, g7, g8⟩ := TokR_p hT0
  obtain ⟨h1, h2, h3, h4⟩ := Rch_I hR
  have bb := I1_b h1
  have hz : aAg zr S 200 72 := fun j j0 j1 => hz0 j j0 j1 (fun h => absurd h (by decide))
  exact ans_mk hR hT (F := _) (by
    rw [sA_4 e0]
    exact stNum_k (by omega)) (by omega) rfl
theorem k_r4_bad3 {z n k zr zm o0 o1 o2 o3 kd fr to nu sg w : Int} (p1 : pPRT z n 4 k zr zm o0 o1 o2 o3 0 kd fr to nu sg w) (p2 : 3 ≤ kd ∧ kd ≤ 3) (p3 : pWin nu 0 99 0) : pAns z n (-1 * fr + -1) 2 := by
  obtain ⟨p, ⟨i0, S, hR, e0, rfl, rfl, e3, hz0, hz20, hm, rfl, rfl, rfl, rfl⟩, hT0⟩ := p1
  obtain ⟨kd', f', kw, v', w', hT, g0, g1, g2, g3, g5, g6, g7, g8⟩ := TokR_p hT0
  obtain ⟨h1, h2, h3, h4⟩ := Rch_I hR
  have bb := I1_b h1
  have hz : aAg zr S 200 72 := fun j j0 j1 => hz0 j j0 j1 (fun h => absurd h (by decide))
  exact ans_mk hR hT (F := _) (by
    rw [sA_4 e0]
    exact stNum_v (by omega) (by rw [← g2 (by omega)]; exact iff1_f p3 rfl)) (by omega) rfl
theorem k_r5_ok {z n k zr zm o0 o1 o2 o3 kd fr to nu sg w zr2 : Int} (p1 : pPRT z n 5 k zr zm o0 o1 o2 o3 0 kd fr to nu sg w) (p2 : 3 ≤ kd ∧ kd ≤ 3) (p3 : 0 ≤ nu ∧ nu ≤ 12) (p4 : pUpd zr2 zr 6 nu) : pPR z n 30 to k zr2 zm o0 o1 o2 o3 0 := by
  obtain ⟨p, ⟨i0, S, hR, e0, rfl, rfl, e3, hz0, hz20, hm, rfl, rfl, rfl, rfl⟩, hT0⟩ := p1
  obtain ⟨kd', f', kw, v', w', hT, g0, g1, g2, g3, g5, g6, g7, g8⟩ := TokR_p hT0
  obtain ⟨h1, h2, h3, h4⟩ := Rch_I hR
  have bb := I1_b h1
  have hz : aAg zr S 200 72 := fun j j0 j1 => hz0 j j0 j1 (fun h => absurd h (by decide))
  have k3 : kd' = 3 := by omega
  have ev := g2 k3
  clear g0 g2 g3 g5 g6
  have z2 := aAg_w (i' := 206) (v' := v') hz p4 (by decide) (by omega) ev
  have g1' := g1 (by omega)
  clear g1
  try clear g0 g2 g3
  have st : stepA S kd' fr f' kw v' w' = .inl (adv (up S 206 v') 30 f') := by
    rw [sA_5 e0]
    exact stNum_t k3 (by omega) (by omega)
  have e_0 : (adv (up S 206 v') 30 f') 0 = 30 := by rw [adv_0]
  have e_200 : (adv (up S 206 v') 30 f') 200 = S 200 := by rw [adv_n (by omega) (by omega), up_n (by omega)]
  have e_201 : (adv (up S 206 v') 30 f') 201 = S 201 := by rw [adv_n (by omega) (by omega), up_n (by omega)]
  have e_202 : (adv (up S 206 v') 30 f') 202 = S 202 := by rw [adv_n (by omega) (by omega), up_n (by omega)]
  have hm' : ∀ j : Int, kslot (adv (up S 206 v') 30 f') j ∨ pend (adv (up S 206 v') 30 f') j → 0 ≤ j → j < 19 → dcd j.toNat zm = c27 8 ((adv (up S 206 v') 30 f') (100 + j)) := fun j jq j0 j1 => by
    unfold kslot pend at jq
    rw [e_0, e_200, e_201, e_202] at jq
    rw [adv_n (by omega) (by omega), up_n (by omega)]
    refine hm j ?_ j0 j1
    unfold kslot pend
    rw [e0]
    omega
  exact ⟨i0 + 1, _, ⟨S, kd', fr, f', kw, v', w', hR, hT, st⟩, adv_0, (by rw [adv_1]; exact g1'.symm), (by rw [adv_n (by omega) (by omega), up_n (by omega)]), (by rw [adv_n (by omega) (by omega), up_n (by omega)]; exact e3), (fun j j0 j1 _ => (aAg_a z2 (by decide)) j j0 j1), (fun h => absurd h (by decide)), hm', (by rw [adv_n (by omega) (by omega), up_n (by omega)]), (by rw [adv_n (by omega) (by omega), up_n (by omega)]), (by rw [adv_n (by omega) (by omega), up_n (by omega)]), (by rw [adv_n (by omega) (by omega), up_n (by omega)])⟩
theorem k_r5_bad1 {z n k zr zm o0 o1 o2 o3 kd fr to nu sg w : Int} (p1 : pPRT z n 5 k zr zm o0 o1 o2 o3 0 kd fr to nu sg w) (p2 : kd ≠ 3) : pAns z n (-1 * fr + -1) 1 := by
  obtain ⟨p, ⟨i0, S, hR, e0, rfl, rfl, e3, hz0, hz20, hm, rfl, rfl, rfl, rfl⟩, hT0⟩ := p1
  obtain ⟨kd', f', kw, v', w', hT, g0, g1, g2, g3, g5, g6, g7, g8⟩ := TokR_p hT0
  obtain ⟨h1, h2, h3, h4⟩ := Rch_I hR
  have bb := I1_b h1
  have hz : aAg zr S 200 72 := fun j j0 j1 => hz0 j j0 j1 (fun h => absurd h (by decide))
  exact ans_mk hR hT (F := _) (by
    rw [sA_5 e0]
    exact stNum_k (by omega)) (by omega) rfl
theorem k_r5_bad3 {z n k zr zm o0 o1 o2 o3 kd fr to nu sg w : Int} (p1 : pPRT z n 5 k zr zm o0 o1 o2 o3 0 kd fr to nu sg w) (p2 : 3 ≤ kd ∧ kd ≤ 3) (p3 : pWin nu 0 12 0) : pAns z n (-1 * fr + -1) 2 := by
  obtain ⟨p, ⟨i0, S, hR, e0, rfl, rfl, e3, hz0, hz20, hm, rfl, rfl, rfl, rfl⟩, hT0⟩ := p1
  obtain ⟨kd', f', kw, v', w', hT, g0, g1, g2, g3, g5, g6, g7, g8⟩ := TokR_p hT0
  obtain ⟨h1, h2, h3, h4⟩ := Rch_I hR
  have bb := I1_b h1
  have hz : aAg zr S 200 72 := fun j j0 j1 => hz0 j j0 j1 (fun h => absurd h (by decide))
  exact ans_mk hR hT (F := _) (by
    rw [sA_5 e0]
    exact stNum_v (by omega) (by rw [← g2 (by omega)]; exact iff1_f p3 rfl)) (by omega) rfl
theorem k_r7_ok {z n k zr zm o0 o1 o2 o3 kd fr to nu sg w zr2 h : Int} (p1 : pPRT z n 7 k zr zm o0 o1 o2 o3 0 kd fr to nu sg w) (p2 : 3 ≤ kd ∧ kd ≤ 3) (p3 : 0 ≤ nu ∧ nu ≤ 20) (p4 : pUpd zr2 zr (h + 8) nu) (p5 : pCtr zr 0 h) : pPR z n 8 to k zr2 zm o0 o1 o2 o3 0 := by
  obtain ⟨p, ⟨i0, S, hR, e0, rfl, rfl, e3, hz0, hz20, hm, rfl, rfl, rfl, rfl⟩, hT0⟩ := p1
  obtain ⟨kd', f', kw, v', w', hT, g0, g1, g2, g3, g5, g6, g7, g8⟩ := TokR_p hT0
  obtain ⟨h1, h2, h3, h4⟩ := Rch_I hR
  have bb := I1_b h1
  have hz : aAg zr S 200 72 := fun j j0 j1 => hz0 j j0 j1 (fun h => absurd h (by decide))
  have k3 : kd' = 3 := by omega
  have ev := g2 k3
  clear g0 g2 g3 g5 g6
  have hc := hz 0 (by decide) (by decide)
  change dcd (0 : Int).toNat zr = S 200 at hc
  have eh := p5.2
  change dcd (0 : Int).toNat zr = h at eh
  rw [hc] at eh
  subst eh
  have z2 := aAg_w (i' := 208 + S 200) (v' := v') hz p4 (by decide) (by omega) ev
  have g1' := g1 (by omega)
  clear g1
  try clear g0 g2 g3
  have st : stepA S kd' fr f' kw v' w' = .inl (adv (up S (208 + S 200) v') 8 f') := by
    rw [sA_7 e0]
    exact stNum_t k3 (by omega) (by omega)
  have e_0 : (adv (up S (208 + S 200) v') 8 f') 0 = 8 := by rw [adv_0]
  have e_200 : (adv (up S (208 + S 200) v') 8 f') 200 = S 200 := by rw [adv_n (by omega) (by omega), up_n (by omega)]
  have e_201 : (adv (up S (208 + S 200) v') 8 f') 201 = S 201 := by rw [adv_n (by omega) (by omega), up_n (by omega)]
  have e_202 : (adv (up S (208 + S 200) v') 8 f') 202 = S 202 := by rw [adv_n (by omega) (by omega), up_n (by omega)]
  have hm' : ∀ j : Int, kslot (adv (up S (208 + S 200) v') 8 f') j ∨ pend (adv (up S (208 + S 200) v') 8 f') j → 0 ≤ j → j < 19 → dcd j.toNat zm = c27 8 ((adv (up S (208 + S 200) v') 8 f') (100 + j)) := fun j jq j0 j1 => by
    unfold kslot pend at jq
    rw [e_0, e_200, e_201, e_202] at jq
    rw [adv_n (by omega) (by omega), up_n (by omega)]
    refine hm j ?_ j0 j1
    unfold kslot pend
    rw [e0]
    omega
  exact ⟨i0 + 1, _, ⟨S, kd', fr, f', kw, v', w', hR, hT, st⟩, adv_0, (by rw [adv_1]; exact g1'.symm), (by rw [adv_n (by omega) (by omega), up_n (by omega)]), (by rw [adv_n (by omega) (by omega), up_n (by omega)]; exact e3), (fun j j0 j1 _ => (aAg_a z2 (by decide)) j j0 j1), (fun h => absurd h (by decide)), hm', (by rw [adv_n (by omega) (by omega), up_n (by omega)]), (by rw [adv_n (by omega) (by omega), up_n (by omega)]), (by rw [adv_n (by omega) (by omega), up_n (by omega)]), (by rw [adv_n (by omega) (by omega), up_n (by omega)])⟩
theorem k_r7_bad1 {z n k zr zm o0 o1 o2 o3 kd fr to nu sg w : Int} (p1 : pPRT z n 7 k zr zm o0 o1 o2 o3 0 kd fr to nu sg w) (p2 : kd ≠ 3) : pAns z n (-1 * fr + -1) 1 := by
  obtain ⟨p, ⟨i0, S, hR, e0, rfl, rfl, e3, hz0, hz20, hm, rfl, rfl, rfl, rfl⟩, hT0⟩ := p1
  obtain ⟨kd', f', kw, v', w', hT, g0, g1, g2, g3, g5, g6, g7, g8⟩ := TokR_p hT0
  obtain ⟨h1, h2, h3, h4⟩ := Rch_I hR
  have bb := I1_b h1
  have hz : aAg zr S 200 72 := fun j j0 j1 => hz0 j j0 j1 (fun h => absurd h (by decide))
  exact ans_mk hR hT (F := _) (by
    rw [sA_7 e0]
    exact stNum_k (by omega)) (by omega) rfl
theorem k_r7_bad3 {z n k zr zm o0 o1 o2 o3 kd fr to nu sg w : Int} (p1 : pPRT z n 7 k zr zm o0 o1 o2 o3 0 kd fr to nu sg w) (p2 : 3 ≤ kd ∧ kd ≤ 3) (p3 : pWin nu 0 20 0) : pAns z n (-1 * fr + -1) 2 := by
  obtain ⟨p, ⟨i0, S, hR, e0, rfl, rfl, e3, hz0, hz20, hm, rfl, rfl, rfl, rfl⟩, hT0⟩ := p1
  obtain ⟨kd', f', kw, v', w', hT, g0, g1, g2, g3, g5, g6, g7, g8⟩ := TokR_p hT0
  obtain ⟨h1, h2, h3, h4⟩ := Rch_I hR
  have bb := I1_b h1
  have hz : aAg zr S 200 72 := fun j j0 j1 => hz0 j j0 j1 (fun h => absurd h (by decide))
  exact ans_mk hR hT (F := _) (by
    rw [sA_7 e0]
    exact stNum_v (by omega) (by rw [← g2 (by omega)]; exact iff1_f p3 rfl)) (by omega) rfl
theorem k_r8_ok {z n k zr zm o0 o1 o2 o3 kd fr to nu sg w zr2 h c zr4 : Int} (p1 : pPRT z n 8 k zr zm o0 o1 o2 o3 0 kd fr to nu sg w) (p2 : 3 ≤ kd ∧ kd ≤ 3) (p3 : 0 ≤ nu ∧ nu ≤ 20) (p4 : pUpd zr2 zr (h + 13) nu) (p5 : pCtr zr 0 h) (p6 : pCtr zr2 0 c) (p7 : pUpd zr4 zr2 0 (c + 1)) : pPR z n 30 to k zr4 zm o0 o1 o2 o3 0 := by
  obtain ⟨p, ⟨i0, S, hR, e0, rfl, rfl, e3, hz0, hz20, hm, rfl, rfl, rfl, rfl⟩, hT0⟩ := p1
  obtain ⟨kd', f', kw, v', w', hT, g0, g1, g2, g3, g5, g6, g7, g8⟩ := TokR_p hT0
  obtain ⟨h1, h2, h3, h4⟩ := Rch_I hR
  have bb := I1_b h1
  have hz : aAg zr S 200 72 := fun j j0 j1 => hz0 j j0 j1 (fun h => absurd h (by decide))
  have k3 : kd' = 3 := by omega
  have ev := g2 k3
  clear g0 g2 g3 g5 g6
  have hc := hz 0 (by decide) (by decide)
  change dcd (0 : Int).toNat zr = S 200 at hc
  have eh := p5.2
  change dcd (0 : Int).toNat zr = h at eh
  rw [hc] at eh
  subst eh
  have z2 := aAg_w (i' := 213 + S 200) (v' := v') hz p4 (by decide) (by omega) ev
  have hc2 := z2 0 (by decide) (by decide)
  rw [up_n (by omega)] at hc2
  change dcd (0 : Int).toNat zr2 = S 200 at hc2
  have ec := p6.2
  change dcd (0 : Int).toNat zr2 = c at ec
  rw [hc2] at ec
  subst ec
  have z4 := aAg_w (i' := 200) (v' := S 200 + 1) z2 p7 (by decide) (by decide) rfl
  have g1' := g1 (by omega)
  clear g1
  try clear g0 g2 g3
  have st : stepA S kd' fr f' kw v' w' = .inl (adv (up (up S (213 + S 200) v') 200 (S 200 + 1)) 30 f') := by
    rw [sA_8 e0]
    exact stNum_t k3 (by omega) (by omega)
  have e_0 : (adv (up (up S (213 + S 200) v') 200 (S 200 + 1)) 30 f') 0 = 30 := by rw [adv_0]
  have e_200 : (adv (up (up S (213 + S 200) v') 200 (S 200 + 1)) 30 f') 200 = S 200 + 1 := by rw [adv_n (by omega) (by omega), up_s]
  have e_201 : (adv (up (up S (213 + S 200) v') 200 (S 200 + 1)) 30 f') 201 = S 201 := by rw [adv_n (by omega) (by omega), up_n (by omega), up_n (by omega)]
  have e_202 : (adv (up (up S (213 + S 200) v') 200 (S 200 + 1)) 30 f') 202 = S 202 := by rw [adv_n (by omega) (by omega), up_n (by omega), up_n (by omega)]
  have hm' : ∀ j : Int, kslot (adv (up (up S (213 + S 200) v') 200 (S 200 + 1)) 30 f') j ∨ pend (adv (up (up S (213 + S 200) v') 200 (S 200 + 1)) 30 f') j → 0 ≤ j → j < 19 → dcd j.toNat zm = c27 8 ((adv (up (up S (213 + S 200) v') 200 (S 200 + 1)) 30 f') (100 + j)) := fun j jq j0 j1 => by
    unfold kslot pend at jq
    rw [e_0, e_200, e_201, e_202] at jq
    rw [adv_n (by omega) (by omega), up_n (by omega), up_n (by omega)]
    refine hm j ?_ j0 j1
    unfold kslot pend
    rw [e0]
    omega
  exact ⟨i0 + 1, _, ⟨S, kd', fr, f', kw, v', w', hR, hT, st⟩, adv_0, (by rw [adv_1]; exact g1'.symm), (by rw [adv_n (by omega) (by omega), up_n (by omega), up_n (by omega)]), (by rw [adv_n (by omega) (by omega), up_n (by omega), up_n (by omega)]; exact e3), (fun j j0 j1 _ => (aAg_a z4 (by decide)) j j0 j1), (fun h => absurd h (by decide)), hm', (by rw [adv_n (by omega) (by omega), up_n (by omega), up_n (by omega)]), (by rw [adv_n (by omega) (by omega), up_n (by omega), up_n (by omega)]), (by rw [adv_n (by omega) (by omega), up_n (by omega), up_n (by omega)]), (by rw [adv_n (by omega) (by omega), up_n (by omega), up_n (by omega)])⟩
theorem k_r8_bad1 {z n k zr zm o0 o1 o2 o3 kd fr to nu sg w : Int} (p1 : pPRT z n 8 k zr zm o0 o1 o2 o3 0 kd fr to nu sg w) (p2 : kd ≠ 3) : pAns z n (-1 * fr + -1) 1 := by
  obtain ⟨p, ⟨i0, S, hR, e0, rfl, rfl, e3, hz0, hz20, hm, rfl, rfl, rfl, rfl⟩, hT0⟩ := p1
  obtain ⟨kd', f', kw, v', w', hT, g0, g1, g2, g3, g5, g6, g7, g8⟩ := TokR_p hT0
  obtain ⟨h1, h2, h3, h4⟩ := Rch_I hR
  have bb := I1_b h1
  have hz : aAg zr S 200 72 := fun j j0 j1 => hz0 j j0 j1 (fun h => absurd h (by decide))
  exact ans_mk hR hT (F := _) (by
    rw [sA_8 e0]
    exact stNum_k (by omega)) (by omega) rfl
theorem k_r8_bad3 {z n k zr zm o0 o1 o2 o3 kd fr to nu sg w : Int} (p1 : pPRT z n 8 k zr zm o0 o1 o2 o3 0 kd fr to nu sg w) (p2 : 3 ≤ kd ∧ kd ≤ 3) (p3 : pWin nu 0 20 0) : pAns z n (-1 * fr + -1) 2 := by
  obtain ⟨p, ⟨i0, S, hR, e0, rfl, rfl, e3, hz0, hz20, hm, rfl, rfl, rfl, rfl⟩, hT0⟩ := p1
  obtain ⟨kd', f', kw, v', w', hT, g0, g1, g2, g3, g5, g6, g7, g8⟩ := TokR_p hT0
  obtain ⟨h1, h2, h3, h4⟩ := Rch_I hR
  have bb := I1_b h1
  have hz : aAg zr S 200 72 := fun j j0 j1 => hz0 j j0 j1 (fun h => absurd h (by decide))
  exact ans_mk hR hT (F := _) (by
    rw [sA_8 e0]
    exact stNum_v (by omega) (by rw [← g2 (by omega)]; exact iff1_f p3 rfl)) (by omega) rfl
theorem k_r11_ok {z n k zr zm o0 o1 o2 o3 kd fr to nu sg w zr2 h : Int} (p1 : pPRT z n 11 k zr zm o0 o1 o2 o3 0 kd fr to nu sg w) (p2 : 3 ≤ kd ∧ kd ≤ 3) (p3 : 0 ≤ nu ∧ nu ≤ 99) (p4 : pUpd zr2 zr (h + 26) nu) (p5 : pCtr zr 1 h) : pPR z n 12 to k zr2 zm o0 o1 o2 o3 0 := by
  obtain ⟨p, ⟨i0, S, hR, e0, rfl, rfl, e3, hz0, hz20, hm, rfl, rfl, rfl, rfl⟩, hT0⟩ := p1
  obtain ⟨kd', f', kw, v', w', hT, g0, g1, g2, g3, g5, g6, g7, g8⟩ := TokR_p hT0
  obtain ⟨h1, h2, h3, h4⟩ := Rch_I hR
  have bb := I1_b h1
  have hz : aAg zr S 200 72 := fun j j0 j1 => hz0 j j0 j1 (fun h => absurd h (by decide))
  have k3 : kd' = 3 := by omega
  have ev := g2 k3
  clear g0 g2 g3 g5 g6
  have hc := hz 1 (by decide) (by decide)
  change dcd (1 : Int).toNat zr = S 201 at hc
  have eh := p5.2
  change dcd (1 : Int).toNat zr = h at eh
  rw [hc] at eh
  subst eh
  have z2 := aAg_w (i' := 226 + S 201) (v' := v') hz p4 (by decide) (by omega) ev
  have g1' := g1 (by omega)
  clear g1
  try clear g0 g2 g3
  have st : stepA S kd' fr f' kw v' w' = .inl (adv (up S (226 + S 201) v') 12 f') := by
    rw [sA_11 e0]
    exact stNum_t k3 (by omega) (by omega)
  have e_0 : (adv (up S (226 + S 201) v') 12 f') 0 = 12 := by rw [adv_0]
  have e_200 : (adv (up S (226 + S 201) v') 12 f') 200 = S 200 := by rw [adv_n (by omega) (by omega), up_n (by omega)]
  have e_201 : (adv (up S (226 + S 201) v') 12 f') 201 = S 201 := by rw [adv_n (by omega) (by omega), up_n (by omega)]
  have e_202 : (adv (up S (226 + S 201) v') 12 f') 202 = S 202 := by rw [adv_n (by omega) (by omega), up_n (by omega)]
  have hm' : ∀ j : Int, kslot (adv (up S (226 + S 201) v') 12 f') j ∨ pend (adv (up S (226 + S 201) v') 12 f') j → 0 ≤ j → j < 19 → dcd j.toNat zm = c27 8 ((adv (up S (226 + S 201) v') 12 f') (100 + j)) := fun j jq j0 j1 => by
    unfold kslot pend at jq
    rw [e_0, e_200, e_201, e_202] at jq
    rw [adv_n (by omega) (by omega), up_n (by omega)]
    refine hm j ?_ j0 j1
    unfold kslot pend
    rw [e0]
    omega
  exact ⟨i0 + 1, _, ⟨S, kd', fr, f', kw, v', w', hR, hT, st⟩, adv_0, (by rw [adv_1]; exact g1'.symm), (by rw [adv_n (by omega) (by omega), up_n (by omega)]), (by rw [adv_n (by omega) (by omega), up_n (by omega)]; exact e3), (fun j j0 j1 _ => (aAg_a z2 (by decide)) j j0 j1), (fun h => absurd h (by decide)), hm', (by rw [adv_n (by omega) (by omega), up_n (by omega)]), (by rw [adv_n (by omega) (by omega), up_n (by omega)]), (by rw [adv_n (by omega) (by omega), up_n (by omega)]), (by rw [adv_n (by omega) (by omega), up_n (by omega)])⟩
theorem k_r11_bad1 {z n k zr zm o0 o1 o2 o3 kd fr to nu sg w : Int} (p1 : pPRT z n 11 k zr zm o0 o1 o2 o3 0 kd fr to nu sg w) (p2 : kd ≠ 3) : pAns z n (-1 * fr + -1) 1 := by
  obtain ⟨p, ⟨i0, S, hR, e0, rfl, rfl, e3, hz0, hz20, hm, rfl, rfl, rfl, rfl⟩, hT0⟩ := p1
  obtain ⟨kd', f', kw, v', w', hT, g0, g1, g2, g3, g5, g6, g7, g8⟩ := TokR_p hT0
  obtain ⟨h1, h2, h3, h4⟩ := Rch_I hR
  have bb := I1_b h1
  have hz : aAg zr S 200 72 := fun j j0 j1 => hz0 j j0 j1 (fun h => absurd h (by decide))
  exact ans_mk hR hT (F := _) (by
    rw [sA_11 e0]
    exact stNum_k (by omega)) (by omega) rfl
theorem k_r11_bad3 {z n k zr zm o0 o1 o2 o3 kd fr to nu sg w : Int} (p1 : pPRT z n 11 k zr zm o0 o1 o2 o3 0 kd fr to nu sg w) (p2 : 3 ≤ kd ∧ kd ≤ 3) (p3 : pWin nu 0 99 0) : pAns z n (-1 * fr + -1) 2 := by
  obtain ⟨p, ⟨i0, S, hR, e0, rfl, rfl, e3, hz0, hz20, hm, rfl, rfl, rfl, rfl⟩, hT0⟩ := p1
  obtain ⟨kd', f', kw, v', w', hT, g0, g1, g2, g3, g5, g6, g7, g8⟩ := TokR_p hT0
  obtain ⟨h1, h2, h3, h4⟩ := Rch_I hR
  have bb := I1_b h1
  have hz : aAg zr S 200 72 := fun j j0 j1 => hz0 j j0 j1 (fun h => absurd h (by decide))
  exact ans_mk hR hT (F := _) (by
    rw [sA_11 e0]
    exact stNum_v (by omega) (by rw [← g2 (by omega)]; exact iff1_f p3 rfl)) (by omega) rfl
end
