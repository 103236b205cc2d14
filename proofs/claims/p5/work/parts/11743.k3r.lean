noncomputable section
/-! T3: rules (printed by wip/v5/gen/rules4.py) -/
theorem k_r12_ok {z n k zr zm o0 o1 o2 o3 kd fr to nu sg w zr2 h c zr4 : Int} (p1 : pPRT z n 12 k zr zm o0 o1 o2 o3 0 kd fr to nu sg w) (p2 : 3 ≤ kd ∧ kd ≤ 3) (p3 : 1 ≤ nu ∧ nu ≤ 30) (p4 : pUpd zr2 zr (h + 34) nu) (p5 : pCtr zr 1 h) (p6 : pCtr zr2 1 c) (p7 : pUpd zr4 zr2 1 (c + 1)) : pPR z n 30 to k zr4 zm o0 o1 o2 o3 0 := by
  obtain ⟨p, ⟨i0, S, hR, e0, rfl, rfl, e3, hz0, hz20, hm, rfl, rfl, rfl, rfl⟩, hT0⟩ := p1
  obtain ⟨kd', f', kw, v', w', hT, g0, g1, g2, g3, g5, g6, g7, g8⟩ := TokR_p hT0
  obtain ⟨h1, h2, h3, h4⟩ := Rch_I hR
  have bb := I1_b h1
  have hz : aAg zr S 200 72 := fun j j0 j1 => hz0 j j0 j1 (fun h => absurd h (by decide))
  have k3 : kd' = 3 := by omega
  have ev := g2 k3
  clear g0 g2 g3 g5 g6
  have hc := hz 1 (by decide) (by decide)
  change dcd (1 : Int).toNat zr = S 201 at hc
  have eh := p5.2
  change dcd (1 : Int).toNat zr = h at eh
  rw [hc] at eh
  subst eh
  have z2 := aAg_w (i' := 234 + S 201) (v' := v') hz p4 (by decide) (by omega) ev
  have hc2 := z2 1 (by decide) (by decide)
  rw [up_n (by omega)] at hc2
  change dcd (1 : Int).toNat zr2 = S 201 at hc2
  have ec := p6.2
  change dcd (1 : Int).toNat zr2 = c at ec
  rw [hc2] at ec
  subst ec
  have z4 := aAg_w (i' := 201) (v' := S 201 + 1) z2 p7 (by decide) (by decide) rfl
  have g1' := g1 (by omega)
  clear g1
  try clear g0 g2 g3
  have st : stepA S kd' fr f' kw v' w' = .inl (adv (up (up S (234 + S 201) v') 201 (S 201 + 1)) 30 f') := by
    rw [sA_12 e0]
    exact stNum_t k3 (by omega) (by omega)
  have e_0 : (adv (up (up S (234 + S 201) v') 201 (S 201 + 1)) 30 f') 0 = 30 := by rw [adv_0]
  have e_200 : (adv (up (up S (234 + S 201) v') 201 (S 201 + 1)) 30 f') 200 = S 200 := by rw [adv_n (by omega) (by omega), up_n (by omega), up_n (by omega)]
  have e_201 : (adv (up (up S (234 + S 201) v') 201 (S 201 + 1)) 30 f') 201 = S 201 + 1 := by rw [adv_n (by omega) (by omega), up_s]
  have e_202 : (adv (up (up S (234 + S 201) v') 201 (S 201 + 1)) 30 f') 202 = S 202 := by rw [adv_n (by omega) (by omega), up_n (by omega), up_n (by omega)]
  have hm' : ∀ j : Int, kslot (adv (up (up S (234 + S 201) v') 201 (S 201 + 1)) 30 f') j ∨ pend (adv (up (up S (234 + S 201) v') 201 (S 201 + 1)) 30 f') j → 0 ≤ j → j < 19 → dcd j.toNat zm = c27 8 ((adv (up (up S (234 + S 201) v') 201 (S 201 + 1)) 30 f') (100 + j)) := fun j jq j0 j1 => by
    unfold kslot pend at jq
    rw [e_0, e_200, e_201, e_202] at jq
    rw [adv_n (by omega) (by omega), up_n (by omega), up_n (by omega)]
    refine hm j ?_ j0 j1
    unfold kslot pend
    rw [e0]
    omega
  exact ⟨i0 + 1, _, ⟨S, kd', fr, f', kw, v', w', hR, hT, st⟩, adv_0, (by rw [adv_1]; exact g1'.symm), (by rw [adv_n (by omega) (by omega), up_n (by omega), up_n (by omega)]), (by rw [adv_n (by omega) (by omega), up_n (by omega), up_n (by omega)]; exact e3), (fun j j0 j1 _ => (aAg_a z4 (by decide)) j j0 j1), (fun h => absurd h (by decide)), hm', (by rw [adv_n (by omega) (by omega), up_n (by omega), up_n (by omega)]), (by rw [adv_n (by omega) (by omega), up_n (by omega), up_n (by omega)]), (by rw [adv_n (by omega) (by omega), up_n (by omega), up_n (by omega)]), (by rw [adv_n (by omega) (by omega), up_n (by omega), up_n (by omega)])⟩
theorem k_r12_bad1 {z n k zr zm o0 o1 o2 o3 kd fr to nu sg w : Int} (p1 : pPRT z n 12 k zr zm o0 o1 o2 o3 0 kd fr to nu sg w) (p2 : kd ≠ 3) : pAns z n (-1 * fr + -1) 1 := by
  obtain ⟨p, ⟨i0, S, hR, e0, rfl, rfl, e3, hz0, hz20, hm, rfl, rfl, rfl, rfl⟩, hT0⟩ := p1
  obtain ⟨kd', f', kw, v', w', hT, g0, g1, g2, g3, g5, g6, g7, g8⟩ := TokR_p hT0
  obtain ⟨h1, h2, h3, h4⟩ := Rch_I hR
  have bb := I1_b h1
  have hz : aAg zr S 200 72 := fun j j0 j1 => hz0 j j0 j1 (fun h => absurd h (by decide))
  exact ans_mk hR hT (F := _) (by
    rw [sA_12 e0]
    exact stNum_k (by omega)) (by omega) rfl
theorem k_r12_bad3 {z n k zr zm o0 o1 o2 o3 kd fr to nu sg w : Int} (p1 : pPRT z n 12 k zr zm o0 o1 o2 o3 0 kd fr to nu sg w) (p2 : 3 ≤ kd ∧ kd ≤ 3) (p3 : pWin nu 1 30 0) : pAns z n (-1 * fr + -1) 2 := by
  obtain ⟨p, ⟨i0, S, hR, e0, rfl, rfl, e3, hz0, hz20, hm, rfl, rfl, rfl, rfl⟩, hT0⟩ := p1
  obtain ⟨kd', f', kw, v', w', hT, g0, g1, g2, g3, g5, g6, g7, g8⟩ := TokR_p hT0
  obtain ⟨h1, h2, h3, h4⟩ := Rch_I hR
  have bb := I1_b h1
  have hz : aAg zr S 200 72 := fun j j0 j1 => hz0 j j0 j1 (fun h => absurd h (by decide))
  exact ans_mk hR hT (F := _) (by
    rw [sA_12 e0]
    exact stNum_v (by omega) (by rw [← g2 (by omega)]; exact iff1_f p3 rfl)) (by omega) rfl
theorem k_r14_ok {z n k zr zm o0 o1 o2 o3 kd fr to nu sg w zr2 h : Int} (p1 : pPRT z n 14 k zr zm o0 o1 o2 o3 0 kd fr to nu sg w) (p2 : 3 ≤ kd ∧ kd ≤ 3) (p3 : 0 ≤ nu ∧ nu ≤ 99) (p4 : pUpd zr2 zr (h + 42) nu) (p5 : pCtr zr 2 h) : pPR z n 15 to k zr2 zm o0 o1 o2 o3 0 := by
  obtain ⟨p, ⟨i0, S, hR, e0, rfl, rfl, e3, hz0, hz20, hm, rfl, rfl, rfl, rfl⟩, hT0⟩ := p1
  obtain ⟨kd', f', kw, v', w', hT, g0, g1, g2, g3, g5, g6, g7, g8⟩ := TokR_p hT0
  obtain ⟨h1, h2, h3, h4⟩ := Rch_I hR
  have bb := I1_b h1
  have hz : aAg zr S 200 72 := fun j j0 j1 => hz0 j j0 j1 (fun h => absurd h (by decide))
  have k3 : kd' = 3 := by omega
  have ev := g2 k3
  clear g0 g2 g3 g5 g6
  have hc := hz 2 (by decide) (by decide)
  change dcd (2 : Int).toNat zr = S 202 at hc
  have eh := p5.2
  change dcd (2 : Int).toNat zr = h at eh
  rw [hc] at eh
  subst eh
  have z2 := aAg_w (i' := 242 + S 202) (v' := v') hz p4 (by decide) (by omega) ev
  have g1' := g1 (by omega)
  clear g1
  try clear g0 g2 g3
  have st : stepA S kd' fr f' kw v' w' = .inl (adv (up S (242 + S 202) v') 15 f') := by
    rw [sA_14 e0]
    exact stNum_t k3 (by omega) (by omega)
  have e_0 : (adv (up S (242 + S 202) v') 15 f') 0 = 15 := by rw [adv_0]
  have e_200 : (adv (up S (242 + S 202) v') 15 f') 200 = S 200 := by rw [adv_n (by omega) (by omega), up_n (by omega)]
  have e_201 : (adv (up S (242 + S 202) v') 15 f') 201 = S 201 := by rw [adv_n (by omega) (by omega), up_n (by omega)]
  have e_202 : (adv (up S (242 + S 202) v') 15 f') 202 = S 202 := by rw [adv_n (by omega) (by omega), up_n (by omega)]
  have hm' : ∀ j : Int, kslot (adv (up S (242 + S 202) v') 15 f') j ∨ pend (adv (up S (242 + S 202) v') 15 f') j → 0 ≤ j → j < 19 → dcd j.toNat zm = c27 8 ((adv (up S (242 + S 202) v') 15 f') (100 + j)) := fun j jq j0 j1 => by
    unfold kslot pend at jq
    rw [e_0, e_200, e_201, e_202] at jq
    rw [adv_n (by omega) (by omega), up_n (by omega)]
    refine hm j ?_ j0 j1
    unfold kslot pend
    rw [e0]
    omega
  exact ⟨i0 + 1, _, ⟨S, kd', fr, f', kw, v', w', hR, hT, st⟩, adv_0, (by rw [adv_1]; exact g1'.symm), (by rw [adv_n (by omega) (by omega), up_n (by omega)]), (by rw [adv_n (by omega) (by omega), up_n (by omega)]; exact e3), (fun j j0 j1 _ => (aAg_a z2 (by decide)) j j0 j1), (fun h => absurd h (by decide)), hm', (by rw [adv_n (by omega) (by omega), up_n (by omega)]), (by rw [adv_n (by omega) (by omega), up_n (by omega)]), (by rw [adv_n (by omega) (by omega), up_n (by omega)]), (by rw [adv_n (by omega) (by omega), up_n (by omega)])⟩
theorem k_r14_bad1 {z n k zr zm o0 o1 o2 o3 kd fr to nu sg w : Int} (p1 : pPRT z n 14 k zr zm o0 o1 o2 o3 0 kd fr to nu sg w) (p2 : kd ≠ 3) : pAns z n (-1 * fr + -1) 1 := by
  obtain ⟨p, ⟨i0, S, hR, e0, rfl, rfl, e3, hz0, hz20, hm, rfl, rfl, rfl, rfl⟩, hT0⟩ := p1
  obtain ⟨kd', f', kw, v', w', hT, g0, g1, g2, g3, g5, g6, g7, g8⟩ := TokR_p hT0
  obtain ⟨h1, h2, h3, h4⟩ := Rch_I hR
  have bb := I1_b h1
  have hz : aAg zr S 200 72 := fun j j0 j1 => hz0 j j0 j1 (fun h => absurd h (by decide))
  exact ans_mk hR hT (F := _) (by
    rw [sA_14 e0]
    exact stNum_k (by omega)) (by omega) rfl
theorem k_r14_bad3 {z n k zr zm o0 o1 o2 o3 kd fr to nu sg w : Int} (p1 : pPRT z n 14 k zr zm o0 o1 o2 o3 0 kd fr to nu sg w) (p2 : 3 ≤ kd ∧ kd ≤ 3) (p3 : pWin nu 0 99 0) : pAns z n (-1 * fr + -1) 2 := by
  obtain ⟨p, ⟨i0, S, hR, e0, rfl, rfl, e3, hz0, hz20, hm, rfl, rfl, rfl, rfl⟩, hT0⟩ := p1
  obtain ⟨kd', f', kw, v', w', hT, g0, g1, g2, g3, g5, g6, g7, g8⟩ := TokR_p hT0
  obtain ⟨h1, h2, h3, h4⟩ := Rch_I hR
  have bb := I1_b h1
  have hz : aAg zr S 200 72 := fun j j0 j1 => hz0 j j0 j1 (fun h => absurd h (by decide))
  exact ans_mk hR hT (F := _) (by
    rw [sA_14 e0]
    exact stNum_v (by omega) (by rw [← g2 (by omega)]; exact iff1_f p3 rfl)) (by omega) rfl
theorem k_r15_ok {z n k zr zm o0 o1 o2 o3 kd fr to nu sg w zr2 h zr3 c zr4 : Int} (p1 : pPRT z n 15 k zr zm o0 o1 o2 o3 0 kd fr to nu sg w) (p2 : 3 ≤ kd ∧ kd ≤ 3) (p3 : 0 ≤ nu ∧ nu ≤ 20) (p4 : pUpd zr2 zr (h + 48) nu) (p5 : pCtr zr 2 h) (p6 : pUpd zr3 zr2 (h + 60) (-1)) (p7 : pCtr zr3 2 c) (p8 : pUpd zr4 zr3 2 (c + 1)) : pPR z n 30 to k zr4 zm o0 o1 o2 o3 0 := by
  obtain ⟨p, ⟨i0, S, hR, e0, rfl, rfl, e3, hz0, hz20, hm, rfl, rfl, rfl, rfl⟩, hT0⟩ := p1
  obtain ⟨kd', f', kw, v', w', hT, g0, g1, g2, g3, g5, g6, g7, g8⟩ := TokR_p hT0
  obtain ⟨h1, h2, h3, h4⟩ := Rch_I hR
  have bb := I1_b h1
  have hz : aAg zr S 200 72 := fun j j0 j1 => hz0 j j0 j1 (fun h => absurd h (by decide))
  have k3 : kd' = 3 := by omega
  have ev := g2 k3
  clear g0 g2 g3 g5 g6
  have hc := hz 2 (by decide) (by decide)
  change dcd (2 : Int).toNat zr = S 202 at hc
  have eh := p5.2
  change dcd (2 : Int).toNat zr = h at eh
  rw [hc] at eh
  subst eh
  have z2 := aAg_w (i' := 248 + S 202) (v' := v') hz p4 (by decide) (by omega) ev
  have z3 := aAg_k z2 p6 (by decide) (fun _ => by
    rw [up_n (by omega)]
    have b15 := I1_g h1 (by omega)
    have q := h3 (S 202) (by omega) (by omega)
    rw [show 200 + (S 202 + 60) = 260 + S 202 by omega]
    exact q)
  have hc2 := z3 2 (by decide) (by decide)
  rw [up_n (by omega)] at hc2
  change dcd (2 : Int).toNat zr3 = S 202 at hc2
  have ec := p7.2
  change dcd (2 : Int).toNat zr3 = c at ec
  rw [hc2] at ec
  subst ec
  have z4 := aAg_w (i' := 202) (v' := S 202 + 1) z3 p8 (by decide) (by decide) rfl
  have g1' := g1 (by omega)
  clear g1
  try clear g0 g2 g3
  have st : stepA S kd' fr f' kw v' w' = .inl (adv (up (up S (248 + S 202) v') 202 (S 202 + 1)) 30 f') := by
    rw [sA_15 e0]
    exact stNum_t k3 (by omega) (by omega)
  have e_0 : (adv (up (up S (248 + S 202) v') 202 (S 202 + 1)) 30 f') 0 = 30 := by rw [adv_0]
  have e_200 : (adv (up (up S (248 + S 202) v') 202 (S 202 + 1)) 30 f') 200 = S 200 := by rw [adv_n (by omega) (by omega), up_n (by omega), up_n (by omega)]
  have e_201 : (adv (up (up S (248 + S 202) v') 202 (S 202 + 1)) 30 f') 201 = S 201 := by rw [adv_n (by omega) (by omega), up_n (by omega), up_n (by omega)]
  have e_202 : (adv (up (up S (248 + S 202) v') 202 (S 202 + 1)) 30 f') 202 = S 202 + 1 := by rw [adv_n (by omega) (by omega), up_s]
  have hm' : ∀ j : Int, kslot (adv (up (up S (248 + S 202) v') 202 (S 202 + 1)) 30 f') j ∨ pend (adv (up (up S (248 + S 202) v') 202 (S 202 + 1)) 30 f') j → 0 ≤ j → j < 19 → dcd j.toNat zm = c27 8 ((adv (up (up S (248 + S 202) v') 202 (S 202 + 1)) 30 f') (100 + j)) := fun j jq j0 j1 => by
    unfold kslot pend at jq
    rw [e_0, e_200, e_201, e_202] at jq
    rw [adv_n (by omega) (by omega), up_n (by omega), up_n (by omega)]
    refine hm j ?_ j0 j1
    unfold kslot pend
    rw [e0]
    omega
  exact ⟨i0 + 1, _, ⟨S, kd', fr, f', kw, v', w', hR, hT, st⟩, adv_0, (by rw [adv_1]; exact g1'.symm), (by rw [adv_n (by omega) (by omega), up_n (by omega), up_n (by omega)]), (by rw [adv_n (by omega) (by omega), up_n (by omega), up_n (by omega)]; exact e3), (fun j j0 j1 _ => (aAg_a z4 (by decide)) j j0 j1), (fun h => absurd h (by decide)), hm', (by rw [adv_n (by omega) (by omega), up_n (by omega), up_n (by omega)]), (by rw [adv_n (by omega) (by omega), up_n (by omega), up_n (by omega)]), (by rw [adv_n (by omega) (by omega), up_n (by omega), up_n (by omega)]), (by rw [adv_n (by omega) (by omega), up_n (by omega), up_n (by omega)])⟩
theorem k_r15_bad1 {z n k zr zm o0 o1 o2 o3 kd fr to nu sg w : Int} (p1 : pPRT z n 15 k zr zm o0 o1 o2 o3 0 kd fr to nu sg w) (p2 : kd ≠ 3) : pAns z n (-1 * fr + -1) 1 := by
  obtain ⟨p, ⟨i0, S, hR, e0, rfl, rfl, e3, hz0, hz20, hm, rfl, rfl, rfl, rfl⟩, hT0⟩ := p1
  obtain ⟨kd', f', kw, v', w', hT, g0, g1, g2, g3, g5, g6, g7, g8⟩ := TokR_p hT0
  obtain ⟨h1, h2, h3, h4⟩ := Rch_I hR
  have bb := I1_b h1
  have hz : aAg zr S 200 72 := fun j j0 j1 => hz0 j j0 j1 (fun h => absurd h (by decide))
  exact ans_mk hR hT (F := _) (by
    rw [sA_15 e0]
    exact stNum_k (by omega)) (by omega) rfl
theorem k_r15_bad3 {z n k zr zm o0 o1 o2 o3 kd fr to nu sg w : Int} (p1 : pPRT z n 15 k zr zm o0 o1 o2 o3 0 kd fr to nu sg w) (p2 : 3 ≤ kd ∧ kd ≤ 3) (p3 : pWin nu 0 20 0) : pAns z n (-1 * fr + -1) 2 := by
  obtain ⟨p, ⟨i0, S, hR, e0, rfl, rfl, e3, hz0, hz20, hm, rfl, rfl, rfl, rfl⟩, hT0⟩ := p1
  obtain ⟨kd', f', kw, v', w', hT, g0, g1, g2, g3, g5, g6, g7, g8⟩ := TokR_p hT0
  obtain ⟨h1, h2, h3, h4⟩ := Rch_I hR
  have bb := I1_b h1
  have hz : aAg zr S 200 72 := fun j j0 j1 => hz0 j j0 j1 (fun h => absurd h (by decide))
  exact ans_mk hR hT (F := _) (by
    rw [sA_15 e0]
    exact stNum_v (by omega) (by rw [← g2 (by omega)]; exact iff1_f p3 rfl)) (by omega) rfl
theorem k_r6_ok {z n k zr zm o0 o1 o2 o3 kd fr to nu sg w h zm2 : Int} (p1 : pPRT z n 6 k zr zm o0 o1 o2 o3 0 kd fr to nu sg w) (p2 : pNamr kd w 1) (p3 : pNkr zm zr w) (p4 : pCtr zr 0 h) (p5 : pUpd zm2 zm h w) : pPR z n 7 to k zr zm2 o0 o1 o2 o3 0 := by
  obtain ⟨p, ⟨i0, S, hR, e0, rfl, rfl, e3, hz0, hz20, hm, rfl, rfl, rfl, rfl⟩, hT0⟩ := p1
  obtain ⟨kd', f', kw, v', w', hT, g0, g1, g2, g3, g5, g6, g7, g8⟩ := TokR_p hT0
  obtain ⟨h1, h2, h3, h4⟩ := Rch_I hR
  have bb := I1_b h1
  have hz : aAg zr S 200 72 := fun j j0 j1 => hz0 j j0 j1 (fun h => absurd h (by decide))
  have k2 := iff1_t p2 rfl
  have kd2 : kd' = 2 := by omega
  obtain ⟨ew, hw, hk⟩ := g5 kd2
  have kn : kw = -1 := by
    by_cases g : kw = -1
    · exact g
    · exact absurd ((hk kw.toNat (by omega)).mp (by omega)) (k2.2 kw.toNat (by omega))
  have c0 := hz 0 (by decide) (by decide)
  change dcd (0 : Int).toNat zr = S 200 at c0
  have c1 := hz 1 (by decide) (by decide)
  change dcd (1 : Int).toNat zr = S 201 at c1
  have c2 := hz 2 (by decide) (by decide)
  change dcd (2 : Int).toNat zr = S 202 at c2
  have eh := p4.2
  change dcd (0 : Int).toNat zr = h at eh
  rw [c0] at eh
  subst eh
  have hm2 : ∀ j : Int, kslot (adv (up S (100 + S 200) w') 7 f') j ∨ pend (adv (up S (100 + S 200) w') 7 f') j → 0 ≤ j → j < 19 → dcd j.toNat zm2 = c27 8 ((adv (up S (100 + S 200) w') 7 f') (100 + j)) := fun j jq j0 j1 => by
    have x0 : (adv (up S (100 + S 200) w') 7 f') 0 = 7 := adv_0
    have x1 : (adv (up S (100 + S 200) w') 7 f') 200 = S 200 := by rw [adv_n (by omega) (by omega), up_n (by omega)]
    have x2 : (adv (up S (100 + S 200) w') 7 f') 201 = S 201 := by rw [adv_n (by omega) (by omega), up_n (by omega)]
    have x3 : (adv (up S (100 + S 200) w') 7 f') 202 = S 202 := by rw [adv_n (by omega) (by omega), up_n (by omega)]
    unfold kslot pend at jq
    rw [x0, x1, x2, x3] at jq
    obtain ⟨u1, u2, u3, u4⟩ := p5
    rw [u4]
    by_cases e : j = S 200
    · rw [e, show (S 200).toNat = (S 200).toNat by omega, dcd_us u3 (by omega), adv_n (by omega) (by omega), up_s]
      exact ew
    · rw [dcd_un u3 (by omega) (by omega), adv_n (by omega) (by omega), up_n (by omega)]
      refine hm j ?_ j0 j1
      unfold kslot pend
      rw [e0]
      omega
  have g1' := g1 (by omega)
  clear g1
  try clear g0 g2 g3
  have st : stepA S kd' fr f' kw v' w' = .inl (adv (up S (100 + S 200) w') 7 f') := by
    rw [sA_6 e0]
    refine stNew_t ⟨kd2, kn⟩ (fun ⟨j, j0, j1⟩ => ?_)
    have r := own_r h1 (Or.inl j0)
    have m := hm j (Or.inl j0) r.1 r.2
    rw [j1, ← ew] at m
    unfold kslot at j0
    rcases j0 with j0 | j0 | j0
    · have u := p3.1.2.2.2
      change -1 = fndF _ w (dcd (0 : Int).toNat zr).toNat at u
      rw [c0] at u
      refine fndF_neg (f := fun i : Nat => dcd (0 + (i : Int)).toNat zm) (w := w) (n := (S 200).toNat) (by rw [← u]; decide) (j := (j - 0).toNat) (by omega) ?_
      show dcd (0 + (((j - 0).toNat : Nat) : Int)).toNat zm = w
      rw [show 0 + (((j - 0).toNat : Nat) : Int) = j by omega]
      exact m
    · have u := p3.2.1.2.2.2
      change -1 = fndF _ w (dcd (1 : Int).toNat zr).toNat at u
      rw [c1] at u
      refine fndF_neg (f := fun i : Nat => dcd (5 + (i : Int)).toNat zm) (w := w) (n := (S 201).toNat) (by rw [← u]; decide) (j := (j - 5).toNat) (by omega) ?_
      show dcd (5 + (((j - 5).toNat : Nat) : Int)).toNat zm = w
      rw [show 5 + (((j - 5).toNat : Nat) : Int) = j by omega]
      exact m
    · have u := p3.2.2.2.2.2
      change -1 = fndF _ w (dcd (2 : Int).toNat zr).toNat at u
      rw [c2] at u
      refine fndF_neg (f := fun i : Nat => dcd (13 + (i : Int)).toNat zm) (w := w) (n := (S 202).toNat) (by rw [← u]; decide) (j := (j - 13).toNat) (by omega) ?_
      show dcd (13 + (((j - 13).toNat : Nat) : Int)).toNat zm = w
      rw [show 13 + (((j - 13).toNat : Nat) : Int) = j by omega]
      exact m
  have e_0 : (adv (up S (100 + S 200) w') 7 f') 0 = 7 := by rw [adv_0]
  have e_200 : (adv (up S (100 + S 200) w') 7 f') 200 = S 200 := by rw [adv_n (by omega) (by omega), up_n (by omega)]
  have e_201 : (adv (up S (100 + S 200) w') 7 f') 201 = S 201 := by rw [adv_n (by omega) (by omega), up_n (by omega)]
  have e_202 : (adv (up S (100 + S 200) w') 7 f') 202 = S 202 := by rw [adv_n (by omega) (by omega), up_n (by omega)]
  exact ⟨i0 + 1, _, ⟨S, kd', fr, f', kw, v', w', hR, hT, st⟩, adv_0, (by rw [adv_1]; exact g1'.symm), (by rw [adv_n (by omega) (by omega), up_n (by omega)]), (by rw [adv_n (by omega) (by omega), up_n (by omega)]; exact e3), (fun j j0 j1 _ => (aAg_a (aAg_o hz (Or.inl (by omega))) (by decide)) j j0 j1), (fun h => absurd h (by decide)), hm2, (by rw [adv_n (by omega) (by omega), up_n (by omega)]), (by rw [adv_n (by omega) (by omega), up_n (by omega)]), (by rw [adv_n (by omega) (by omega), up_n (by omega)]), (by rw [adv_n (by omega) (by omega), up_n (by omega)])⟩
theorem k_r6_bad1 {z n k zr zm o0 o1 o2 o3 kd fr to nu sg w : Int} (p1 : pPRT z n 6 k zr zm o0 o1 o2 o3 0 kd fr to nu sg w) (p2 : pNamr kd w 0) : pAns z n (-1 * fr + -1) 1 := by
  obtain ⟨p, ⟨i0, S, hR, e0, rfl, rfl, e3, hz0, hz20, hm, rfl, rfl, rfl, rfl⟩, hT0⟩ := p1
  obtain ⟨kd', f', kw, v', w', hT, g0, g1, g2, g3, g5, g6, g7, g8⟩ := TokR_p hT0
  obtain ⟨h1, h2, h3, h4⟩ := Rch_I hR
  have bb := I1_b h1
  have hz : aAg zr S 200 72 := fun j j0 j1 => hz0 j j0 j1 (fun h => absurd h (by decide))
  have kn : ¬ (kd' = 2 ∧ kw = -1) := fun ⟨q1, q2⟩ => iff1_f p2 rfl ⟨by omega, fun j hj e => by
    have := ((g5 q1).2.2 j hj).mpr e
    omega⟩
  exact ans_mk hR hT (F := _) (by
    rw [sA_6 e0]
    exact stNew_k kn) (by omega) rfl
theorem k_r6_bad2 {z n k zr zm o0 o1 o2 o3 kd fr to nu sg w : Int} (p1 : pPRT z n 6 k zr zm o0 o1 o2 o3 0 kd fr to nu sg w) (p2 : pNamr kd w 1) (p3 : pKnr zm zr w) : pAns z n (-1 * fr + -1) 3 := by
  obtain ⟨p, ⟨i0, S, hR, e0, rfl, rfl, e3, hz0, hz20, hm, rfl, rfl, rfl, rfl⟩, hT0⟩ := p1
  obtain ⟨kd', f', kw, v', w', hT, g0, g1, g2, g3, g5, g6, g7, g8⟩ := TokR_p hT0
  obtain ⟨h1, h2, h3, h4⟩ := Rch_I hR
  have bb := I1_b h1
  have hz : aAg zr S 200 72 := fun j j0 j1 => hz0 j j0 j1 (fun h => absurd h (by decide))
  have k2 := iff1_t p2 rfl
  have kd2 : kd' = 2 := by omega
  obtain ⟨ew, hw, hk⟩ := g5 kd2
  have kn : kw = -1 := by
    by_cases g : kw = -1
    · exact g
    · exact absurd ((hk kw.toNat (by omega)).mp (by omega)) (k2.2 kw.toNat (by omega))
  have c0 := hz 0 (by decide) (by decide)
  change dcd (0 : Int).toNat zr = S 200 at c0
  have c1 := hz 1 (by decide) (by decide)
  change dcd (1 : Int).toNat zr = S 201 at c1
  have c2 := hz 2 (by decide) (by decide)
  change dcd (2 : Int).toNat zr = S 202 at c2
  obtain ⟨i, i0', ii⟩ := p3
  have cc : ∃ j : Int, kslot S j ∧ S (100 + j) = w' := by
    rcases ii with ii | ii | ii
    · have fi := fnd_r (s := S) (b := 0) (cnt := S 200) hm h4 ew hw (by decide) (by omega) (fun j a b => by unfold kslot; omega) c0 ii
      obtain ⟨b0, b1⟩ := fndF_pos (f := fun j => S (100 + 0 + j)) i0' fi
      refine ⟨0 + i, by unfold kslot; omega, ?_⟩
      change S (100 + 0 + ((i.toNat : Nat) : Int)) = w' at b1
      rw [show 100 + (0 + i) = 100 + 0 + ((i.toNat : Nat) : Int) by omega]
      exact b1
    · have fi := fnd_r (s := S) (b := 5) (cnt := S 201) hm h4 ew hw (by decide) (by omega) (fun j a b => by unfold kslot; omega) c1 ii
      obtain ⟨b0, b1⟩ := fndF_pos (f := fun j => S (100 + 5 + j)) i0' fi
      refine ⟨5 + i, by unfold kslot; omega, ?_⟩
      change S (100 + 5 + ((i.toNat : Nat) : Int)) = w' at b1
      rw [show 100 + (5 + i) = 100 + 5 + ((i.toNat : Nat) : Int) by omega]
      exact b1
    · have fi := fnd_r (s := S) (b := 13) (cnt := S 202) hm h4 ew hw (by decide) (by omega) (fun j a b => by unfold kslot; omega) c2 ii
      obtain ⟨b0, b1⟩ := fndF_pos (f := fun j => S (100 + 13 + j)) i0' fi
      refine ⟨13 + i, by unfold kslot; omega, ?_⟩
      change S (100 + 13 + ((i.toNat : Nat) : Int)) = w' at b1
      rw [show 100 + (13 + i) = 100 + 13 + ((i.toNat : Nat) : Int) by omega]
      exact b1
  exact ans_mk hR hT (F := _) (by
    rw [sA_6 e0]
    exact stNew_b ⟨kd2, kn⟩ cc) (by omega) rfl
theorem k_r9_ok {z n k zr zm o0 o1 o2 o3 kd fr to nu sg w h zm2 : Int} (p1 : pPRT z n 9 k zr zm o0 o1 o2 o3 0 kd fr to nu sg w) (p2 : pNamr kd w 1) (p3 : pNkr zm zr w) (p4 : pCtr zr 1 h) (p5 : pUpd zm2 zm (h + 5) w) : pPR z n 10 to k zr zm2 o0 o1 o2 o3 0 := by
  obtain ⟨p, ⟨i0, S, hR, e0, rfl, rfl, e3, hz0, hz20, hm, rfl, rfl, rfl, rfl⟩, hT0⟩ := p1
  obtain ⟨kd', f', kw, v', w', hT, g0, g1, g2, g3, g5, g6, g7, g8⟩ := TokR_p hT0
  obtain ⟨h1, h2, h3, h4⟩ := Rch_I hR
  have bb := I1_b h1
  have hz : aAg zr S 200 72 := fun j j0 j1 => hz0 j j0 j1 (fun h => absurd h (by decide))
  have k2 := iff1_t p2 rfl
  have kd2 : kd' = 2 := by omega
  obtain ⟨ew, hw, hk⟩ := g5 kd2
  have kn : kw = -1 := by
    by_cases g : kw = -1
    · exact g
    · exact absurd ((hk kw.toNat (by omega)).mp (by omega)) (k2.2 kw.toNat (by omega))
  have c0 := hz 0 (by decide) (by decide)
  change dcd (0 : Int).toNat zr = S 200 at c0
  have c1 := hz 1 (by decide) (by decide)
  change dcd (1 : Int).toNat zr = S 201 at c1
  have c2 := hz 2 (by decide) (by decide)
  change dcd (2 : Int).toNat zr = S 202 at c2
  have eh := p4.2
  change dcd (1 : Int).toNat zr = h at eh
  rw [c1] at eh
  subst eh
  have hm2 : ∀ j : Int, kslot (adv (up S (100 + (5 + S 201)) w') 10 f') j ∨ pend (adv (up S (100 + (5 + S 201)) w') 10 f') j → 0 ≤ j → j < 19 → dcd j.toNat zm2 = c27 8 ((adv (up S (100 + (5 + S 201)) w') 10 f') (100 + j)) := fun j jq j0 j1 => by
    have x0 : (adv (up S (100 + (5 + S 201)) w') 10 f') 0 = 10 := adv_0
    have x1 : (adv (up S (100 + (5 + S 201)) w') 10 f') 200 = S 200 := by rw [adv_n (by omega) (by omega), up_n (by omega)]
    have x2 : (adv (up S (100 + (5 + S 201)) w') 10 f') 201 = S 201 := by rw [adv_n (by omega) (by omega), up_n (by omega)]
    have x3 : (adv (up S (100 + (5 + S 201)) w') 10 f') 202 = S 202 := by rw [adv_n (by omega) (by omega), up_n (by omega)]
    unfold kslot pend at jq
    rw [x0, x1, x2, x3] at jq
    obtain ⟨u1, u2, u3, u4⟩ := p5
    rw [u4]
    by_cases e : j = 5 + S 201
    · rw [e, show (5 + S 201).toNat = (S 201 + 5).toNat by omega, dcd_us u3 (by omega), adv_n (by omega) (by omega), up_s]
      exact ew
    · rw [dcd_un u3 (by omega) (by omega), adv_n (by omega) (by omega), up_n (by omega)]
      refine hm j ?_ j0 j1
      unfold kslot pend
      rw [e0]
      omega
  have g1' := g1 (by omega)
  clear g1
  try clear g0 g2 g3
  have st : stepA S kd' fr f' kw v' w' = .inl (adv (up S (100 + (5 + S 201)) w') 10 f') := by
    rw [sA_9 e0]
    refine stNew_t ⟨kd2, kn⟩ (fun ⟨j, j0, j1⟩ => ?_)
    have r := own_r h1 (Or.inl j0)
    have m := hm j (Or.inl j0) r.1 r.2
    rw [j1, ← ew] at m
    unfold kslot at j0
    rcases j0 with j0 | j0 | j0
    · have u := p3.1.2.2.2
      change -1 = fndF _ w (dcd (0 : Int).toNat zr).toNat at u
      rw [c0] at u
      refine fndF_neg (f := fun i : Nat => dcd (0 + (i : Int)).toNat zm) (w := w) (n := (S 200).toNat) (by rw [← u]; decide) (j := (j - 0).toNat) (by omega) ?_
      show dcd (0 + (((j - 0).toNat : Nat) : Int)).toNat zm = w
      rw [show 0 + (((j - 0).toNat : Nat) : Int) = j by omega]
      exact m
    · have u := p3.2.1.2.2.2
      change -1 = fndF _ w (dcd (1 : Int).toNat zr).toNat at u
      rw [c1] at u
      refine fndF_neg (f := fun i : Nat => dcd (5 + (i : Int)).toNat zm) (w := w) (n := (S 201).toNat) (by rw [← u]; decide) (j := (j - 5).toNat) (by omega) ?_
      show dcd (5 + (((j - 5).toNat : Nat) : Int)).toNat zm = w
      rw [show 5 + (((j - 5).toNat : Nat) : Int) = j by omega]
      exact m
    · have u := p3.2.2.2.2.2
      change -1 = fndF _ w (dcd (2 : Int).toNat zr).toNat at u
      rw [c2] at u
      refine fndF_neg (f := fun i : Nat => dcd (13 + (i : Int)).toNat zm) (w := w) (n := (S 202).toNat) (by rw [← u]; decide) (j := (j - 13).toNat) (by omega) ?_
      show dcd (13 + (((j - 13).toNat : Nat) : Int)).toNat zm = w
      rw [show 13 + (((j - 13).toNat : Nat) : Int) = j by omega]
      exact m
  have e_0 : (adv (up S (100 + (5 + S 201)) w') 10 f') 0 = 10 := by rw [adv_0]
  have e_200 : (adv (up S (100 + (5 + S 201)) w') 10 f') 200 = S 200 := by rw [adv_n (by omega) (by omega), up_n (by omega)]
  have e_201 : (adv (up S (100 + (5 + S 201)) w') 10 f') 201 = S 201 := by rw [adv_n (by omega) (by omega), up_n (by omega)]
  have e_202 : (adv (up S (100 + (5 + S 201)) w') 10 f') 202 = S 202 := by rw [adv_n (by omega) (by omega), up_n (by omega)]
  exact ⟨i0 + 1, _, ⟨S, kd', fr, f', kw, v', w', hR, hT, st⟩, adv_0, (by rw [adv_1]; exact g1'.symm), (by rw [adv_n (by omega) (by omega), up_n (by omega)]), (by rw [adv_n (by omega) (by omega), up_n (by omega)]; exact e3), (fun j j0 j1 _ => (aAg_a (aAg_o hz (Or.inl (by omega))) (by decide)) j j0 j1), (fun h => absurd h (by decide)), hm2, (by rw [adv_n (by omega) (by omega), up_n (by omega)]), (by rw [adv_n (by omega) (by omega), up_n (by omega)]), (by rw [adv_n (by omega) (by omega), up_n (by omega)]), (by rw [adv_n (by omega) (by omega), up_n (by omega)])⟩
theorem k_r9_bad1 {z n k zr zm o0 o1 o2 o3 kd fr to nu sg w : Int} (p1 : pPRT z n 9 k zr zm o0 o1 o2 o3 0 kd fr to nu sg w) (p2 : pNamr kd w 0) : pAns z n (-1 * fr + -1) 1 := by
  obtain ⟨p, ⟨i0, S, hR, e0, rfl, rfl, e3, hz0, hz20, hm, rfl, rfl, rfl, rfl⟩, hT0⟩ := p1
  obtain ⟨kd', f', kw, v', w', hT, g0, g1, g2, g3, g5, g6, g7, g8⟩ := TokR_p hT0
  obtain ⟨h1, h2, h3, h4⟩ := Rch_I hR
  have bb := I1_b h1
  have hz : aAg zr S 200 72 := fun j j0 j1 => hz0 j j0 j1 (fun h => absurd h (by decide))
  have kn : ¬ (kd' = 2 ∧ kw = -1) := fun ⟨q1, q2⟩ => iff1_f p2 rfl ⟨by omega, fun j hj e => by
    have := ((g5 q1).2.2 j hj).mpr e
    omega⟩
  exact ans_mk hR hT (F := _) (by
    rw [sA_9 e0]
    exact stNew_k kn) (by omega) rfl
end
