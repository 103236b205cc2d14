noncomputable section
/-! T3: rules (printed by wip/v5/gen/rules4.py) -/
theorem k_r12_ok {z n k zr zm o0 o1 o2 o3 kd fr to nu sg w zr2 h c zr4 : Int} (p1 : pPRT z n 12 k zr zm o0 o1 o2 o3 0 kd fr to nu sg w) (p2 : 3 ≤ kd ∧ kd ≤ 3) (p3 : 1 ≤ nu ∧ nu ≤ 30) (p4 : pUpd zr2 zr (h + 34) nu) (p5 : pCtr zr 1 h) (p6 : pCtr zr2 1 c) (p7 : pUpd zr4 zr2 1 (c + 1)) : pPR z n 30 to k zr4 zm o0 o1 o2 o3 0 := by
  obtain ⟨p, ⟨i0, S, hR, e0, rfl, rfl, e3, hz0, hz20, hm, rfl, rfl, rfl, rfl⟩, hT0⟩ := p1
  obtain ⟨kd', f', kw, v', w', hT, g0, g1, g2, g3, g4, g5, g6, g7⟩ := TokR_p hT0
  obtain ⟨t1, t2, t3, t4, t5, t6, t7, t8⟩ := Tok_p hT
  obtain ⟨h1, h2, h3, h4⟩ := Rch_I hR
  have h1' := h1
  unfold I1 at h1
  have hz : aAg zr S 200 72 := fun j j0 j1 => hz0 j j0 j1 (fun h => absurd h (by decide))
  have k3 : kd' = 3 := by omega
  have ev := g2 k3
  have hc := hz 1 (by decide) (by decide)
  change dcd (1 : Int).toNat zr = S 201 at hc
  have eh := p5.2
  change dcd (1 : Int).toNat zr = h at eh
  rw [hc] at eh
  subst eh
  have z2 := aAg_w (i' := 234 + S 201) (v' := v') hz p4 (by decide) (by omega) ev
  have hc2 := z2 1 (by decide) (by decide)
  rw [up_n (by omega)] at hc2
  change dcd (1 : Int).toNat zr2 = S 201 at hc2
  have ec := p6.2
  change dcd (1 : Int).toNat zr2 = c at ec
  rw [hc2] at ec
  subst ec
  have z4 := aAg_w (i' := 201) (v' := S 201 + 1) z2 p7 (by decide) (by decide) rfl
  have st : stepA S kd' fr f' kw v' w' = .inl (adv (up (up S (234 + S 201) v') 201 (S 201 + 1)) 30 f') := by
    rw [sA_12 e0]
    exact stNum_t k3 (by omega) (by omega)
  have e_0 : (adv (up (up S (234 + S 201) v') 201 (S 201 + 1)) 30 f') 0 = 30 := by rw [adv_0]
  have e_200 : (adv (up (up S (234 + S 201) v') 201 (S 201 + 1)) 30 f') 200 = S 200 := by rw [adv_n (by omega) (by omega), up_n (by omega), up_n (by omega)]
  have e_201 : (adv (up (up S (234 + S 201) v') 201 (S 201 + 1)) 30 f') 201 = S 201 + 1 := by rw [adv_n (by omega) (by omega), up_s]
  have e_202 : (adv (up (up S (234 + S 201) v') 201 (S 201 + 1)) 30 f') 202 = S 202 := by rw [adv_n (by omega) (by omega), up_n (by omega), up_n (by omega)]
  have hm' : ∀ j : Int, kslot (adv (up (up S (234 + S 201) v') 201 (S 201 + 1)) 30 f') j ∨ pend (adv (up (up S (234 + S 201) v') 201 (S 201 + 1)) 30 f') j → 0 ≤ j → j < 19 → dcd j.toNat zm = c27 8 ((adv (up (up S (234 + S 201) v') 201 (S 201 + 1)) 30 f') (100 + j)) := fun j jq j0 j1 => by
    unfold kslot pend at jq
    rw [e_0, e_200, e_201, e_202] at jq
    rw [adv_n (by omega) (by omega), up_n (by omega), up_n (by omega)]
    refine hm j ?_ j0 j1
    unfold kslot pend
    rw [e0]
    omega
  exact ⟨i0 + 1, _, ⟨S, kd', fr, f', kw, v', w', hR, hT, st⟩, adv_0, (by rw [adv_1]; exact (g1 (by omega)).symm), (by rw [adv_n (by omega) (by omega), up_n (by omega), up_n (by omega)]), (by rw [adv_n (by omega) (by omega), up_n (by omega), up_n (by omega)]; exact e3), (fun j j0 j1 _ => (aAg_a z4 (by decide)) j j0 j1), (fun h => absurd h (by decide)), hm', (by rw [adv_n (by omega) (by omega), up_n (by omega), up_n (by omega)]), (by rw [adv_n (by omega) (by omega), up_n (by omega), up_n (by omega)]), (by rw [adv_n (by omega) (by omega), up_n (by omega), up_n (by omega)]), (by rw [adv_n (by omega) (by omega), up_n (by omega), up_n (by omega)])⟩
theorem k_r12_bad1 {z n k zr zm o0 o1 o2 o3 kd fr to nu sg w : Int} (p1 : pPRT z n 12 k zr zm o0 o1 o2 o3 0 kd fr to nu sg w) (p2 : kd ≠ 3) : pAns z n (-1 * fr + -1) 1 := by
  obtain ⟨p, ⟨i0, S, hR, e0, rfl, rfl, e3, hz0, hz20, hm, rfl, rfl, rfl, rfl⟩, hT0⟩ := p1
  obtain ⟨kd', f', kw, v', w', hT, g0, g1, g2, g3, g4, g5, g6, g7⟩ := TokR_p hT0
  obtain ⟨t1, t2, t3, t4, t5, t6, t7, t8⟩ := Tok_p hT
  obtain ⟨h1, h2, h3, h4⟩ := Rch_I hR
  have h1' := h1
  unfold I1 at h1
  have hz : aAg zr S 200 72 := fun j j0 j1 => hz0 j j0 j1 (fun h => absurd h (by decide))
  exact ans_mk hR hT (F := _) (by
    rw [sA_12 e0]
    exact stNum_k (by omega)) (by omega) rfl
theorem k_r12_bad3 {z n k zr zm o0 o1 o2 o3 kd fr to nu sg w : Int} (p1 : pPRT z n 12 k zr zm o0 o1 o2 o3 0 kd fr to nu sg w) (p2 : 3 ≤ kd ∧ kd ≤ 3) (p3 : pWin nu 1 30 0) : pAns z n (-1 * fr + -1) 2 := by
  obtain ⟨p, ⟨i0, S, hR, e0, rfl, rfl, e3, hz0, hz20, hm, rfl, rfl, rfl, rfl⟩, hT0⟩ := p1
  obtain ⟨kd', f', kw, v', w', hT, g0, g1, g2, g3, g4, g5, g6, g7⟩ := TokR_p hT0
  obtain ⟨t1, t2, t3, t4, t5, t6, t7, t8⟩ := Tok_p hT
  obtain ⟨h1, h2, h3, h4⟩ := Rch_I hR
  have h1' := h1
  unfold I1 at h1
  have hz : aAg zr S 200 72 := fun j j0 j1 => hz0 j j0 j1 (fun h => absurd h (by decide))
  exact ans_mk hR hT (F := _) (by
    rw [sA_12 e0]
    exact stNum_v (by omega) (by rw [← g2 (by omega)]; exact iff1_f p3 rfl)) (by omega) rfl
theorem k_r14_ok {z n k zr zm o0 o1 o2 o3 kd fr to nu sg w zr2 h : Int} (p1 : pPRT z n 14 k zr zm o0 o1 o2 o3 0 kd fr to nu sg w) (p2 : 3 ≤ kd ∧ kd ≤ 3) (p3 : 0 ≤ nu ∧ nu ≤ 99) (p4 : pUpd zr2 zr (h + 42) nu) (p5 : pCtr zr 2 h) : pPR z n 15 to k zr2 zm o0 o1 o2 o3 0 := by
  obtain ⟨p, ⟨i0, S, hR, e0, rfl, rfl, e3, hz0, hz20, hm, rfl, rfl, rfl, rfl⟩, hT0⟩ := p1
  obtain ⟨kd', f', kw, v', w', hT, g0, g1, g2, g3, g4, g5, g6, g7⟩ := TokR_p hT0
  obtain ⟨t1, t2, t3, t4, t5, t6, t7, t8⟩ := Tok_p hT
  obtain ⟨h1, h2, h3, h4⟩ := Rch_I hR
  have h1' := h1
  unfold I1 at h1
  have hz : aAg zr S 200 72 := fun j j0 j1 => hz0 j j0 j1 (fun h => absurd h (by decide))
  have k3 : kd' = 3 := by omega
  have ev := g2 k3
  have hc := hz 2 (by decide) (by decide)
  change dcd (2 : Int).toNat zr = S 202 at hc
  have eh := p5.2
  change dcd (2 : Int).toNat zr = h at eh
  rw [hc] at eh
  subst eh
  have z2 := aAg_w (i' := 242 + S 202) (v' := v') hz p4 (by decide) (by omega) ev
  have st : stepA S kd' fr f' kw v' w' = .inl (adv (up S (242 + S 202) v') 15 f') := by
    rw [sA_14 e0]
    exact stNum_t k3 (by omega) (by omega)
  have e_0 : (adv (up S (242 + S 202) v') 15 f') 0 = 15 := by rw [adv_0]
  have e_200 : (adv (up S (242 + S 202) v') 15 f') 200 = S 200 := by rw [adv_n (by omega) (by omega), up_n (by omega)]
  have e_201 : (adv (up S (242 + S 202) v') 15 f') 201 = S 201 := by rw [adv_n (by omega) (by omega), up_n (by omega)]
  have e_202 : (adv (up S (242 + S 202) v') 15 f') 202 = S 202 := by rw [adv_n (by omega) (by omega), up_n (by omega)]
  have hm' : ∀ j : Int, kslot (adv (up S (242 + S 202) v') 15 f') j ∨ pend (adv (up S (242 + S 202) v') 15 f') j → 0 ≤ j → j < 19 → dcd j.toNat zm = c27 8 ((adv (up S (242 + S 202) v') 15 f') (100 + j)) := fun j jq j0 j1 => by
    unfold kslot pend at jq
    rw [e_0, e_200, e_201, e_202] at jq
    rw [adv_n (by omega) (by omega), up_n (by omega)]
    refine hm j ?_ j0 j1
    unfold kslot pend
    rw [e0]
    omega
  exact ⟨i0 + 1, _, ⟨S, kd', fr, f', kw, v', w', hR, hT, st⟩, adv_0, (by rw [adv_1]; exact (g1 (by omega)).symm), (by rw [adv_n (by omega) (by omega), up_n (by omega)]), (by rw [adv_n (by omega) (by omega), up_n (by omega)]; exact e3), (fun j j0 j1 _ => (aAg_a z2 (by decide)) j j0 j1), (fun h => absurd h (by decide)), hm', (by rw [adv_n (by omega) (by omega), up_n (by omega)]), (by rw [adv_n (by omega) (by omega), up_n (by omega)]), (by rw [adv_n (by omega) (by omega), up_n (by omega)]), (by rw [adv_n (by omega) (by omega), up_n (by omega)])⟩
theorem k_r14_bad1 {z n k zr zm o0 o1 o2 o3 kd fr to nu sg w : Int} (p1 : pPRT z n 14 k zr zm o0 o1 o2 o3 0 kd fr to nu sg w) (p2 : kd ≠ 3) : pAns z n (-1 * fr + -1) 1 := by
  obtain ⟨p, ⟨i0, S, hR, e0, rfl, rfl, e3, hz0, hz20, hm, rfl, rfl, rfl, rfl⟩, hT0⟩ := p1
  obtain ⟨kd', f', kw, v', w', hT, g0, g1, g2, g3, g4, g5, g6, g7⟩ := TokR_p hT0
  obtain ⟨t1, t2, t3, t4, t5, t6, t7, t8⟩ := Tok_p hT
  obtain ⟨h1, h2, h3, h4⟩ := Rch_I hR
  have h1' := h1
  unfold I1 at h1
  have hz : aAg zr S 200 72 := fun j j0 j1 => hz0 j j0 j1 (fun h => absurd h (by decide))
  exact ans_mk hR hT (F := _) (by
    rw [sA_14 e0]
    exact stNum_k (by omega)) (by omega) rfl
theorem k_r14_bad3 {z n k zr zm o0 o1 o2 o3 kd fr to nu sg w : Int} (p1 : pPRT z n 14 k zr zm o0 o1 o2 o3 0 kd fr to nu sg w) (p2 : 3 ≤ kd ∧ kd ≤ 3) (p3 : pWin nu 0 99 0) : pAns z n (-1 * fr + -1) 2 := by
  obtain ⟨p, ⟨i0, S, hR, e0, rfl, rfl, e3, hz0, hz20, hm, rfl, rfl, rfl, rfl⟩, hT0⟩ := p1
  obtain ⟨kd', f', kw, v', w', hT, g0, g1, g2, g3, g4, g5, g6, g7⟩ := TokR_p hT0
  obtain ⟨t1, t2, t3, t4, t5, t6, t7, t8⟩ := Tok_p hT
  obtain ⟨h1, h2, h3, h4⟩ := Rch_I hR
  have h1' := h1
  unfold I1 at h1
  have hz : aAg zr S 200 72 := fun j j0 j1 => hz0 j j0 j1 (fun h => absurd h (by decide))
  exact ans_mk hR hT (F := _) (by
    rw [sA_14 e0]
    exact stNum_v (by omega) (by rw [← g2 (by omega)]; exact iff1_f p3 rfl)) (by omega) rfl
theorem k_r15_ok {z n k zr zm o0 o1 o2 o3 kd fr to nu sg w zr2 h zr3 c zr4 : Int} (p1 : pPRT z n 15 k zr zm o0 o1 o2 o3 0 kd fr to nu sg w) (p2 : 3 ≤ kd ∧ kd ≤ 3) (p3 : 0 ≤ nu ∧ nu ≤ 20) (p4 : pUpd zr2 zr (h + 48) nu) (p5 : pCtr zr 2 h) (p6 : pUpd zr3 zr2 (h + 60) (-1)) (p7 : pCtr zr3 2 c) (p8 : pUpd zr4 zr3 2 (c + 1)) : pPR z n 30 to k zr4 zm o0 o1 o2 o3 0 := by
  obtain ⟨p, ⟨i0, S, hR, e0, rfl, rfl, e3, hz0, hz20, hm, rfl, rfl, rfl, rfl⟩, hT0⟩ := p1
  obtain ⟨kd', f', kw, v', w', hT, g0, g1, g2, g3, g4, g5, g6, g7⟩ := TokR_p hT0
  obtain ⟨t1, t2, t3, t4, t5, t6, t7, t8⟩ := Tok_p hT
  obtain ⟨h1, h2, h3, h4⟩ := Rch_I hR
  have h1' := h1
  unfold I1 at h1
  have hz : aAg zr S 200 72 := fun j j0 j1 => hz0 j j0 j1 (fun h => absurd h (by decide))
  have k3 : kd' = 3 := by omega
  have ev := g2 k3
  have hc := hz 2 (by decide) (by decide)
  change dcd (2 : Int).toNat zr = S 202 at hc
  have eh := p5.2
  change dcd (2 : Int).toNat zr = h at eh
  rw [hc] at eh
  subst eh
  have z2 := aAg_w (i' := 248 + S 202) (v' := v') hz p4 (by decide) (by omega) ev
  have z3 := aAg_k z2 p6 (by decide) (fun _ => by
    rw [up_n (by omega)]
    have q := h3 (S 202) (by omega) (by omega)
    rw [show 200 + (S 202 + 60) = 260 + S 202 by omega]
    exact q)
  have hc2 := z3 2 (by decide) (by decide)
  rw [up_n (by omega)] at hc2
  change dcd (2 : Int).toNat zr3 = S 202 at hc2
  have ec := p7.2
  change dcd (2 : Int).toNat zr3 = c at ec
  rw [hc2] at ec
  subst ec
  have z4 := aAg_w (i' := 202) (v' := S 202 + 1) z3 p8 (by decide) (by decide) rfl
  have st : stepA S kd' fr f' kw v' w' = .inl (adv (up (up S (248 + S 202) v') 202 (S 202 + 1)) 30 f') := by
    rw [sA_15 e0]
    exact stNum_t k3 (by omega) (by omega)
  have e_0 : (adv (up (up S (248 + S 202) v') 202 (S 202 + 1)) 30 f') 0 = 30 := by rw [adv_0]
  have e_200 : (adv (up (up S (248 + S 202) v') 202 (S 202 + 1)) 30 f') 200 = S 200 := by rw [adv_n (by omega) (by omega), up_n (by omega), up_n (by omega)]
  have e_201 : (adv (up (up S (248 + S 202) v') 202 (S 202 + 1)) 30 f') 201 = S 201 := by rw [adv_n (by omega) (by omega), up_n (by omega), up_n (by omega)]
  have e_202 : (adv (up (up S (248 + S 202) v') 202 (S 202 + 1)) 30 f') 202 = S 202 + 1 := by rw [adv_n (by omega) (by omega), up_s]
  have hm' : ∀ j : Int, kslot (adv (up (up S (248 + S 202) v') 202 (S 202 + 1)) 30 f') j ∨ pend (adv (up (up S (248 + S 202) v') 202 (S 202 + 1)) 30 f') j → 0 ≤ j → j < 19 → dcd j.toNat zm = c27 8 ((adv (up (up S (248 + S 202) v') 202 (S 202 + 1)) 30 f') (100 + j)) := fun j jq j0 j1 => by
    unfold kslot pend at jq
    rw [e_0, e_200, e_201, e_202] at jq
    rw [adv_n (by omega) (by omega), up_n (by omega), up_n (by omega)]
    refine hm j ?_ j0 j1
    unfold kslot pend
    rw [e0]
    omega
  exact ⟨i0 + 1, _, ⟨S, kd', fr, f', kw, v', w', hR, hT, st⟩, adv_0, (by rw [adv_1]; exact (g1 (by omega)).symm), (by rw [adv_n (by omega) (by omega), up_n (by omega), up_n (by omega)]), (by rw [adv_n (by omega) (by omega), up_n (by omega), up_n (by omega)]; exact e3), (fun j j0 j1 _ => (aAg_a z4 (by decide)) j j0 j1), (fun h => absurd h (by decide)), hm', (by rw [adv_n (by omega) (by omega), up_n (by omega), up_n (by omega)]), (by rw [adv_n (by omega) (by omega), up_n (by omega), up_n (by omega)]), (by rw [adv_n (by omega) (by omega), up_n (by omega), up_n (by omega)]), (by rw [adv_n (by omega) (by omega), up_n (by omega), up_n (by omega)])⟩
theorem k_r15_bad1 {z n k zr zm o0 o1 o2 o3 kd fr to nu sg w : Int} (p1 : pPRT z n 15 k zr zm o0 o1 o2 o3 0 kd fr to nu sg w) (p2 : kd ≠ 3) : pAns z n (-1 * fr + -1) 1 := by
  obtain ⟨p, ⟨i0, S, hR, e0, rfl, rfl, e3, hz0, hz20, hm, rfl, rfl, rfl, rfl⟩, hT0⟩ := p1
  obtain ⟨kd', f', kw, v', w', hT, g0, g1, g2, g3, g4, g5, g6, g7⟩ := TokR_p hT0
  obtain ⟨t1, t2, t3, t4, t5, t6, t7, t8⟩ := Tok_p hT
  obtain ⟨h1, h2, h3, h4⟩ := Rch_I hR
  have h1' := h1
  unfold I1 at h1
  have hz : aAg zr S 200 72 := fun j j0 j1 => hz0 j j0 j1 (fun h => absurd h (by decide))
  exact ans_mk hR hT (F := _) (by
    rw [sA_15 e0]
    exact stNum_k (by omega)) (by omega) rfl
theorem k_r15_bad3 {z n k zr zm o0 o1 o2 o3 kd fr to nu sg w : Int} (p1 : pPRT z n 15 k zr zm o0 o1 o2 o3 0 kd fr to nu sg w) (p2 : 3 ≤ kd ∧ kd ≤ 3) (p3 : pWin nu 0 20 0) : pAns z n (-1 * fr + -1) 2 := by
  obtain ⟨p, ⟨i0, S, hR, e0, rfl, rfl, e3, hz0, hz20, hm, rfl, rfl, rfl, rfl⟩, hT0⟩ := p1
  obtain ⟨kd', f', kw, v', w', hT, g0, g1, g2, g3, g4, g5, g6, g7⟩ := TokR_p hT0
  obtain ⟨t1, t2, t3, t4, t5, t6, t7, t8⟩ := Tok_p hT
  obtain ⟨h1, h2, h3, h4⟩ := Rch_I hR
  have h1' := h1
  unfold I1 at h1
  have hz : aAg zr S 200 72 := fun j j0 j1 => hz0 j j0 j1 (fun h => absurd h (by decide))
  exact ans_mk hR hT (F := _) (by
    rw [sA_15 e0]
    exact stNum_v (by omega) (by rw [← g2 (by omega)]; exact iff1_f p3 rfl)) (by omega) rfl
theorem k_r6_ok {z n k zr zm o0 o1 o2 o3 kd fr to nu sg w h zm2 : Int} (p1 : pPRT z n 6 k zr zm o0 o1 o2 o3 0 kd fr to nu sg w) (p2 : pNamr kd w 1) (p3 : pNkr zm zr w) (p4 : pCtr zr 0 h) (p5 : pUpd zm2 zm h w) : pPR z n 7 to k zr zm2 o0 o1 o2 o3 0 := by
  obtain ⟨p, ⟨i0, S, hR, e0, rfl, rfl, e3, hz0, hz20, hm, rfl, rfl, rfl, rfl⟩, hT0⟩ := p1
  obtain ⟨kd', f', kw, v', w', hT, g0, g1, g2, g3, g4, g5, g6, g7⟩ := TokR_p hT0
  obtain ⟨t1, t2, t3, t4, t5, t6, t7, t8⟩ := Tok_p hT
  obtain ⟨h1, h2, h3, h4⟩ := Rch_I hR
  have h1' := h1
  unfold I1 at h1
  have hz : aAg zr S 200 72 := fun j j0 j1 => hz0 j j0 j1 (fun h => absurd h (by decide))
  have k2 := iff1_t p2 rfl
  have kd2 : kd' = 2 := by omega
  obtain ⟨ew, hw, hk⟩ := g5 kd2
  have kn : kw = -1 := by
    by_cases g : kw = -1
    · exact g
    · exact absurd ((hk kw.toNat (by omega)).mp (by omega)) (k2.2 kw.toNat (by omega))
  have c0 := hz 0 (by decide) (by decide)
  change dcd (0 : Int).toNat zr = S 200 at c0
  have c1 := hz 1 (by decide) (by decide)
  change dcd (1 : Int).toNat zr = S 201 at c1
  have c2 := hz 2 (by decide) (by decide)
  change dcd (2 : Int).toNat zr = S 202 at c2
  have eh := p4.2
  change dcd (0 : Int).toNat zr = h at eh
  rw [c0] at eh
  subst eh
  have hm2 : ∀ j : Int, kslot (adv (up S (100 + S 200) w') 7 f') j ∨ pend (adv (up S (100 + S 200) w') 7 f') j → 0 ≤ j → j < 19 → dcd j.toNat zm2 = c27 8 ((adv (up S (100 + S 200) w') 7 f') (100 + j)) := fun j jq j0 j1 => by
    have x0 : (adv (up S (100 + S 200) w') 7 f') 0 = 7 := adv_0
    have x1 : (adv (up S (100 + S 200) w') 7 f') 200 = S 200 := by rw [adv_n (by omega) (by omega), up_n (by omega)]
    have x2 : (adv (up S (100 + S 200) w') 7 f') 201 = S 201 := by rw [adv_n (by omega) (by omega), up_n (by omega)]
    have x3 : (adv (up S (100 + S 200) w') 7 f') 202 = S 202 := by rw [adv_n (by omega) (by omega), up_n (by omega)]
    unfold kslot pend at jq
    rw [x0, x1, x2, x3] at jq
    obtain ⟨u1, u2, u3, u4⟩ := p5
    rw [u4]
    by_cases e : j = S 200
    · rw [e, show (S 200).toNat = (S 200).toNat by omega, dcd_us u3 (by omega), adv_n (by omega) (by omega), up_s]
      exact ew
    · rw [dcd_un u3 (by omega) (by omega), adv_n (by omega) (by omega), up_n (by omega)]
      refine hm j ?_ j0 j1
      unfold kslot pend
      rw [e0]
      omega
  have st : stepA S kd' fr f' kw v' w' = .inl (adv (up S (100 + S 200) w') 7 f') := by
    rw [sA_6 e0]
    refine stNew_t ⟨kd2, kn⟩ (fun ⟨j, j0, j1⟩ => ?_)
    have r := own_r h1' (Or.inl j0)
    have m := hm j (Or.inl j0) r.1 r.2
    rw [j1, ← ew] at m
    unfold kslot at j0
    rcases j0 with j0 | j0 | j0
    · have u := p3.1.2.2.2
      change -1 = fndF _ w (dcd (0 : Int).toNat zr).toNat at u
      rw [c0] at u
      refine fndF_neg (f := fun i : Nat => dcd (0 + (i : Int)).toNat zm) (w := w) (n := (S 200).toNat) (by rw [← u]; decide) (j := (j - 0).toNat) (by omega) ?_
      show dcd (0 + (((j - 0).toNat : Nat) : Int)).toNat zm = w
      rw [show 0 + (((j - 0).toNat : Nat) : Int) = j by omega]
      exact m
    · have u := p3.2.1.2.2.2
      change -1 = fndF _ w (dcd (1 : Int).toNat zr).toNat at u
      rw [c1] at u
      refine fndF_neg (f := fun i : Nat => dcd (5 + (i : Int)).toNat zm) (w := w) (n := (S 201).toNat) (by rw [← u]; decide) (j := (j - 5).toNat) (by omega) ?_
      show dcd (5 + (((j - 5).toNat : Nat) : Int)).toNat zm = w
      rw [show 5 + (((j - 5).toNat : Nat) : Int) = j by omega]
      exact m
    · have u := p3.2.2.2.2.2
      change -1 = fndF _ w (dcd (2 : Int).toNat zr).toNat at u
      rw [c2] at u
      refine fndF_neg (f := fun i : Nat => dcd (13 + (i : Int)).toNat zm) (w := w) (n := (S 202).toNat) (by rw [← u]; decide) (j := (j - 13).toNat) (by omega) ?_
      show dcd (13 + (((j - 13).toNat : Nat) : Int)).toNat zm = w
      rw [show 13 + (((j - 13).toNat : Nat) : Int) = j by omega]
      exact m
  have e_0 : (adv (up S (100 + S 200) w') 7 f') 0 = 7 := by rw [adv_0]
  have e_200 : (adv (up S (100 + S 200) w') 7 f') 200 = S 200 := by rw [adv_n (by omega) (by omega), up_n (by omega)]
  have e_201 : (adv (up S (100 + S 200) w') 7 f') 201 = S 201 := by rw [adv_n (by omega) (by omega), up_n (by omega)]
  have e_202 : (adv (up S (100 + S 200) w') 7 f') 202 = S 202 := by rw [adv_n (by omega) (by omega), up_n (by omega)]
  exact ⟨i0 + 1, _, ⟨S, kd', fr, f', kw, v', w', hR, hT, st⟩, adv_0, (by rw [adv_1]; exact (g1 (by omega)).symm), (by rw [adv_n (by omega) (by omega), up_n (by omega)]), (by rw [adv_n (by omega) (by omega), up_n (by omega)]; exact e3), (fun j j0 j1 _ => (aAg_a (aAg_o hz (Or.inl (by omega))) (by decide)) j j0 j1), (fun h => absurd h (by decide)), hm2, (by rw [adv_n (by omega) (by omega), up_n (by omega)]), (by rw [adv_n (by omega) (by omega), up_n (by omega)]), (by rw [adv_n (by omega) (by omega), up_n (by omega)]), (by rw [adv_n (by omega) (by omega), up_n (by omega)])⟩
theorem k_r6_bad1 {z n k zr zm o0 o1 o2 o3 kd fr to nu sg w : Int} (p1 : pPRT z n 6 k zr zm o0 o1 o2 o3 0 kd fr to nu sg w) (p2 : pNamr kd w 0) : pAns z n (-1 * fr + -1) 1 := by
  obtain ⟨p, ⟨i0, S, hR, e0, rfl, rfl, e3, hz0, hz20, hm, rfl, rfl, rfl, rfl⟩, hT0⟩ := p1
  obtain ⟨kd', f', kw, v', w', hT, g0, g1, g2, g3, g4, g5, g6, g7⟩ := TokR_p hT0
  obtain ⟨t1, t2, t3, t4, t5, t6, t7, t8⟩ := Tok_p hT
  obtain ⟨h1, h2, h3, h4⟩ := Rch_I hR
  have h1' := h1
  unfold I1 at h1
  have hz : aAg zr S 200 72 := fun j j0 j1 => hz0 j j0 j1 (fun h => absurd h (by decide))
  have kn : ¬ (kd' = 2 ∧ kw = -1) := fun ⟨q1, q2⟩ => iff1_f p2 rfl ⟨by omega, fun j hj e => by
    have := ((g5 q1).2.2 j hj).mpr e
    omega⟩
  exact ans_mk hR hT (F := _) (by
    rw [sA_6 e0]
    exact stNew_k kn) (by omega) rfl
theorem k_r6_bad2 {z n k zr zm o0 o1 o2 o3 kd fr to nu sg w : Int} (p1 : pPRT z n 6 k zr zm o0 o1 o2 o3 0 kd fr to nu sg w) (p2 : pNamr kd w 1) (p3 : pKnr zm zr w) : pAns z n (-1 * fr + -1) 3 := by
  obtain ⟨p, ⟨i0, S, hR, e0, rfl, rfl, e3, hz0, hz20, hm, rfl, rfl, rfl, rfl⟩, hT0⟩ := p1
  obtain ⟨kd', f', kw, v', w', hT, g0, g1, g2, g3, g4, g5, g6, g7⟩ := TokR_p hT0
  obtain ⟨t1, t2, t3, t4, t5, t6, t7, t8⟩ := Tok_p hT
  obtain ⟨h1, h2, h3, h4⟩ := Rch_I hR
  have h1' := h1
  unfold I1 at h1
  have hz : aAg zr S 200 72 := fun j j0 j1 => hz0 j j0 j1 (fun h => absurd h (by decide))
  have k2 := iff1_t p2 rfl
  have kd2 : kd' = 2 := by omega
  obtain ⟨ew, hw, hk⟩ := g5 kd2
  have kn : kw = -1 := by
    by_cases g : kw = -1
    · exact g
    · exact absurd ((hk kw.toNat (by omega)).mp (by omega)) (k2.2 kw.toNat (by omega))
  have c0 := hz 0 (by decide) (by decide)
  change dcd (0 : Int).toNat zr = S 200 at c0
  have c1 := hz 1 (by decide) (by decide)
  change dcd (1 : Int).toNat zr = S 201 at c1
  have c2 := hz 2 (by decide) (by decide)
  change dcd (2 : Int).toNat zr = S 202 at c2
  obtain ⟨i, i0', ii⟩ := p3
  have cc : ∃ j : Int, kslot S j ∧ S (100 + j) = w' := by
    rcases ii with ii | ii | ii
    · have fi := fnd_r (s := S) (b := 0) (cnt := S 200) hm h4 ew hw (by decide) (by omega) (fun j a b => by unfold kslot; omega) c0 ii
      obtain ⟨b0, b1⟩ := fndF_pos (f := fun j => S (100 + 0 + j)) i0' fi
      refine ⟨0 + i, by unfold kslot; omega, ?_⟩
      change S (100 + 0 + ((i.toNat : Nat) : Int)) = w' at b1
      rw [show 100 + (0 + i) = 100 + 0 + ((i.toNat : Nat) : Int) by omega]
      exact b1
    · have fi := fnd_r (s := S) (b := 5) (cnt := S 201) hm h4 ew hw (by decide) (by omega) (fun j a b => by unfold kslot; omega) c1 ii
      obtain ⟨b0, b1⟩ := fndF_pos (f := fun j => S (100 + 5 + j)) i0' fi
      refine ⟨5 + i, by unfold kslot; omega, ?_⟩
      change S (100 + 5 + ((i.toNat : Nat) : Int)) = w' at b1
      rw [show 100 + (5 + i) = 100 + 5 + ((i.toNat : Nat) : Int) by omega]
      exact b1
    · have fi := fnd_r (s := S) (b := 13) (cnt := S 202) hm h4 ew hw (by decide) (by omega) (fun j a b => by unfold kslot; omega) c2 ii
      obtain ⟨b0, b1⟩ := fndF_pos (f := fun j => S (100 + 13 + j)) i0' fi
      refine ⟨13 + i, by unfold kslot; omega, ?_⟩
      change S (100 + 13 + ((i.toNat : Nat) : Int)) = w' at b1
      rw [show 100 + (13 + i) = 100 + 13 + ((i.toNat : Nat) : Int) by omega]
      exact b1
  exact ans_mk hR hT (F := _) (by
    rw [sA_6 e0]
    exact stNew_b ⟨kd2, kn⟩ cc) (by omega) rfl
theorem k_r9_ok {z n k zr zm o0 o1 o2 o3 kd fr to nu sg w h zm2 : Int} (p1 : pPRT z n 9 k zr zm o0 o1 o2 o3 0 kd fr to nu sg w) (p2 : pNamr kd w 1) (p3 : pNkr zm zr w) (p4 : pCtr zr 1 h) (p5 : pUpd zm2 zm (h + 5) w) : pPR z n 10 to k zr zm2 o0 o1 o2 o3 0 := by
  obtain ⟨p, ⟨i0, S, hR, e0, rfl, rfl, e3, hz0, hz20, hm, rfl, rfl, rfl, rfl⟩, hT0⟩ := p1
  obtain ⟨kd', f', kw, v', w', hT, g0, g1, g2, g3, g4, g5, g6, g7⟩ := TokR_p hT0
  obtain ⟨t1, t2, t3, t4, t5, t6, t7, t8⟩ := Tok_p hT
  obtain ⟨h1, h2, h3, h4⟩ := Rch_I hR
  have h1' := h1
  unfold I1 at h1
  have hz : aAg zr S 200 72 := fun j j0 j1 => hz0 j j0 j1 (fun h => absurd h (by decide))
  have k2 := iff1_t p2 rfl
  have kd2 : kd' = 2 := by omega
  obtain ⟨ew, hw, hk⟩ := g5 kd2
  have kn : kw = -1 := by
    by_cases g : kw = -1
    · exact g
    · exact absurd ((hk kw.toNat (by omega)).mp (by omega)) (k2.2 kw.toNat (by omega))
  have c0 := hz 0 (by decide) (by decide)
  change dcd (0 : Int).toNat zr = S 200 at c0
  have c1 := hz 1 (by decide) (by decide)
  change dcd (1 : Int).toNat zr = S 201 at c1
  have c2 := hz 2 (by decide) (by decide)
  change dcd (2 : Int).toNat zr = S 202 at c2
  have eh := p4.2
  change dcd (1 : Int).toNat zr = h at eh
  rw [c1] at eh
  subst eh
  have hm2 : ∀ j : Int, kslot (adv (up S (100 + (5 + S 201)) w') 10 f') j ∨ pend (adv (up S (100 + (5 + S 201)) w') 10 f') j → 0 ≤ j → j < 19 → dcd j.toNat zm2 = c27 8 ((adv (up S (100 + (5 + S 201)) w') 10 f') (100 + j)) := fun j jq j0 j1 => by
    have x0 : (adv (up S (100 + (5 + S 201)) w') 10 f') 0 = 10 := adv_0
    have x1 : (adv (up S (100 + (5 + S 201)) w') 10 f') 200 = S 200 := by rw [adv_n (by omega) (by omega), up_n (by omega)]
    have x2 : (adv (up S (100 + (5 + S 201)) w') 10 f') 201 = S 201 := by rw [adv_n (by omega) (by omega), up_n (by omega)]
    have x3 : (adv (up S (100 + (5 + S 201)) w') 10 f') 202 = S 202 := by rw [adv_n (by omega) (by omega), up_n (by omega)]
    unfold kslot pend at jq
    rw [x0, x1, x2, x3] at jq
    obtain ⟨u1, u2, u3, u4⟩ := p5
    rw [u4]
    by_cases e : j = 5 + S 201
    · rw [e, show (5 + S 201).toNat = (S 201 + 5).toNat by omega, dcd_us u3 (by omega), adv_n (by omega) (by omega), up_s]
      exact ew
    · rw [dcd_un u3 (by omega) (by omega), adv_n (by omega) (by omega), up_n (by omega)]
      refine hm j ?_ j0 j1
      unfold kslot pend
      rw [e0]
      omega
  have st : stepA S kd' fr f' kw v' w' = .inl (adv (up S (100 + (5 + S 201)) w') 10 f') := by
    rw [sA_9 e0]
    refine stNew_t ⟨kd2, kn⟩ (fun ⟨j, j0, j1⟩ => ?_)
    have r := own_r h1' (Or.inl j0)
    have m := hm j (Or.inl j0) r.1 r.2
    rw [j1, ← ew] at m
    unfold kslot at j0
    rcases j0 with j0 | j0 | j0
    · have u := p3.1.2.2.2
      change -1 = fndF _ w (dcd (0 : Int).toNat zr).toNat at u
      rw [c0] at u
      refine fndF_neg (f := fun i : Nat => dcd (0 + (i : Int)).toNat zm) (w := w) (n := (S 200).toNat) (by rw [← u]; decide) (j := (j - 0).toNat) (by omega) ?_
      show dcd (0 + (((j - 0).toNat : Nat) : Int)).toNat zm = w
      rw [show 0 + (((j - 0).toNat : Nat) : Int) = j by omega]
      exact m
    · have u := p3.2.1.2.2.2
      change -1 = fndF _ w (dcd (1 : Int).toNat zr).toNat at u
      rw [c1] at u
      refine fndF_neg (f := fun i : Nat => dcd (5 + (i : Int)).toNat zm) (w := w) (n := (S 201).toNat) (by rw [← u]; decide) (j := (j - 5).toNat) (by omega) ?_
      show dcd (5 + (((j - 5).toNat : Nat) : Int)).toNat zm = w
      rw [show 5 + (((j - 5).toNat : Nat) : Int) = j by omega]
      exact m
    · have u := p3.2.2.2.2.2
      change -1 = fndF _ w (dcd (2 : Int).toNat zr).toNat at u
      rw [c2] at u
      refine fndF_neg (f := fun i : Nat => dcd (13 + (i : Int)).toNat zm) (w := w) (n := (S 202).toNat) (by rw [← u]; decide) (j := (j - 13).toNat) (by omega) ?_
      show dcd (13 + (((j - 13).toNat : Nat) : Int)).toNat zm = w
      rw [show 13 + (((j - 13).toNat : Nat) : Int) = j by omega]
      exact m
  have e_0 : (adv (up S (100 + (5 + S 201)) w') 10 f') 0 = 10 := by rw [adv_0]
  have e_200 : (adv (up S (100 + (5 + S 201)) w') 10 f') 200 = S 200 := by rw [adv_n (by omega) (by omega), up_n (by omega)]
  have e_201 : (adv (up S (100 + (5 + S 201)) w') 10 f') 201 = S 201 := by rw [adv_n (by omega) (by omega), up_n (by omega)]
  have e_202 : (adv (up S (100 + (5 + S 201)) w') 10 f') 202 = S 202 := by rw [adv_n (by omega) (by omega), up_n (by omega)]
  exact ⟨i0 + 1, _, ⟨S, kd', fr, f', kw, v', w', hR, hT, st⟩, adv_0, (by rw [adv_1]; exact (g1 (by omega)).symm), (by rw [adv_n (by omega) (by omega), up_n (by omega)]), (by rw [adv_n (by omega) (by omega), up_n (by omega)]; exact e3), (fun j j0 j1 _ => (aAg_a (aAg_o hz (Or.inl (by omega))) (by decide)) j j0 j1), (fun h => absurd h (by decide)), hm2, (by rw [adv_n (by omega) (by omega), up_n (by omega)]), (by rw [adv_n (by omega) (by omega), up_n (by omega)]), (by rw [adv_n (by omega) (by omega), up_n (by omega)]), (by rw [adv_n (by omega) (by omega), up_n (by omega)])⟩
theorem k_r9_bad1 {z n k zr zm o0 o1 o2 o3 kd fr to nu sg w : Int} (p1 : pPRT z n 9 k zr zm o0 o1 o2 o3 0 kd fr to nu sg w) (p2 : pNamr kd w 0) : pAns z n (-1 * fr + -1) 1 := by
  obtain ⟨p, ⟨i0, S, hR, e0, rfl, rfl, e3, hz0, hz20, hm, rfl, rfl, rfl, rfl⟩, hT0⟩ := p1
  obtain ⟨kd', f', kw, v', w', hT, g0, g1, g2, g3, g4, g5, g6, g7⟩ := TokR_p hT0
  obtain ⟨t1, t2, t3, t4, t5, t6, t7, t8⟩ := Tok_p hT
  obtain ⟨h1, h2, h3, h4⟩ := Rch_I hR
  have h1' := h1
  unfold I1 at h1
  have hz : aAg zr S 200 72 := fun j j0 j1 => hz0 j j0 j1 (fun h => absurd h (by decide))
  have kn : ¬ (kd' = 2 ∧ kw = -1) := fun ⟨q1, q2⟩ => iff1_f p2 rfl ⟨by omega, fun j hj e => by
    have := ((g5 q1).2.2 j hj).mpr e
    omega⟩
  exact ans_mk hR hT (F := _) (by
    rw [sA_9 e0]
    exact stNew_k kn) (by omega) rfl
theorem k_r9_bad2 {z n k zr zm o0 o1 o2 o3 kd fr to nu sg w : Int} (p1 : pPRT z n 9 k zr zm o0 o1 o2 o3 0 kd fr to nu sg w) (p2 : pNamr kd w 1) (p3 : pKnr zm zr w) : pAns z n (-1 * fr + -1) 3 := by
  obtain ⟨p, ⟨i0, S, hR, e0, rfl, rfl, e3, hz0, hz20, hm, rfl, rfl, rfl, rfl⟩, hT0⟩ := p1
  obtain ⟨kd', f', kw, v', w', hT, g0, g1, g2, g3, g4, g5, g6, g7⟩ := TokR_p hT0
  obtain ⟨t1, t2, t3, t4, t5, t6, t7, t8⟩ := Tok_p hT
  obtain ⟨h1, h2, h3, h4⟩ := Rch_I hR
  have h1' := h1
  unfold I1 at h1
  have hz : aAg zr S 200 72 := fun j j0 j1 => hz0 j j0 j1 (fun h => absurd h (by decide))
  have k2 := iff1_t p2 rfl
  have kd2 : kd' = 2 := by omega
  obtain ⟨ew, hw, hk⟩ := g5 kd2
  have kn : kw = -1 := by
    by_cases g : kw = -1
    · exact g
    · exact absurd ((hk kw.toNat (by omega)).mp (by omega)) (k2.2 kw.toNat (by omega))
  have c0 := hz 0 (by decide) (by decide)
  change dcd (0 : Int).toNat zr = S 200 at c0
  have c1 := hz 1 (by decide) (by decide)
  change dcd (1 : Int).toNat zr = S 201 at c1
  have c2 := hz 2 (by decide) (by decide)
  change dcd (2 : Int).toNat zr = S 202 at c2
  obtain ⟨i, i0', ii⟩ := p3
  have cc : ∃ j : Int, kslot S j ∧ S (100 + j) = w' := by
    rcases ii with ii | ii | ii
    · have fi := fnd_r (s := S) (b := 0) (cnt := S 200) hm h4 ew hw (by decide) (by omega) (fun j a b => by unfold kslot; omega) c0 ii
      obtain ⟨b0, b1⟩ := fndF_pos (f := fun j => S (100 + 0 + j)) i0' fi
      refine ⟨0 + i, by unfold kslot; omega, ?_⟩
      change S (100 + 0 + ((i.toNat : Nat) : Int)) = w' at b1
      rw [show 100 + (0 + i) = 100 + 0 + ((i.toNat : Nat) : Int) by omega]
      exact b1
    · have fi := fnd_r (s := S) (b := 5) (cnt := S 201) hm h4 ew hw (by decide) (by omega) (fun j a b => by unfold kslot; omega) c1 ii
      obtain ⟨b0, b1⟩ := fndF_pos (f := fun j => S (100 + 5 + j)) i0' fi
      refine ⟨5 + i, by unfold kslot; omega, ?_⟩
      change S (100 + 5 + ((i.toNat : Nat) : Int)) = w' at b1
      rw [show 100 + (5 + i) = 100 + 5 + ((i.toNat : Nat) : Int) by omega]
      exact b1
    · have fi := fnd_r (s := S) (b := 13) (cnt := S 202) hm h4 ew hw (by decide) (by omega) (fun j a b => by unfold kslot; omega) c2 ii
      obtain ⟨b0, b1⟩ := fndF_pos (f := fun j => S (100 + 13 + j)) i0' fi
      refine ⟨13 + i, by unfold kslot; omega, ?_⟩
      change S (100 + 13 + ((i.toNat : Nat) : Int)) = w' at b1
      rw [show 100 + (13 + i) = 100 + 13 + ((i.toNat : Nat) : Int) by omega]
      exact b1
  exact ans_mk hR hT (F := _) (by
    rw [sA_9 e0]
    exact stNew_b ⟨kd2, kn⟩ cc) (by omega) rfl
theorem k_r13_ok {z n k zr zm o0 o1 o2 o3 kd fr to nu sg w h zm2 : Int} (p1 : pPRT z n 13 k zr zm o0 o1 o2 o3 0 kd fr to nu sg w) (p2 : pNamr kd w 1) (p3 : pNkr zm zr w) (p4 : pCtr zr 2 h) (p5 : pUpd zm2 zm (h + 13) w) : pPR z n 14 to k zr zm2 o0 o1 o2 o3 0 := by
  obtain ⟨p, ⟨i0, S, hR, e0, rfl, rfl, e3, hz0, hz20, hm, rfl, rfl, rfl, rfl⟩, hT0⟩ := p1
  obtain ⟨kd', f', kw, v', w', hT, g0, g1, g2, g3, g4, g5, g6, g7⟩ := TokR_p hT0
  obtain ⟨t1, t2, t3, t4, t5, t6, t7, t8⟩ := Tok_p hT
  obtain ⟨h1, h2, h3, h4⟩ := Rch_I hR
  have h1' := h1
  unfold I1 at h1
  have hz : aAg zr S 200 72 := fun j j0 j1 => hz0 j j0 j1 (fun h => absurd h (by decide))
  have k2 := iff1_t p2 rfl
  have kd2 : kd' = 2 := by omega
  obtain ⟨ew, hw, hk⟩ := g5 kd2
  have kn : kw = -1 := by
    by_cases g : kw = -1
    · exact g
    · exact absurd ((hk kw.toNat (by omega)).mp (by omega)) (k2.2 kw.toNat (by omega))
  have c0 := hz 0 (by decide) (by decide)
  change dcd (0 : Int).toNat zr = S 200 at c0
  have c1 := hz 1 (by decide) (by decide)
  change dcd (1 : Int).toNat zr = S 201 at c1
  have c2 := hz 2 (by decide) (by decide)
  change dcd (2 : Int).toNat zr = S 202 at c2
  have eh := p4.2
  change dcd (2 : Int).toNat zr = h at eh
  rw [c2] at eh
  subst eh
  have hm2 : ∀ j : Int, kslot (adv (up S (100 + (13 + S 202)) w') 14 f') j ∨ pend (adv (up S (100 + (13 + S 202)) w') 14 f') j → 0 ≤ j → j < 19 → dcd j.toNat zm2 = c27 8 ((adv (up S (100 + (13 + S 202)) w') 14 f') (100 + j)) := fun j jq j0 j1 => by
    have x0 : (adv (up S (100 + (13 + S 202)) w') 14 f') 0 = 14 := adv_0
    have x1 : (adv (up S (100 + (13 + S 202)) w') 14 f') 200 = S 200 := by rw [adv_n (by omega) (by omega), up_n (by omega)]
    have x2 : (adv (up S (100 + (13 + S 202)) w') 14 f') 201 = S 201 := by rw [adv_n (by omega) (by omega), up_n (by omega)]
    have x3 : (adv (up S (100 + (13 + S 202)) w') 14 f') 202 = S 202 := by rw [adv_n (by omega) (by omega), up_n (by omega)]
    unfold kslot pend at jq
    rw [x0, x1, x2, x3] at jq
    obtain ⟨u1, u2, u3, u4⟩ := p5
    rw [u4]
    by_cases e : j = 13 + S 202
    · rw [e, show (13 + S 202).toNat = (S 202 + 13).toNat by omega, dcd_us u3 (by omega), adv_n (by omega) (by omega), up_s]
      exact ew
    · rw [dcd_un u3 (by omega) (by omega), adv_n (by omega) (by omega), up_n (by omega)]
      refine hm j ?_ j0 j1
      unfold kslot pend
      rw [e0]
      omega
  have st : stepA S kd' fr f' kw v' w' = .inl (adv (up S (100 + (13 + S 202)) w') 14 f') := by
    rw [sA_13 e0]
    refine stNew_t ⟨kd2, kn⟩ (fun ⟨j, j0, j1⟩ => ?_)
    have r := own_r h1' (Or.inl j0)
    have m := hm j (Or.inl j0) r.1 r.2
    rw [j1, ← ew] at m
    unfold kslot at j0
    rcases j0 with j0 | j0 | j0
    · have u := p3.1.2.2.2
      change -1 = fndF _ w (dcd (0 : Int).toNat zr).toNat at u
      rw [c0] at u
      refine fndF_neg (f := fun i : Nat => dcd (0 + (i : Int)).toNat zm) (w := w) (n := (S 200).toNat) (by rw [← u]; decide) (j := (j - 0).toNat) (by omega) ?_
      show dcd (0 + (((j - 0).toNat : Nat) : Int)).toNat zm = w
      rw [show 0 + (((j - 0).toNat : Nat) : Int) = j by omega]
      exact m
    · have u := p3.2.1.2.2.2
      change -1 = fndF _ w (dcd (1 : Int).toNat zr).toNat at u
      rw [c1] at u
      refine fndF_neg (f := fun i : Nat => dcd (5 + (i : Int)).toNat zm) (w := w) (n := (S 201).toNat) (by rw [← u]; decide) (j := (j - 5).toNat) (by omega) ?_
      show dcd (5 + (((j - 5).toNat : Nat) : Int)).toNat zm = w
      rw [show 5 + (((j - 5).toNat : Nat) : Int) = j by omega]
      exact m
    · have u := p3.2.2.2.2.2
      change -1 = fndF _ w (dcd (2 : Int).toNat zr).toNat at u
      rw [c2] at u
      refine fndF_neg (f := fun i : Nat => dcd (13 + (i : Int)).toNat zm) (w := w) (n := (S 202).toNat) (by rw [← u]; decide) (j := (j - 13).toNat) (by omega) ?_
      show dcd (13 + (((j - 13).toNat : Nat) : Int)).toNat zm = w
      rw [show 13 + (((j - 13).toNat : Nat) : Int) = j by omega]
      exact m
  have e_0 : (adv (up S (100 + (13 + S 202)) w') 14 f') 0 = 14 := by rw [adv_0]
  have e_200 : (adv (up S (100 + (13 + S 202)) w') 14 f') 200 = S 200 := by rw [adv_n (by omega) (by omega), up_n (by omega)]
  have e_201 : (adv (up S (100 + (13 + S 202)) w') 14 f') 201 = S 201 := by rw [adv_n (by omega) (by omega), up_n (by omega)]
  have e_202 : (adv (up S (100 + (13 + S 202)) w') 14 f') 202 = S 202 := by rw [adv_n (by omega) (by omega), up_n (by omega)]
  exact ⟨i0 + 1, _, ⟨S, kd', fr, f', kw, v', w', hR, hT, st⟩, adv_0, (by rw [adv_1]; exact (g1 (by omega)).symm), (by rw [adv_n (by omega) (by omega), up_n (by omega)]), (by rw [adv_n (by omega) (by omega), up_n (by omega)]; exact e3), (fun j j0 j1 _ => (aAg_a (aAg_o hz (Or.inl (by omega))) (by decide)) j j0 j1), (fun h => absurd h (by decide)), hm2, (by rw [adv_n (by omega) (by omega), up_n (by omega)]), (by rw [adv_n (by omega) (by omega), up_n (by omega)]), (by rw [adv_n (by omega) (by omega), up_n (by omega)]), (by rw [adv_n (by omega) (by omega), up_n (by omega)])⟩
theorem k_r13_bad1 {z n k zr zm o0 o1 o2 o3 kd fr to nu sg w : Int} (p1 : pPRT z n 13 k zr zm o0 o1 o2 o3 0 kd fr to nu sg w) (p2 : pNamr kd w 0) : pAns z n (-1 * fr + -1) 1 := by
  obtain ⟨p, ⟨i0, S, hR, e0, rfl, rfl, e3, hz0, hz20, hm, rfl, rfl, rfl, rfl⟩, hT0⟩ := p1
  obtain ⟨kd', f', kw, v', w', hT, g0, g1, g2, g3, g4, g5, g6, g7⟩ := TokR_p hT0
  obtain ⟨t1, t2, t3, t4, t5, t6, t7, t8⟩ := Tok_p hT
  obtain ⟨h1, h2, h3, h4⟩ := Rch_I hR
  have h1' := h1
  unfold I1 at h1
  have hz : aAg zr S 200 72 := fun j j0 j1 => hz0 j j0 j1 (fun h => absurd h (by decide))
  have kn : ¬ (kd' = 2 ∧ kw = -1) := fun ⟨q1, q2⟩ => iff1_f p2 rfl ⟨by omega, fun j hj e => by
    have := ((g5 q1).2.2 j hj).mpr e
    omega⟩
  exact ans_mk hR hT (F := _) (by
    rw [sA_13 e0]
    exact stNew_k kn) (by omega) rfl
theorem k_r13_bad2 {z n k zr zm o0 o1 o2 o3 kd fr to nu sg w : Int} (p1 : pPRT z n 13 k zr zm o0 o1 o2 o3 0 kd fr to nu sg w) (p2 : pNamr kd w 1) (p3 : pKnr zm zr w) : pAns z n (-1 * fr + -1) 3 := by
  obtain ⟨p, ⟨i0, S, hR, e0, rfl, rfl, e3, hz0, hz20, hm, rfl, rfl, rfl, rfl⟩, hT0⟩ := p1
  obtain ⟨kd', f', kw, v', w', hT, g0, g1, g2, g3, g4, g5, g6, g7⟩ := TokR_p hT0
  obtain ⟨t1, t2, t3, t4, t5, t6, t7, t8⟩ := Tok_p hT
  obtain ⟨h1, h2, h3, h4⟩ := Rch_I hR
  have h1' := h1
  unfold I1 at h1
  have hz : aAg zr S 200 72 := fun j j0 j1 => hz0 j j0 j1 (fun h => absurd h (by decide))
  have k2 := iff1_t p2 rfl
  have kd2 : kd' = 2 := by omega
  obtain ⟨ew, hw, hk⟩ := g5 kd2
  have kn : kw = -1 := by
    by_cases g : kw = -1
    · exact g
    · exact absurd ((hk kw.toNat (by omega)).mp (by omega)) (k2.2 kw.toNat (by omega))
  have c0 := hz 0 (by decide) (by decide)
  change dcd (0 : Int).toNat zr = S 200 at c0
  have c1 := hz 1 (by decide) (by decide)
  change dcd (1 : Int).toNat zr = S 201 at c1
  have c2 := hz 2 (by decide) (by decide)
  change dcd (2 : Int).toNat zr = S 202 at c2
  obtain ⟨i, i0', ii⟩ := p3
  have cc : ∃ j : Int, kslot S j ∧ S (100 + j) = w' := by
    rcases ii with ii | ii | ii
    · have fi := fnd_r (s := S) (b := 0) (cnt := S 200) hm h4 ew hw (by decide) (by omega) (fun j a b => by unfold kslot; omega) c0 ii
      obtain ⟨b0, b1⟩ := fndF_pos (f := fun j => S (100 + 0 + j)) i0' fi
      refine ⟨0 + i, by unfold kslot; omega, ?_⟩
      change S (100 + 0 + ((i.toNat : Nat) : Int)) = w' at b1
      rw [show 100 + (0 + i) = 100 + 0 + ((i.toNat : Nat) : Int) by omega]
      exact b1
    · have fi := fnd_r (s := S) (b := 5) (cnt := S 201) hm h4 ew hw (by decide) (by omega) (fun j a b => by unfold kslot; omega) c1 ii
      obtain ⟨b0, b1⟩ := fndF_pos (f := fun j => S (100 + 5 + j)) i0' fi
      refine ⟨5 + i, by unfold kslot; omega, ?_⟩
      change S (100 + 5 + ((i.toNat : Nat) : Int)) = w' at b1
      rw [show 100 + (5 + i) = 100 + 5 + ((i.toNat : Nat) : Int) by omega]
      exact b1
    · have fi := fnd_r (s := S) (b := 13) (cnt := S 202) hm h4 ew hw (by decide) (by omega) (fun j a b => by unfold kslot; omega) c2 ii
      obtain ⟨b0, b1⟩ := fndF_pos (f := fun j => S (100 + 13 + j)) i0' fi
      refine ⟨13 + i, by unfold kslot; omega, ?_⟩
      change S (100 + 13 + ((i.toNat : Nat) : Int)) = w' at b1
      rw [show 100 + (13 + i) = 100 + 13 + ((i.toNat : Nat) : Int) by omega]
      exact b1
  exact ans_mk hR hT (F := _) (by
    rw [sA_13 e0]
    exact stNew_b ⟨kd2, kn⟩ cc) (by omega) rfl
theorem k_r10_ok {z n k zr zm o0 o1 o2 o3 kd fr to nu sg w i h zr2 : Int} (p1 : pPRT z n 10 k zr zm o0 o1 o2 o3 0 kd fr to nu sg w) (p2 : pNamr kd w 1) (p3 : pFndr zm zr 0 0 w i) (p4 : -1 * i ≤ 0) (p5 : pCtr zr 1 h) (p6 : pUpd zr2 zr (h + 18) i) : pPR z n 11 to k zr2 zm o0 o1 o2 o3 0 := by
  obtain ⟨p, ⟨i0, S, hR, e0, rfl, rfl, e3, hz0, hz20, hm, rfl, rfl, rfl, rfl⟩, hT0⟩ := p1
  obtain ⟨kd', f', kw, v', w', hT, g0, g1, g2, g3, g4, g5, g6, g7⟩ := TokR_p hT0
  obtain ⟨t1, t2, t3, t4, t5, t6, t7, t8⟩ := Tok_p hT
  obtain ⟨h1, h2, h3, h4⟩ := Rch_I hR
  have h1' := h1
  unfold I1 at h1
  have hz : aAg zr S 200 72 := fun j j0 j1 => hz0 j j0 j1 (fun h => absurd h (by decide))
  have k2 := iff1_t p2 rfl
  have kd2 : kd' = 2 := by omega
  obtain ⟨ew, hw, hk⟩ := g5 kd2
  have kn : kw = -1 := by
    by_cases g : kw = -1
    · exact g
    · exact absurd ((hk kw.toNat (by omega)).mp (by omega)) (k2.2 kw.toNat (by omega))
  have c0 := hz 0 (by decide) (by decide)
  change dcd (0 : Int).toNat zr = S 200 at c0
  have c1 := hz 1 (by decide) (by decide)
  change dcd (1 : Int).toNat zr = S 201 at c1
  have c2 := hz 2 (by decide) (by decide)
  change dcd (2 : Int).toNat zr = S 202 at c2
  have fi := fnd_r (s := S) (b := 0) (cnt := S 200) hm h4 ew hw (by decide) (by omega) (fun j a b => by unfold kslot; omega) c0 p3
  obtain ⟨b0, b1⟩ := fndF_pos (f := fun j => S (100 + 0 + j)) (by omega) fi
  have eh := p5.2
  change dcd (1 : Int).toNat zr = h at eh
  rw [c1] at eh
  subst eh
  have z2 := aAg_w (i' := 218 + S 201) (v' := i) hz p6 (by decide) (by omega) rfl
  have st : stepA S kd' fr f' kw v' w' = .inl (adv (up S (218 + S 201) i) 11 f') := by
    rw [sA_10 e0, stFnd_t ⟨kd2, kn⟩ fi (by omega)]
  have e_0 : (adv (up S (218 + S 201) i) 11 f') 0 = 11 := by rw [adv_0]
  have e_200 : (adv (up S (218 + S 201) i) 11 f') 200 = S 200 := by rw [adv_n (by omega) (by omega), up_n (by omega)]
  have e_201 : (adv (up S (218 + S 201) i) 11 f') 201 = S 201 := by rw [adv_n (by omega) (by omega), up_n (by omega)]
  have e_202 : (adv (up S (218 + S 201) i) 11 f') 202 = S 202 := by rw [adv_n (by omega) (by omega), up_n (by omega)]
  have hm' : ∀ j : Int, kslot (adv (up S (218 + S 201) i) 11 f') j ∨ pend (adv (up S (218 + S 201) i) 11 f') j → 0 ≤ j → j < 19 → dcd j.toNat zm = c27 8 ((adv (up S (218 + S 201) i) 11 f') (100 + j)) := fun j jq j0 j1 => by
    unfold kslot pend at jq
    rw [e_0, e_200, e_201, e_202] at jq
    rw [adv_n (by omega) (by omega), up_n (by omega)]
    refine hm j ?_ j0 j1
    unfold kslot pend
    rw [e0]
    omega
  exact ⟨i0 + 1, _, ⟨S, kd', fr, f', kw, v', w', hR, hT, st⟩, adv_0, (by rw [adv_1]; exact (g1 (by omega)).symm), (by rw [adv_n (by omega) (by omega), up_n (by omega)]), (by rw [adv_n (by omega) (by omega), up_n (by omega)]; exact e3), (fun j j0 j1 _ => (aAg_a z2 (by decide)) j j0 j1), (fun h => absurd h (by decide)), hm', (by rw [adv_n (by omega) (by omega), up_n (by omega)]), (by rw [adv_n (by omega) (by omega), up_n (by omega)]), (by rw [adv_n (by omega) (by omega), up_n (by omega)]), (by rw [adv_n (by omega) (by omega), up_n (by omega)])⟩
theorem k_r10_bad1 {z n k zr zm o0 o1 o2 o3 kd fr to nu sg w : Int} (p1 : pPRT z n 10 k zr zm o0 o1 o2 o3 0 kd fr to nu sg w) (p2 : pNamr kd w 0) : pAns z n (-1 * fr + -1) 1 := by
  obtain ⟨p, ⟨i0, S, hR, e0, rfl, rfl, e3, hz0, hz20, hm, rfl, rfl, rfl, rfl⟩, hT0⟩ := p1
  obtain ⟨kd', f', kw, v', w', hT, g0, g1, g2, g3, g4, g5, g6, g7⟩ := TokR_p hT0
  obtain ⟨t1, t2, t3, t4, t5, t6, t7, t8⟩ := Tok_p hT
  obtain ⟨h1, h2, h3, h4⟩ := Rch_I hR
  have h1' := h1
  unfold I1 at h1
  have hz : aAg zr S 200 72 := fun j j0 j1 => hz0 j j0 j1 (fun h => absurd h (by decide))
  have kn : ¬ (kd' = 2 ∧ kw = -1) := fun ⟨q1, q2⟩ => iff1_f p2 rfl ⟨by omega, fun j hj e => by
    have := ((g5 q1).2.2 j hj).mpr e
    omega⟩
  exact ans_mk hR hT (F := _) (by
    rw [sA_10 e0]
    exact stFnd_k kn) (by omega) rfl
theorem k_r10_bad2 {z n k zr zm o0 o1 o2 o3 kd fr to nu sg w : Int} (p1 : pPRT z n 10 k zr zm o0 o1 o2 o3 0 kd fr to nu sg w) (p2 : pNamr kd w 1) (p3 : pFndr zm zr 0 0 w (-1)) : pAns z n (-1 * fr + -1) 3 := by
  obtain ⟨p, ⟨i0, S, hR, e0, rfl, rfl, e3, hz0, hz20, hm, rfl, rfl, rfl, rfl⟩, hT0⟩ := p1
  obtain ⟨kd', f', kw, v', w', hT, g0, g1, g2, g3, g4, g5, g6, g7⟩ := TokR_p hT0
  obtain ⟨t1, t2, t3, t4, t5, t6, t7, t8⟩ := Tok_p hT
  obtain ⟨h1, h2, h3, h4⟩ := Rch_I hR
  have h1' := h1
  unfold I1 at h1
  have hz : aAg zr S 200 72 := fun j j0 j1 => hz0 j j0 j1 (fun h => absurd h (by decide))
  have k2 := iff1_t p2 rfl
  have kd2 : kd' = 2 := by omega
  obtain ⟨ew, hw, hk⟩ := g5 kd2
  have kn : kw = -1 := by
    by_cases g : kw = -1
    · exact g
    · exact absurd ((hk kw.toNat (by omega)).mp (by omega)) (k2.2 kw.toNat (by omega))
  have c0 := hz 0 (by decide) (by decide)
  change dcd (0 : Int).toNat zr = S 200 at c0
  have c1 := hz 1 (by decide) (by decide)
  change dcd (1 : Int).toNat zr = S 201 at c1
  have c2 := hz 2 (by decide) (by decide)
  change dcd (2 : Int).toNat zr = S 202 at c2
  have fi := fnd_r (s := S) (b := 0) (cnt := S 200) hm h4 ew hw (by decide) (by omega) (fun j a b => by unfold kslot; omega) c0 p3
  exact ans_mk hR hT (F := _) (by
    rw [sA_10 e0]
    exact stFnd_b ⟨kd2, kn⟩ (by rw [← fi]; decide)) (by omega) rfl
theorem k_r16_ok {z n k zr zm o0 o1 o2 o3 kd fr to nu sg w i : Int} (p1 : pPRT z n 16 k zr zm o0 o1 o2 o3 0 kd fr to nu sg w) (p2 : pNamr kd w 1) (p3 : pFndr zm zr 13 2 w i) (p4 : -1 * i ≤ 0) : pPR z n 17 to k zr zm o0 o1 o2 o3 i := by
  obtain ⟨p, ⟨i0, S, hR, e0, rfl, rfl, e3, hz0, hz20, hm, rfl, rfl, rfl, rfl⟩, hT0⟩ := p1
  obtain ⟨kd', f', kw, v', w', hT, g0, g1, g2, g3, g4, g5, g6, g7⟩ := TokR_p hT0
  obtain ⟨t1, t2, t3, t4, t5, t6, t7, t8⟩ := Tok_p hT
  obtain ⟨h1, h2, h3, h4⟩ := Rch_I hR
  have h1' := h1
  unfold I1 at h1
  have hz : aAg zr S 200 72 := fun j j0 j1 => hz0 j j0 j1 (fun h => absurd h (by decide))
  have k2 := iff1_t p2 rfl
  have kd2 : kd' = 2 := by omega
  obtain ⟨ew, hw, hk⟩ := g5 kd2
  have kn : kw = -1 := by
    by_cases g : kw = -1
    · exact g
    · exact absurd ((hk kw.toNat (by omega)).mp (by omega)) (k2.2 kw.toNat (by omega))
  have c0 := hz 0 (by decide) (by decide)
  change dcd (0 : Int).toNat zr = S 200 at c0
  have c1 := hz 1 (by decide) (by decide)
  change dcd (1 : Int).toNat zr = S 201 at c1
  have c2 := hz 2 (by decide) (by decide)
  change dcd (2 : Int).toNat zr = S 202 at c2
  have fi := fnd_r (s := S) (b := 13) (cnt := S 202) hm h4 ew hw (by decide) (by omega) (fun j a b => by unfold kslot; omega) c2 p3
  obtain ⟨b0, b1⟩ := fndF_pos (f := fun j => S (100 + 13 + j)) (by omega) fi
  have st : stepA S kd' fr f' kw v' w' = .inl (adv (up S 3 i) 17 f') := by
    rw [sA_16 e0, stFnd_t ⟨kd2, kn⟩ fi (by omega)]
  have e_0 : (adv (up S 3 i) 17 f') 0 = 17 := by rw [adv_0]
  have e_200 : (adv (up S 3 i) 17 f') 200 = S 200 := by rw [adv_n (by omega) (by omega), up_n (by omega)]
  have e_201 : (adv (up S 3 i) 17 f') 201 = S 201 := by rw [adv_n (by omega) (by omega), up_n (by omega)]
  have e_202 : (adv (up S 3 i) 17 f') 202 = S 202 := by rw [adv_n (by omega) (by omega), up_n (by omega)]
  have hm' : ∀ j : Int, kslot (adv (up S 3 i) 17 f') j ∨ pend (adv (up S 3 i) 17 f') j → 0 ≤ j → j < 19 → dcd j.toNat zm = c27 8 ((adv (up S 3 i) 17 f') (100 + j)) := fun j jq j0 j1 => by
    unfold kslot pend at jq
    rw [e_0, e_200, e_201, e_202] at jq
    rw [adv_n (by omega) (by omega), up_n (by omega)]
    refine hm j ?_ j0 j1
    unfold kslot pend
    rw [e0]
    omega
  exact ⟨i0 + 1, _, ⟨S, kd', fr, f', kw, v', w', hR, hT, st⟩, adv_0, (by rw [adv_1]; exact (g1 (by omega)).symm), (by rw [adv_n (by omega) (by omega), up_n (by omega)]), (by rw [adv_n (by omega) (by omega), up_s]), (fun j j0 j1 _ => (aAg_a (aAg_o hz (Or.inl (by omega))) (by decide)) j j0 j1), (fun h => absurd h (by decide)), hm', (by rw [adv_n (by omega) (by omega), up_n (by omega)]), (by rw [adv_n (by omega) (by omega), up_n (by omega)]), (by rw [adv_n (by omega) (by omega), up_n (by omega)]), (by rw [adv_n (by omega) (by omega), up_n (by omega)])⟩
theorem k_r16_bad1 {z n k zr zm o0 o1 o2 o3 kd fr to nu sg w : Int} (p1 : pPRT z n 16 k zr zm o0 o1 o2 o3 0 kd fr to nu sg w) (p2 : pNamr kd w 0) : pAns z n (-1 * fr + -1) 1 := by
  obtain ⟨p, ⟨i0, S, hR, e0, rfl, rfl, e3, hz0, hz20, hm, rfl, rfl, rfl, rfl⟩, hT0⟩ := p1
  obtain ⟨kd', f', kw, v', w', hT, g0, g1, g2, g3, g4, g5, g6, g7⟩ := TokR_p hT0
  obtain ⟨t1, t2, t3, t4, t5, t6, t7, t8⟩ := Tok_p hT
  obtain ⟨h1, h2, h3, h4⟩ := Rch_I hR
  have h1' := h1
  unfold I1 at h1
  have hz : aAg zr S 200 72 := fun j j0 j1 => hz0 j j0 j1 (fun h => absurd h (by decide))
  have kn : ¬ (kd' = 2 ∧ kw = -1) := fun ⟨q1, q2⟩ => iff1_f p2 rfl ⟨by omega, fun j hj e => by
    have := ((g5 q1).2.2 j hj).mpr e
    omega⟩
  exact ans_mk hR hT (F := _) (by
    rw [sA_16 e0]
    exact stFnd_k kn) (by omega) rfl
theorem k_r16_bad2 {z n k zr zm o0 o1 o2 o3 kd fr to nu sg w : Int} (p1 : pPRT z n 16 k zr zm o0 o1 o2 o3 0 kd fr to nu sg w) (p2 : pNamr kd w 1) (p3 : pFndr zm zr 13 2 w (-1)) : pAns z n (-1 * fr + -1) 3 := by
  obtain ⟨p, ⟨i0, S, hR, e0, rfl, rfl, e3, hz0, hz20, hm, rfl, rfl, rfl, rfl⟩, hT0⟩ := p1
  obtain ⟨kd', f', kw, v', w', hT, g0, g1, g2, g3, g4, g5, g6, g7⟩ := TokR_p hT0
  obtain ⟨t1, t2, t3, t4, t5, t6, t7, t8⟩ := Tok_p hT
  obtain ⟨h1, h2, h3, h4⟩ := Rch_I hR
  have h1' := h1
  unfold I1 at h1
  have hz : aAg zr S 200 72 := fun j j0 j1 => hz0 j j0 j1 (fun h => absurd h (by decide))
  have k2 := iff1_t p2 rfl
  have kd2 : kd' = 2 := by omega
  obtain ⟨ew, hw, hk⟩ := g5 kd2
  have kn : kw = -1 := by
    by_cases g : kw = -1
    · exact g
    · exact absurd ((hk kw.toNat (by omega)).mp (by omega)) (k2.2 kw.toNat (by omega))
  have c0 := hz 0 (by decide) (by decide)
  change dcd (0 : Int).toNat zr = S 200 at c0
  have c1 := hz 1 (by decide) (by decide)
  change dcd (1 : Int).toNat zr = S 201 at c1
  have c2 := hz 2 (by decide) (by decide)
  change dcd (2 : Int).toNat zr = S 202 at c2
  have fi := fnd_r (s := S) (b := 13) (cnt := S 202) hm h4 ew hw (by decide) (by omega) (fun j a b => by unfold kslot; omega) c2 p3
  exact ans_mk hR hT (F := _) (by
    rw [sA_16 e0]
    exact stFnd_b ⟨kd2, kn⟩ (by rw [← fi]; decide)) (by omega) rfl
theorem k_r17_ok {z n k zr zm o0 o1 o2 o3 u kd fr to nu sg w i x x2 zr2 y y2 zr3 : Int} (p1 : pPRT z n 17 k zr zm o0 o1 o2 o3 u kd fr to nu sg w) (p2 : pNamr kd w 1) (p3 : pFndr zm zr 13 2 w i) (p4 : -1 * i ≤ 0) (p5 : pBitf zr (u + 54) i 0) (p6 : pDec x zr (u + 54)) (p7 : pSetb x2 x i) (p8 : pUpd zr2 zr (u + 54) x2) (p9 : pDec y zr2 (i + 54)) (p10 : pSetb y2 y u) (p11 : pUpd zr3 zr2 (i + 54) y2) (p12 : u ≠ i) : pPR z n 30 to k zr3 zm o0 o1 o2 o3 0 := by
  obtain ⟨p, ⟨i0, S, hR, e0, rfl, rfl, e3, hz0, hz20, hm, rfl, rfl, rfl, rfl⟩, hT0⟩ := p1
  obtain ⟨kd', f', kw, v', w', hT, g0, g1, g2, g3, g4, g5, g6, g7⟩ := TokR_p hT0
  obtain ⟨t1, t2, t3, t4, t5, t6, t7, t8⟩ := Tok_p hT
  obtain ⟨h1, h2, h3, h4⟩ := Rch_I hR
  have h1' := h1
  unfold I1 at h1
  have hz : aAg zr S 200 72 := fun j j0 j1 => hz0 j j0 j1 (fun h => absurd h (by decide))
  have k2 := iff1_t p2 rfl
  have kd2 : kd' = 2 := by omega
  obtain ⟨ew, hw, hk⟩ := g5 kd2
  have kn : kw = -1 := by
    by_cases g : kw = -1
    · exact g
    · exact absurd ((hk kw.toNat (by omega)).mp (by omega)) (k2.2 kw.toNat (by omega))
  have c0 := hz 0 (by decide) (by decide)
  change dcd (0 : Int).toNat zr = S 200 at c0
  have c1 := hz 1 (by decide) (by decide)
  change dcd (1 : Int).toNat zr = S 201 at c1
  have c2 := hz 2 (by decide) (by decide)
  change dcd (2 : Int).toNat zr = S 202 at c2
  have fi := fnd_r (s := S) (b := 13) (cnt := S 202) hm h4 ew hw (by decide) (by omega) (fun j a b => by unfold kslot; omega) c2 p3
  obtain ⟨b0, b1⟩ := fndF_pos (f := fun j => S (100 + 13 + j)) (by omega) fi
  subst e3
  have a3 := hz (54 + S 3) (by omega) (by omega)
  rw [show 200 + (54 + S 3) = 254 + S 3 by omega, show 54 + S 3 = S 3 + 54 by omega] at a3
  have ai := hz (54 + i) (by omega) (by omega)
  rw [show 200 + (54 + i) = 254 + i by omega, show 54 + i = i + 54 by omega] at ai
  obtain ⟨_, _, _, _, _, bb⟩ := p5
  rw [a3] at bb
  have cc : ¬ (i = S 3 ∨ bitI (S (254 + S 3)) i = 1) := by
    intro q
    rcases q with q | q
    · exact p12 q.symm
    · omega
  have ex : x = S (254 + S 3) := by rw [← p6.2, a3]
  subst ex
  have ex2 := p7.2.2.2.2
  rw [if_neg (by omega)] at ex2
  have ey : y = S (254 + i) := by
    obtain ⟨u1, u2, u3, u4⟩ := p8
    rw [← p9.2, u4, dcd_un u3 (by omega) (by omega), ai]
  subst ey
  have ey2 := p10.2.2.2.2
  have z3 := aAg_w (i' := 254 + i) (aAg_w (i' := 254 + S 3) hz p8 (by decide) (by omega) ex2) p11 (by decide) (by omega) ey2
  have st : stepA S kd' fr f' kw v' w' = .inl (adv (up (up (up S (254 + S 3) (S (254 + S 3) + 2 ^ i.toNat)) (254 + i) (S (254 + i) + @ite Int (bitI (S (254 + i)) (S 3) = 1) (Int.instDecidableEq _ _) 0 (2 ^ (S 3).toNat))) 3 0) 30 f') := by
    rw [sA_17 e0, stFnd_t ⟨kd2, kn⟩ fi (by omega)]
    show cI (i = S 3 ∨ bitI (S (254 + S 3)) i = 1) (hlt fr 3) (.inl _) = _
    rw [cI_f cc]
  have e_0 : (adv (up (up (up S (254 + S 3) (S (254 + S 3) + 2 ^ i.toNat)) (254 + i) (S (254 + i) + @ite Int (bitI (S (254 + i)) (S 3) = 1) (Int.instDecidableEq _ _) 0 (2 ^ (S 3).toNat))) 3 0) 30 f') 0 = 30 := by rw [adv_0]
  have e_200 : (adv (up (up (up S (254 + S 3) (S (254 + S 3) + 2 ^ i.toNat)) (254 + i) (S (254 + i) + @ite Int (bitI (S (254 + i)) (S 3) = 1) (Int.instDecidableEq _ _) 0 (2 ^ (S 3).toNat))) 3 0) 30 f') 200 = S 200 := by rw [adv_n (by omega) (by omega), up_n (by omega), up_n (by omega), up_n (by omega)]
  have e_201 : (adv (up (up (up S (254 + S 3) (S (254 + S 3) + 2 ^ i.toNat)) (254 + i) (S (254 + i) + @ite Int (bitI (S (254 + i)) (S 3) = 1) (Int.instDecidableEq _ _) 0 (2 ^ (S 3).toNat))) 3 0) 30 f') 201 = S 201 := by rw [adv_n (by omega) (by omega), up_n (by omega), up_n (by omega), up_n (by omega)]
  have e_202 : (adv (up (up (up S (254 + S 3) (S (254 + S 3) + 2 ^ i.toNat)) (254 + i) (S (254 + i) + @ite Int (bitI (S (254 + i)) (S 3) = 1) (Int.instDecidableEq _ _) 0 (2 ^ (S 3).toNat))) 3 0) 30 f') 202 = S 202 := by rw [adv_n (by omega) (by omega), up_n (by omega), up_n (by omega), up_n (by omega)]
  have hm' : ∀ j : Int, kslot (adv (up (up (up S (254 + S 3) (S (254 + S 3) + 2 ^ i.toNat)) (254 + i) (S (254 + i) + @ite Int (bitI (S (254 + i)) (S 3) = 1) (Int.instDecidableEq _ _) 0 (2 ^ (S 3).toNat))) 3 0) 30 f') j ∨ pend (adv (up (up (up S (254 + S 3) (S (254 + S 3) + 2 ^ i.toNat)) (254 + i) (S (254 + i) + @ite Int (bitI (S (254 + i)) (S 3) = 1) (Int.instDecidableEq _ _) 0 (2 ^ (S 3).toNat))) 3 0) 30 f') j → 0 ≤ j → j < 19 → dcd j.toNat zm = c27 8 ((adv (up (up (up S (254 + S 3) (S (254 + S 3) + 2 ^ i.toNat)) (254 + i) (S (254 + i) + @ite Int (bitI (S (254 + i)) (S 3) = 1) (Int.instDecidableEq _ _) 0 (2 ^ (S 3).toNat))) 3 0) 30 f') (100 + j)) := fun j jq j0 j1 => by
    unfold kslot pend at jq
    rw [e_0, e_200, e_201, e_202] at jq
    rw [adv_n (by omega) (by omega), up_n (by omega), up_n (by omega), up_n (by omega)]
    refine hm j ?_ j0 j1
    unfold kslot pend
    rw [e0]
    omega
  exact ⟨i0 + 1, _, ⟨S, kd', fr, f', kw, v', w', hR, hT, st⟩, adv_0, (by rw [adv_1]; exact (g1 (by omega)).symm), (by rw [adv_n (by omega) (by omega), up_n (by omega), up_n (by omega), up_n (by omega)]), (by rw [adv_n (by omega) (by omega), up_s]), (fun j j0 j1 _ => (aAg_a (aAg_o z3 (Or.inl (by decide))) (by decide)) j j0 j1), (fun h => absurd h (by decide)), hm', (by rw [adv_n (by omega) (by omega), up_n (by omega), up_n (by omega), up_n (by omega)]), (by rw [adv_n (by omega) (by omega), up_n (by omega), up_n (by omega), up_n (by omega)]), (by rw [adv_n (by omega) (by omega), up_n (by omega), up_n (by omega), up_n (by omega)]), (by rw [adv_n (by omega) (by omega), up_n (by omega), up_n (by omega), up_n (by omega)])⟩
theorem k_r17_bad1 {z n k zr zm o0 o1 o2 o3 u kd fr to nu sg w : Int} (p1 : pPRT z n 17 k zr zm o0 o1 o2 o3 u kd fr to nu sg w) (p2 : pNamr kd w 0) : pAns z n (-1 * fr + -1) 1 := by
  obtain ⟨p, ⟨i0, S, hR, e0, rfl, rfl, e3, hz0, hz20, hm, rfl, rfl, rfl, rfl⟩, hT0⟩ := p1
  obtain ⟨kd', f', kw, v', w', hT, g0, g1, g2, g3, g4, g5, g6, g7⟩ := TokR_p hT0
  obtain ⟨t1, t2, t3, t4, t5, t6, t7, t8⟩ := Tok_p hT
  obtain ⟨h1, h2, h3, h4⟩ := Rch_I hR
  have h1' := h1
  unfold I1 at h1
  have hz : aAg zr S 200 72 := fun j j0 j1 => hz0 j j0 j1 (fun h => absurd h (by decide))
  have kn : ¬ (kd' = 2 ∧ kw = -1) := fun ⟨q1, q2⟩ => iff1_f p2 rfl ⟨by omega, fun j hj e => by
    have := ((g5 q1).2.2 j hj).mpr e
    omega⟩
  exact ans_mk hR hT (F := _) (by
    rw [sA_17 e0]
    exact stFnd_k kn) (by omega) rfl
theorem k_r17_bad2 {z n k zr zm o0 o1 o2 o3 u kd fr to nu sg w : Int} (p1 : pPRT z n 17 k zr zm o0 o1 o2 o3 u kd fr to nu sg w) (p2 : pNamr kd w 1) (p3 : pFndr zm zr 13 2 w (-1)) : pAns z n (-1 * fr + -1) 3 := by
  obtain ⟨p, ⟨i0, S, hR, e0, rfl, rfl, e3, hz0, hz20, hm, rfl, rfl, rfl, rfl⟩, hT0⟩ := p1
  obtain ⟨kd', f', kw, v', w', hT, g0, g1, g2, g3, g4, g5, g6, g7⟩ := TokR_p hT0
  obtain ⟨t1, t2, t3, t4, t5, t6, t7, t8⟩ := Tok_p hT
  obtain ⟨h1, h2, h3, h4⟩ := Rch_I hR
  have h1' := h1
  unfold I1 at h1
  have hz : aAg zr S 200 72 := fun j j0 j1 => hz0 j j0 j1 (fun h => absurd h (by decide))
  have k2 := iff1_t p2 rfl
  have kd2 : kd' = 2 := by omega
  obtain ⟨ew, hw, hk⟩ := g5 kd2
  have kn : kw = -1 := by
    by_cases g : kw = -1
    · exact g
    · exact absurd ((hk kw.toNat (by omega)).mp (by omega)) (k2.2 kw.toNat (by omega))
  have c0 := hz 0 (by decide) (by decide)
  change dcd (0 : Int).toNat zr = S 200 at c0
  have c1 := hz 1 (by decide) (by decide)
  change dcd (1 : Int).toNat zr = S 201 at c1
  have c2 := hz 2 (by decide) (by decide)
  change dcd (2 : Int).toNat zr = S 202 at c2
  have fi := fnd_r (s := S) (b := 13) (cnt := S 202) hm h4 ew hw (by decide) (by omega) (fun j a b => by unfold kslot; omega) c2 p3
  exact ans_mk hR hT (F := _) (by
    rw [sA_17 e0]
    exact stFnd_b ⟨kd2, kn⟩ (by rw [← fi]; decide)) (by omega) rfl
theorem k_r17_bad3 {z n k zr zm o0 o1 o2 o3 u kd fr to nu sg w i : Int} (p1 : pPRT z n 17 k zr zm o0 o1 o2 o3 u kd fr to nu sg w) (p2 : pNamr kd w 1) (p3 : pFndr zm zr 13 2 w i) (p4 : u + -1 * i ≤ 0) (p5 : -1 * u + i ≤ 0) (p6 : -1 * i ≤ 0) : pAns z n (-1 * fr + -1) 3 := by
  obtain ⟨p, ⟨i0, S, hR, e0, rfl, rfl, e3, hz0, hz20, hm, rfl, rfl, rfl, rfl⟩, hT0⟩ := p1
  obtain ⟨kd', f', kw, v', w', hT, g0, g1, g2, g3, g4, g5, g6, g7⟩ := TokR_p hT0
  obtain ⟨t1, t2, t3, t4, t5, t6, t7, t8⟩ := Tok_p hT
  obtain ⟨h1, h2, h3, h4⟩ := Rch_I hR
  have h1' := h1
  unfold I1 at h1
  have hz : aAg zr S 200 72 := fun j j0 j1 => hz0 j j0 j1 (fun h => absurd h (by decide))
  have k2 := iff1_t p2 rfl
  have kd2 : kd' = 2 := by omega
  obtain ⟨ew, hw, hk⟩ := g5 kd2
  have kn : kw = -1 := by
    by_cases g : kw = -1
    · exact g
    · exact absurd ((hk kw.toNat (by omega)).mp (by omega)) (k2.2 kw.toNat (by omega))
  have c0 := hz 0 (by decide) (by decide)
  change dcd (0 : Int).toNat zr = S 200 at c0
  have c1 := hz 1 (by decide) (by decide)
  change dcd (1 : Int).toNat zr = S 201 at c1
  have c2 := hz 2 (by decide) (by decide)
  change dcd (2 : Int).toNat zr = S 202 at c2
  have fi := fnd_r (s := S) (b := 13) (cnt := S 202) hm h4 ew hw (by decide) (by omega) (fun j a b => by unfold kslot; omega) c2 p3
  obtain ⟨b0, b1⟩ := fndF_pos (f := fun j => S (100 + 13 + j)) (by omega) fi
  exact ans_mk hR hT (F := _) (by
    rw [sA_17 e0, stFnd_t ⟨kd2, kn⟩ fi (by omega)]
    show cI (i = S 3 ∨ bitI (S (254 + S 3)) i = 1) (hlt fr 3) (.inl _) = _
    rw [cI_t (Or.inl (by omega))]) (by omega) rfl
theorem k_r17_bad4 {z n k zr zm o0 o1 o2 o3 u kd fr to nu sg w i : Int} (p1 : pPRT z n 17 k zr zm o0 o1 o2 o3 u kd fr to nu sg w) (p2 : pNamr kd w 1) (p3 : pFndr zm zr 13 2 w i) (p4 : -1 * i ≤ 0) (p5 : pBitf zr (u + 54) i 1) : pAns z n (-1 * fr + -1) 3 := by
  obtain ⟨p, ⟨i0, S, hR, e0, rfl, rfl, e3, hz0, hz20, hm, rfl, rfl, rfl, rfl⟩, hT0⟩ := p1
  obtain ⟨kd', f', kw, v', w', hT, g0, g1, g2, g3, g4, g5, g6, g7⟩ := TokR_p hT0
  obtain ⟨t1, t2, t3, t4, t5, t6, t7, t8⟩ := Tok_p hT
  obtain ⟨h1, h2, h3, h4⟩ := Rch_I hR
  have h1' := h1
  unfold I1 at h1
  have hz : aAg zr S 200 72 := fun j j0 j1 => hz0 j j0 j1 (fun h => absurd h (by decide))
  have k2 := iff1_t p2 rfl
  have kd2 : kd' = 2 := by omega
  obtain ⟨ew, hw, hk⟩ := g5 kd2
  have kn : kw = -1 := by
    by_cases g : kw = -1
    · exact g
    · exact absurd ((hk kw.toNat (by omega)).mp (by omega)) (k2.2 kw.toNat (by omega))
  have c0 := hz 0 (by decide) (by decide)
  change dcd (0 : Int).toNat zr = S 200 at c0
  have c1 := hz 1 (by decide) (by decide)
  change dcd (1 : Int).toNat zr = S 201 at c1
  have c2 := hz 2 (by decide) (by decide)
  change dcd (2 : Int).toNat zr = S 202 at c2
  have fi := fnd_r (s := S) (b := 13) (cnt := S 202) hm h4 ew hw (by decide) (by omega) (fun j a b => by unfold kslot; omega) c2 p3
  obtain ⟨b0, b1⟩ := fndF_pos (f := fun j => S (100 + 13 + j)) (by omega) fi
  subst e3
  have a3 := hz (54 + S 3) (by omega) (by omega)
  rw [show 200 + (54 + S 3) = 254 + S 3 by omega, show 54 + S 3 = S 3 + 54 by omega] at a3
  have ai := hz (54 + i) (by omega) (by omega)
  rw [show 200 + (54 + i) = 254 + i by omega, show 54 + i = i + 54 by omega] at ai
  obtain ⟨_, _, _, _, _, bb⟩ := p5
  rw [a3] at bb
  exact ans_mk hR hT (F := _) (by
    rw [sA_17 e0, stFnd_t ⟨kd2, kn⟩ fi (by omega)]
    show cI (i = S 3 ∨ bitI (S (254 + S 3)) i = 1) (hlt fr 3) (.inl _) = _
    rw [cI_t (Or.inr bb.symm)]) (by omega) rfl
theorem k_r18_ok {z n k zr zm o0 o1 o2 o3 kd fr to nu sg w i x : Int} (p1 : pPRT z n 18 k zr zm o0 o1 o2 o3 0 kd fr to nu sg w) (p2 : pNamr kd w 1) (p3 : pFndr zm zr 13 2 w i) (p4 : -1 * i ≤ 0) (p5 : pDec x zr (i + 60)) (p6 : -1 ≤ x ∧ x ≤ -1) : pPR z n 19 to k zr zm o0 o1 o2 o3 i := by
  obtain ⟨p, ⟨i0, S, hR, e0, rfl, rfl, e3, hz0, hz20, hm, rfl, rfl, rfl, rfl⟩, hT0⟩ := p1
  obtain ⟨kd', f', kw, v', w', hT, g0, g1, g2, g3, g4, g5, g6, g7⟩ := TokR_p hT0
  obtain ⟨t1, t2, t3, t4, t5, t6, t7, t8⟩ := Tok_p hT
  obtain ⟨h1, h2, h3, h4⟩ := Rch_I hR
  have h1' := h1
  unfold I1 at h1
  have hz : aAg zr S 200 72 := fun j j0 j1 => hz0 j j0 j1 (fun h => absurd h (by decide))
  have k2 := iff1_t p2 rfl
  have kd2 : kd' = 2 := by omega
  obtain ⟨ew, hw, hk⟩ := g5 kd2
  have kn : kw = -1 := by
    by_cases g : kw = -1
    · exact g
    · exact absurd ((hk kw.toNat (by omega)).mp (by omega)) (k2.2 kw.toNat (by omega))
  have c0 := hz 0 (by decide) (by decide)
  change dcd (0 : Int).toNat zr = S 200 at c0
  have c1 := hz 1 (by decide) (by decide)
  change dcd (1 : Int).toNat zr = S 201 at c1
  have c2 := hz 2 (by decide) (by decide)
  change dcd (2 : Int).toNat zr = S 202 at c2
  have fi := fnd_r (s := S) (b := 13) (cnt := S 202) hm h4 ew hw (by decide) (by omega) (fun j a b => by unfold kslot; omega) c2 p3
  obtain ⟨b0, b1⟩ := fndF_pos (f := fun j => S (100 + 13 + j)) (by omega) fi
  have ai := hz (60 + i) (by omega) (by omega)
  rw [show 200 + (60 + i) = 260 + i by omega, show 60 + i = i + 60 by omega] at ai
  have ex := p5.2
  rw [ai] at ex
  have st : stepA S kd' fr f' kw v' w' = .inl (adv (up S 3 i) 19 f') := by
    rw [sA_18 e0, stFnd_t ⟨kd2, kn⟩ fi (by omega)]
    show cI (S (260 + i) = -1) (.inl _) (hlt fr 3) = _
    rw [cI_t (by omega)]
  have e_0 : (adv (up S 3 i) 19 f') 0 = 19 := by rw [adv_0]
  have e_200 : (adv (up S 3 i) 19 f') 200 = S 200 := by rw [adv_n (by omega) (by omega), up_n (by omega)]
  have e_201 : (adv (up S 3 i) 19 f') 201 = S 201 := by rw [adv_n (by omega) (by omega), up_n (by omega)]
  have e_202 : (adv (up S 3 i) 19 f') 202 = S 202 := by rw [adv_n (by omega) (by omega), up_n (by omega)]
  have hm' : ∀ j : Int, kslot (adv (up S 3 i) 19 f') j ∨ pend (adv (up S 3 i) 19 f') j → 0 ≤ j → j < 19 → dcd j.toNat zm = c27 8 ((adv (up S 3 i) 19 f') (100 + j)) := fun j jq j0 j1 => by
    unfold kslot pend at jq
    rw [e_0, e_200, e_201, e_202] at jq
    rw [adv_n (by omega) (by omega), up_n (by omega)]
    refine hm j ?_ j0 j1
    unfold kslot pend
    rw [e0]
    omega
  exact ⟨i0 + 1, _, ⟨S, kd', fr, f', kw, v', w', hR, hT, st⟩, adv_0, (by rw [adv_1]; exact (g1 (by omega)).symm), (by rw [adv_n (by omega) (by omega), up_n (by omega)]), (by rw [adv_n (by omega) (by omega), up_s]), (fun j j0 j1 _ => (aAg_a (aAg_o hz (Or.inl (by omega))) (by decide)) j j0 j1), (fun h => absurd h (by decide)), hm', (by rw [adv_n (by omega) (by omega), up_n (by omega)]), (by rw [adv_n (by omega) (by omega), up_n (by omega)]), (by rw [adv_n (by omega) (by omega), up_n (by omega)]), (by rw [adv_n (by omega) (by omega), up_n (by omega)])⟩
theorem k_r18_bad1 {z n k zr zm o0 o1 o2 o3 kd fr to nu sg w : Int} (p1 : pPRT z n 18 k zr zm o0 o1 o2 o3 0 kd fr to nu sg w) (p2 : pNamr kd w 0) : pAns z n (-1 * fr + -1) 1 := by
  obtain ⟨p, ⟨i0, S, hR, e0, rfl, rfl, e3, hz0, hz20, hm, rfl, rfl, rfl, rfl⟩, hT0⟩ := p1
  obtain ⟨kd', f', kw, v', w', hT, g0, g1, g2, g3, g4, g5, g6, g7⟩ := TokR_p hT0
  obtain ⟨t1, t2, t3, t4, t5, t6, t7, t8⟩ := Tok_p hT
  obtain ⟨h1, h2, h3, h4⟩ := Rch_I hR
  have h1' := h1
  unfold I1 at h1
  have hz : aAg zr S 200 72 := fun j j0 j1 => hz0 j j0 j1 (fun h => absurd h (by decide))
  have kn : ¬ (kd' = 2 ∧ kw = -1) := fun ⟨q1, q2⟩ => iff1_f p2 rfl ⟨by omega, fun j hj e => by
    have := ((g5 q1).2.2 j hj).mpr e
    omega⟩
  exact ans_mk hR hT (F := _) (by
    rw [sA_18 e0]
    exact stFnd_k kn) (by omega) rfl
theorem k_r18_bad2 {z n k zr zm o0 o1 o2 o3 kd fr to nu sg w : Int} (p1 : pPRT z n 18 k zr zm o0 o1 o2 o3 0 kd fr to nu sg w) (p2 : pNamr kd w 1) (p3 : pFndr zm zr 13 2 w (-1)) : pAns z n (-1 * fr + -1) 3 := by
  obtain ⟨p, ⟨i0, S, hR, e0, rfl, rfl, e3, hz0, hz20, hm, rfl, rfl, rfl, rfl⟩, hT0⟩ := p1
  obtain ⟨kd', f', kw, v', w', hT, g0, g1, g2, g3, g4, g5, g6, g7⟩ := TokR_p hT0
  obtain ⟨t1, t2, t3, t4, t5, t6, t7, t8⟩ := Tok_p hT
  obtain ⟨h1, h2, h3, h4⟩ := Rch_I hR
  have h1' := h1
  unfold I1 at h1
  have hz : aAg zr S 200 72 := fun j j0 j1 => hz0 j j0 j1 (fun h => absurd h (by decide))
  have k2 := iff1_t p2 rfl
  have kd2 : kd' = 2 := by omega
  obtain ⟨ew, hw, hk⟩ := g5 kd2
  have kn : kw = -1 := by
    by_cases g : kw = -1
    · exact g
    · exact absurd ((hk kw.toNat (by omega)).mp (by omega)) (k2.2 kw.toNat (by omega))
  have c0 := hz 0 (by decide) (by decide)
  change dcd (0 : Int).toNat zr = S 200 at c0
  have c1 := hz 1 (by decide) (by decide)
  change dcd (1 : Int).toNat zr = S 201 at c1
  have c2 := hz 2 (by decide) (by decide)
  change dcd (2 : Int).toNat zr = S 202 at c2
  have fi := fnd_r (s := S) (b := 13) (cnt := S 202) hm h4 ew hw (by decide) (by omega) (fun j a b => by unfold kslot; omega) c2 p3
  exact ans_mk hR hT (F := _) (by
    rw [sA_18 e0]
    exact stFnd_b ⟨kd2, kn⟩ (by rw [← fi]; decide)) (by omega) rfl
theorem k_r18_bad3 {z n k zr zm o0 o1 o2 o3 kd fr to nu sg w i x : Int} (p1 : pPRT z n 18 k zr zm o0 o1 o2 o3 0 kd fr to nu sg w) (p2 : pNamr kd w 1) (p3 : pFndr zm zr 13 2 w i) (p4 : -1 * i ≤ 0) (p5 : pDec x zr (i + 60)) (p6 : 0 ≤ x ∧ x ≤ 1000) : pAns z n (-1 * fr + -1) 3 := by
  obtain ⟨p, ⟨i0, S, hR, e0, rfl, rfl, e3, hz0, hz20, hm, rfl, rfl, rfl, rfl⟩, hT0⟩ := p1
  obtain ⟨kd', f', kw, v', w', hT, g0, g1, g2, g3, g4, g5, g6, g7⟩ := TokR_p hT0
  obtain ⟨t1, t2, t3, t4, t5, t6, t7, t8⟩ := Tok_p hT
  obtain ⟨h1, h2, h3, h4⟩ := Rch_I hR
  have h1' := h1
  unfold I1 at h1
  have hz : aAg zr S 200 72 := fun j j0 j1 => hz0 j j0 j1 (fun h => absurd h (by decide))
  have k2 := iff1_t p2 rfl
  have kd2 : kd' = 2 := by omega
  obtain ⟨ew, hw, hk⟩ := g5 kd2
  have kn : kw = -1 := by
    by_cases g : kw = -1
    · exact g
    · exact absurd ((hk kw.toNat (by omega)).mp (by omega)) (k2.2 kw.toNat (by omega))
  have c0 := hz 0 (by decide) (by decide)
  change dcd (0 : Int).toNat zr = S 200 at c0
  have c1 := hz 1 (by decide) (by decide)
  change dcd (1 : Int).toNat zr = S 201 at c1
  have c2 := hz 2 (by decide) (by decide)
  change dcd (2 : Int).toNat zr = S 202 at c2
  have fi := fnd_r (s := S) (b := 13) (cnt := S 202) hm h4 ew hw (by decide) (by omega) (fun j a b => by unfold kslot; omega) c2 p3
  obtain ⟨b0, b1⟩ := fndF_pos (f := fun j => S (100 + 13 + j)) (by omega) fi
  have ai := hz (60 + i) (by omega) (by omega)
  rw [show 200 + (60 + i) = 260 + i by omega, show 60 + i = i + 60 by omega] at ai
  have ex := p5.2
  rw [ai] at ex
  exact ans_mk hR hT (F := _) (by
    rw [sA_18 e0, stFnd_t ⟨kd2, kn⟩ fi (by omega)]
    show cI (S (260 + i) = -1) (.inl _) (hlt fr 3) = _
    rw [cI_f (by omega)]) (by omega) rfl
theorem k_r19_ok {z n k zr zm o0 o1 o2 o3 u kd fr to nu sg w i m zr2 : Int} (p1 : pPRT z n 19 k zr zm o0 o1 o2 o3 u kd fr to nu sg w) (p2 : pNamr kd w 1) (p3 : pFndr zm zr 5 1 w i) (p4 : -1 * i ≤ 0) (p5 : pDec m zr 2) (p6 : pSlp zr 60 m i 0) (p7 : pUpd zr2 zr (u + 60) i) : pPR z n 20 to k zr2 zm o0 o1 o2 o3 (u + 8 * i) := by
  obtain ⟨p, ⟨i0, S, hR, e0, rfl, rfl, e3, hz0, hz20, hm, rfl, rfl, rfl, rfl⟩, hT0⟩ := p1
  obtain ⟨kd', f', kw, v', w', hT, g0, g1, g2, g3, g4, g5, g6, g7⟩ := TokR_p hT0
  obtain ⟨t1, t2, t3, t4, t5, t6, t7, t8⟩ := Tok_p hT
  obtain ⟨h1, h2, h3, h4⟩ := Rch_I hR
  have h1' := h1
  unfold I1 at h1
  have hz : aAg zr S 200 72 := fun j j0 j1 => hz0 j j0 j1 (fun h => absurd h (by decide))
  have k2 := iff1_t p2 rfl
  have kd2 : kd' = 2 := by omega
  obtain ⟨ew, hw, hk⟩ := g5 kd2
  have kn : kw = -1 := by
    by_cases g : kw = -1
    · exact g
    · exact absurd ((hk kw.toNat (by omega)).mp (by omega)) (k2.2 kw.toNat (by omega))
  have c0 := hz 0 (by decide) (by decide)
  change dcd (0 : Int).toNat zr = S 200 at c0
  have c1 := hz 1 (by decide) (by decide)
  change dcd (1 : Int).toNat zr = S 201 at c1
  have c2 := hz 2 (by decide) (by decide)
  change dcd (2 : Int).toNat zr = S 202 at c2
  have fi := fnd_r (s := S) (b := 5) (cnt := S 201) hm h4 ew hw (by decide) (by omega) (fun j a b => by unfold kslot; omega) c1 p3
  obtain ⟨b0, b1⟩ := fndF_pos (f := fun j => S (100 + 5 + j)) (by omega) fi
  subst e3
  have em := p5.2
  change dcd (2 : Int).toNat zr = m at em
  rw [c2] at em
  subst em
  have zj : ∀ j : Int, 0 ≤ j → j < S 202 → dcd (60 + j).toNat zr = S (260 + j) := fun j j0 j1 => by
    rw [hz (60 + j) (by omega) (by omega), show 200 + (60 + j) = 260 + j by omega]
  have cc : ¬ ∃ j : Int, 0 ≤ j ∧ j < S 202 ∧ S (260 + j) = i := fun ⟨j, j0, j1, j2⟩ => iff1_f p6 rfl ⟨j, j0, j1, by rw [zj j j0 j1]; exact j2⟩
  have st : stepA S kd' fr f' kw v' w' = .inl (adv (up S 3 (S 3 + 8 * i)) 20 f') := by
    rw [sA_19 e0, stFnd_t ⟨kd2, kn⟩ fi (by omega)]
    show cI (∃ j : Int, 0 ≤ j ∧ j < S 202 ∧ S (260 + j) = i) (hlt fr 3) (.inl _) = _
    rw [cI_f cc]
  have e_0 : (adv (up S 3 (S 3 + 8 * i)) 20 f') 0 = 20 := by rw [adv_0]
  have e_200 : (adv (up S 3 (S 3 + 8 * i)) 20 f') 200 = S 200 := by rw [adv_n (by omega) (by omega), up_n (by omega)]
  have e_201 : (adv (up S 3 (S 3 + 8 * i)) 20 f') 201 = S 201 := by rw [adv_n (by omega) (by omega), up_n (by omega)]
  have e_202 : (adv (up S 3 (S 3 + 8 * i)) 20 f') 202 = S 202 := by rw [adv_n (by omega) (by omega), up_n (by omega)]
  have hm' : ∀ j : Int, kslot (adv (up S 3 (S 3 + 8 * i)) 20 f') j ∨ pend (adv (up S 3 (S 3 + 8 * i)) 20 f') j → 0 ≤ j → j < 19 → dcd j.toNat zm = c27 8 ((adv (up S 3 (S 3 + 8 * i)) 20 f') (100 + j)) := fun j jq j0 j1 => by
    unfold kslot pend at jq
    rw [e_0, e_200, e_201, e_202] at jq
    rw [adv_n (by omega) (by omega), up_n (by omega)]
    refine hm j ?_ j0 j1
    unfold kslot pend
    rw [e0]
    omega
  exact ⟨i0 + 1, _, ⟨S, kd', fr, f', kw, v', w', hR, hT, st⟩, adv_0, (by rw [adv_1]; exact (g1 (by omega)).symm), (by rw [adv_n (by omega) (by omega), up_n (by omega)]), (by rw [adv_n (by omega) (by omega), up_s]), (fun j j0 j1 jx => by
    have jn := jx rfl
    obtain ⟨u1, u2, u3, u4⟩ := p7
    rw [u4, dcd_un u3 (by omega) (by omega), adv_n (by omega) (by omega), up_n (by omega)]
    exact hz j j0 j1), (fun _ => by
    obtain ⟨u1, u2, u3, u4⟩ := p7
    rw [u4, show 60 + (S 3 + 8 * i) % 8 = S 3 + 60 by omega, dcd_us u3 (by omega)]
    omega), hm', (by rw [adv_n (by omega) (by omega), up_n (by omega)]), (by rw [adv_n (by omega) (by omega), up_n (by omega)]), (by rw [adv_n (by omega) (by omega), up_n (by omega)]), (by rw [adv_n (by omega) (by omega), up_n (by omega)])⟩
theorem k_r19_bad1 {z n k zr zm o0 o1 o2 o3 u kd fr to nu sg w : Int} (p1 : pPRT z n 19 k zr zm o0 o1 o2 o3 u kd fr to nu sg w) (p2 : pNamr kd w 0) : pAns z n (-1 * fr + -1) 1 := by
  obtain ⟨p, ⟨i0, S, hR, e0, rfl, rfl, e3, hz0, hz20, hm, rfl, rfl, rfl, rfl⟩, hT0⟩ := p1
  obtain ⟨kd', f', kw, v', w', hT, g0, g1, g2, g3, g4, g5, g6, g7⟩ := TokR_p hT0
  obtain ⟨t1, t2, t3, t4, t5, t6, t7, t8⟩ := Tok_p hT
  obtain ⟨h1, h2, h3, h4⟩ := Rch_I hR
  have h1' := h1
  unfold I1 at h1
  have hz : aAg zr S 200 72 := fun j j0 j1 => hz0 j j0 j1 (fun h => absurd h (by decide))
  have kn : ¬ (kd' = 2 ∧ kw = -1) := fun ⟨q1, q2⟩ => iff1_f p2 rfl ⟨by omega, fun j hj e => by
    have := ((g5 q1).2.2 j hj).mpr e
    omega⟩
  exact ans_mk hR hT (F := _) (by
    rw [sA_19 e0]
    exact stFnd_k kn) (by omega) rfl
theorem k_r19_bad2 {z n k zr zm o0 o1 o2 o3 u kd fr to nu sg w : Int} (p1 : pPRT z n 19 k zr zm o0 o1 o2 o3 u kd fr to nu sg w) (p2 : pNamr kd w 1) (p3 : pFndr zm zr 5 1 w (-1)) : pAns z n (-1 * fr + -1) 3 := by
  obtain ⟨p, ⟨i0, S, hR, e0, rfl, rfl, e3, hz0, hz20, hm, rfl, rfl, rfl, rfl⟩, hT0⟩ := p1
  obtain ⟨kd', f', kw, v', w', hT, g0, g1, g2, g3, g4, g5, g6, g7⟩ := TokR_p hT0
  obtain ⟨t1, t2, t3, t4, t5, t6, t7, t8⟩ := Tok_p hT
  obtain ⟨h1, h2, h3, h4⟩ := Rch_I hR
  have h1' := h1
  unfold I1 at h1
  have hz : aAg zr S 200 72 := fun j j0 j1 => hz0 j j0 j1 (fun h => absurd h (by decide))
  have k2 := iff1_t p2 rfl
  have kd2 : kd' = 2 := by omega
  obtain ⟨ew, hw, hk⟩ := g5 kd2
  have kn : kw = -1 := by
    by_cases g : kw = -1
    · exact g
    · exact absurd ((hk kw.toNat (by omega)).mp (by omega)) (k2.2 kw.toNat (by omega))
  have c0 := hz 0 (by decide) (by decide)
  change dcd (0 : Int).toNat zr = S 200 at c0
  have c1 := hz 1 (by decide) (by decide)
  change dcd (1 : Int).toNat zr = S 201 at c1
  have c2 := hz 2 (by decide) (by decide)
  change dcd (2 : Int).toNat zr = S 202 at c2
  have fi := fnd_r (s := S) (b := 5) (cnt := S 201) hm h4 ew hw (by decide) (by omega) (fun j a b => by unfold kslot; omega) c1 p3
  exact ans_mk hR hT (F := _) (by
    rw [sA_19 e0]
    exact stFnd_b ⟨kd2, kn⟩ (by rw [← fi]; decide)) (by omega) rfl
theorem k_r19_bad3 {z n k zr zm o0 o1 o2 o3 u kd fr to nu sg w i m : Int} (p1 : pPRT z n 19 k zr zm o0 o1 o2 o3 u kd fr to nu sg w) (p2 : pNamr kd w 1) (p3 : pFndr zm zr 5 1 w i) (p4 : -1 * i ≤ 0) (p5 : pDec m zr 2) (p6 : pSlp zr 60 m i 1) : pAns z n (-1 * fr + -1) 3 := by
  obtain ⟨p, ⟨i0, S, hR, e0, rfl, rfl, e3, hz0, hz20, hm, rfl, rfl, rfl, rfl⟩, hT0⟩ := p1
  obtain ⟨kd', f', kw, v', w', hT, g0, g1, g2, g3, g4, g5, g6, g7⟩ := TokR_p hT0
  obtain ⟨t1, t2, t3, t4, t5, t6, t7, t8⟩ := Tok_p hT
  obtain ⟨h1, h2, h3, h4⟩ := Rch_I hR
  have h1' := h1
  unfold I1 at h1
  have hz : aAg zr S 200 72 := fun j j0 j1 => hz0 j j0 j1 (fun h => absurd h (by decide))
  have k2 := iff1_t p2 rfl
  have kd2 : kd' = 2 := by omega
  obtain ⟨ew, hw, hk⟩ := g5 kd2
  have kn : kw = -1 := by
    by_cases g : kw = -1
    · exact g
    · exact absurd ((hk kw.toNat (by omega)).mp (by omega)) (k2.2 kw.toNat (by omega))
  have c0 := hz 0 (by decide) (by decide)
  change dcd (0 : Int).toNat zr = S 200 at c0
  have c1 := hz 1 (by decide) (by decide)
  change dcd (1 : Int).toNat zr = S 201 at c1
  have c2 := hz 2 (by decide) (by decide)
  change dcd (2 : Int).toNat zr = S 202 at c2
  have fi := fnd_r (s := S) (b := 5) (cnt := S 201) hm h4 ew hw (by decide) (by omega) (fun j a b => by unfold kslot; omega) c1 p3
  obtain ⟨b0, b1⟩ := fndF_pos (f := fun j => S (100 + 5 + j)) (by omega) fi
  have em := p5.2
  change dcd (2 : Int).toNat zr = m at em
  rw [c2] at em
  subst em
  have zj : ∀ j : Int, 0 ≤ j → j < S 202 → dcd (60 + j).toNat zr = S (260 + j) := fun j j0 j1 => by
    rw [hz (60 + j) (by omega) (by omega), show 200 + (60 + j) = 260 + j by omega]
  have cc : ∃ j : Int, 0 ≤ j ∧ j < S 202 ∧ S (260 + j) = i := by
    obtain ⟨j, j0, j1, j2⟩ := iff1_t p6 rfl
    rw [zj j j0 j1] at j2
    exact ⟨j, j0, j1, j2⟩
  exact ans_mk hR hT (F := _) (by
    rw [sA_19 e0, stFnd_t ⟨kd2, kn⟩ fi (by omega)]
    show cI (∃ j : Int, 0 ≤ j ∧ j < S 202 ∧ S (260 + j) = i) (hlt fr 3) (.inl _) = _
    rw [cI_t cc]) (by omega) rfl
theorem k_r20_ok {z n k zr zm o0 o1 o2 o3 a i kd fr to nu sg w zr2 : Int} (p1 : pPRT z n 20 k zr zm o0 o1 o2 o3 (a + 8 * i) kd fr to nu sg w) (p2 : 3 ≤ kd ∧ kd ≤ 3) (p3 : 1 ≤ nu ∧ nu ≤ 30) (p4 : 0 ≤ a ∧ a ≤ 5) (p5 : -1 * i ≤ 0) (p6 : pUpd zr2 zr (a + 66) nu) : pPR z n 30 to k zr2 zm o0 o1 o2 o3 0 := by
  obtain ⟨p, ⟨i0, S, hR, e0, rfl, rfl, e3, hz0, hz20, hm, rfl, rfl, rfl, rfl⟩, hT0⟩ := p1
  obtain ⟨kd', f', kw, v', w', hT, g0, g1, g2, g3, g4, g5, g6, g7⟩ := TokR_p hT0
  obtain ⟨t1, t2, t3, t4, t5, t6, t7, t8⟩ := Tok_p hT
  obtain ⟨h1, h2, h3, h4⟩ := Rch_I hR
  have h1' := h1
  unfold I1 at h1
  have k3 : kd' = 3 := by omega
  have ev := g2 k3
  have st : stepA S kd' fr f' kw v' w' = .inl (adv (up (up (up S (260 + S 3 % 8) (S 3 / 8)) (266 + S 3 % 8) v') 3 0) 30 f') := by
    rw [sA_20 e0]
    exact stNum_t k3 (by omega) (by omega)
  have e_0 : (adv (up (up (up S (260 + S 3 % 8) (S 3 / 8)) (266 + S 3 % 8) v') 3 0) 30 f') 0 = 30 := by rw [adv_0]
  have e_200 : (adv (up (up (up S (260 + S 3 % 8) (S 3 / 8)) (266 + S 3 % 8) v') 3 0) 30 f') 200 = S 200 := by rw [adv_n (by omega) (by omega), up_n (by omega), up_n (by omega), up_n (by omega)]
  have e_201 : (adv (up (up (up S (260 + S 3 % 8) (S 3 / 8)) (266 + S 3 % 8) v') 3 0) 30 f') 201 = S 201 := by rw [adv_n (by omega) (by omega), up_n (by omega), up_n (by omega), up_n (by omega)]
  have e_202 : (adv (up (up (up S (260 + S 3 % 8) (S 3 / 8)) (266 + S 3 % 8) v') 3 0) 30 f') 202 = S 202 := by rw [adv_n (by omega) (by omega), up_n (by omega), up_n (by omega), up_n (by omega)]
  have hm' : ∀ j : Int, kslot (adv (up (up (up S (260 + S 3 % 8) (S 3 / 8)) (266 + S 3 % 8) v') 3 0) 30 f') j ∨ pend (adv (up (up (up S (260 + S 3 % 8) (S 3 / 8)) (266 + S 3 % 8) v') 3 0) 30 f') j → 0 ≤ j → j < 19 → dcd j.toNat zm = c27 8 ((adv (up (up (up S (260 + S 3 % 8) (S 3 / 8)) (266 + S 3 % 8) v') 3 0) 30 f') (100 + j)) := fun j jq j0 j1 => by
    unfold kslot pend at jq
    rw [e_0, e_200, e_201, e_202] at jq
    rw [adv_n (by omega) (by omega), up_n (by omega), up_n (by omega), up_n (by omega)]
    refine hm j ?_ j0 j1
    unfold kslot pend
    rw [e0]
    omega
  exact ⟨i0 + 1, _, ⟨S, kd', fr, f', kw, v', w', hR, hT, st⟩, adv_0, (by rw [adv_1]; exact (g1 (by omega)).symm), (by rw [adv_n (by omega) (by omega), up_n (by omega), up_n (by omega), up_n (by omega)]), (by rw [adv_n (by omega) (by omega), up_s]), (fun j j0 j1 _ => (fun j j0 j1 => by
    obtain ⟨u1, u2, u3, u4⟩ := p6
    rw [u4]
    by_cases ea : j = a + 66
    · rw [ea, dcd_us u3 (by omega), adv_n (by omega) (by omega), up_n (by omega), show 200 + (a + 66) = 266 + S 3 % 8 by omega, up_s]
      exact ev
    · rw [dcd_un u3 (by omega) (by omega), adv_n (by omega) (by omega), up_n (by omega), up_n (by omega)]
      by_cases eb : j = 60 + a
      · have q := hz20 rfl
        rw [show 60 + (a + 8 * i) % 8 = j by omega] at q
        rw [q, show 200 + j = 260 + S 3 % 8 by omega, up_s]
        omega
      · rw [up_n (by omega)]
        exact hz0 j j0 j1 (fun _ => by omega)) j j0 j1), (fun h => absurd h (by decide)), hm', (by rw [adv_n (by omega) (by omega), up_n (by omega), up_n (by omega), up_n (by omega)]), (by rw [adv_n (by omega) (by omega), up_n (by omega), up_n (by omega), up_n (by omega)]), (by rw [adv_n (by omega) (by omega), up_n (by omega), up_n (by omega), up_n (by omega)]), (by rw [adv_n (by omega) (by omega), up_n (by omega), up_n (by omega), up_n (by omega)])⟩
theorem k_r20_bad1 {z n k zr zm o0 o1 o2 o3 u kd fr to nu sg w : Int} (p1 : pPRT z n 20 k zr zm o0 o1 o2 o3 u kd fr to nu sg w) (p2 : kd ≠ 3) : pAns z n (-1 * fr + -1) 1 := by
  obtain ⟨p, ⟨i0, S, hR, e0, rfl, rfl, e3, hz0, hz20, hm, rfl, rfl, rfl, rfl⟩, hT0⟩ := p1
  obtain ⟨kd', f', kw, v', w', hT, g0, g1, g2, g3, g4, g5, g6, g7⟩ := TokR_p hT0
  obtain ⟨t1, t2, t3, t4, t5, t6, t7, t8⟩ := Tok_p hT
  obtain ⟨h1, h2, h3, h4⟩ := Rch_I hR
  have h1' := h1
  unfold I1 at h1
  exact ans_mk hR hT (F := _) (by
    rw [sA_20 e0]
    exact stNum_k (by omega)) (by omega) rfl
theorem k_r20_bad3 {z n k zr zm o0 o1 o2 o3 u kd fr to nu sg w : Int} (p1 : pPRT z n 20 k zr zm o0 o1 o2 o3 u kd fr to nu sg w) (p2 : 3 ≤ kd ∧ kd ≤ 3) (p3 : pWin nu 1 30 0) : pAns z n (-1 * fr + -1) 2 := by
  obtain ⟨p, ⟨i0, S, hR, e0, rfl, rfl, e3, hz0, hz20, hm, rfl, rfl, rfl, rfl⟩, hT0⟩ := p1
  obtain ⟨kd', f', kw, v', w', hT, g0, g1, g2, g3, g4, g5, g6, g7⟩ := TokR_p hT0
  obtain ⟨t1, t2, t3, t4, t5, t6, t7, t8⟩ := Tok_p hT
  obtain ⟨h1, h2, h3, h4⟩ := Rch_I hR
  have h1' := h1
  unfold I1 at h1
  exact ans_mk hR hT (F := _) (by
    rw [sA_20 e0]
    exact stNum_v (by omega) (by rw [← g2 (by omega)]; exact iff1_f p3 rfl)) (by omega) rfl
theorem k_r30_ok {z n k zr zm o0 o1 o2 o3 kd fr to nu sg w : Int} (p1 : pPRT z n 30 k zr zm o0 o1 o2 o3 0 kd fr to nu sg w) (p2 : pSgn kd sg 59 1) : pPR z n 0 to (k + 1) zr zm o0 o1 o2 o3 0 := by
  obtain ⟨p, ⟨i0, S, hR, e0, rfl, rfl, e3, hz0, hz20, hm, rfl, rfl, rfl, rfl⟩, hT0⟩ := p1
  obtain ⟨kd', f', kw, v', w', hT, g0, g1, g2, g3, g4, g5, g6, g7⟩ := TokR_p hT0
  obtain ⟨t1, t2, t3, t4, t5, t6, t7, t8⟩ := Tok_p hT
  obtain ⟨h1, h2, h3, h4⟩ := Rch_I hR
  have h1' := h1
  unfold I1 at h1
  have hz : aAg zr S 200 72 := fun j j0 j1 => hz0 j j0 j1 (fun h => absurd h (by decide))
  have k4 := iff1_t p2 rfl
  have kd4 : kd' = 4 := by omega
  have ev := g3 kd4
  have st : stepA S kd' fr f' kw v' w' = .inl (adv (up S 2 (S 2 + 1)) 0 f') := by
    rw [sA_30 e0, cI_t ⟨kd4, by omega⟩]
  have e_0 : (adv (up S 2 (S 2 + 1)) 0 f') 0 = 0 := by rw [adv_0]
  have e_200 : (adv (up S 2 (S 2 + 1)) 0 f') 200 = S 200 := by rw [adv_n (by omega) (by omega), up_n (by omega)]
  have e_201 : (adv (up S 2 (S 2 + 1)) 0 f') 201 = S 201 := by rw [adv_n (by omega) (by omega), up_n (by omega)]
  have e_202 : (adv (up S 2 (S 2 + 1)) 0 f') 202 = S 202 := by rw [adv_n (by omega) (by omega), up_n (by omega)]
  have hm' : ∀ j : Int, kslot (adv (up S 2 (S 2 + 1)) 0 f') j ∨ pend (adv (up S 2 (S 2 + 1)) 0 f') j → 0 ≤ j → j < 19 → dcd j.toNat zm = c27 8 ((adv (up S 2 (S 2 + 1)) 0 f') (100 + j)) := fun j jq j0 j1 => by
    unfold kslot pend at jq
    rw [e_0, e_200, e_201, e_202] at jq
    rw [adv_n (by omega) (by omega), up_n (by omega)]
    refine hm j ?_ j0 j1
    unfold kslot pend
    rw [e0]
    omega
  exact ⟨i0 + 1, _, ⟨S, kd', fr, f', kw, v', w', hR, hT, st⟩, adv_0, (by rw [adv_1]; exact (g1 (by omega)).symm), (by rw [adv_n (by omega) (by omega), up_s]), (by rw [adv_n (by omega) (by omega), up_n (by omega)]; exact e3), (fun j j0 j1 _ => (aAg_a (aAg_o hz (Or.inl (by omega))) (by decide)) j j0 j1), (fun h => absurd h (by decide)), hm', (by rw [adv_n (by omega) (by omega), up_n (by omega)]), (by rw [adv_n (by omega) (by omega), up_n (by omega)]), (by rw [adv_n (by omega) (by omega), up_n (by omega)]), (by rw [adv_n (by omega) (by omega), up_n (by omega)])⟩
theorem k_r30_bad {z n k zr zm o0 o1 o2 o3 kd fr to nu sg w : Int} (p1 : pPRT z n 30 k zr zm o0 o1 o2 o3 0 kd fr to nu sg w) (p2 : pSgn kd sg 59 0) : pAns z n (-1 * fr + -1) 1 := by
  obtain ⟨p, ⟨i0, S, hR, e0, rfl, rfl, e3, hz0, hz20, hm, rfl, rfl, rfl, rfl⟩, hT0⟩ := p1
  obtain ⟨kd', f', kw, v', w', hT, g0, g1, g2, g3, g4, g5, g6, g7⟩ := TokR_p hT0
  obtain ⟨t1, t2, t3, t4, t5, t6, t7, t8⟩ := Tok_p hT
  obtain ⟨h1, h2, h3, h4⟩ := Rch_I hR
  have h1' := h1
  unfold I1 at h1
  have hz : aAg zr S 200 72 := fun j j0 j1 => hz0 j j0 j1 (fun h => absurd h (by decide))
  exact ans_mk hR hT (F := _) (by
    rw [sA_30 e0, cI_f (fun q => iff1_f p2 rfl ⟨by omega, by rw [g3 q.1]; exact q.2⟩)]) (by omega) rfl
theorem k_r_ku {z n k zr zm o0 o1 o2 o3 kd fr to nu sg w : Int} (p1 : pPRT z n 0 k zr zm o0 o1 o2 o3 0 kd fr to nu sg w) (p2 : 0 ≤ n ∧ n ≤ 940) (p3 : -2147483648 ≤ k ∧ k ≤ 2147483647) : (0 ≤ k) ∧ (k ≤ 470) := by
  obtain ⟨p, ⟨i0, S, hR, e0, rfl, rfl, e3, hz0, hz20, hm, rfl, rfl, rfl, rfl⟩, hT0⟩ := p1
  obtain ⟨kd', f', kw, v', w', hT, g0, g1, g2, g3, g4, g5, g6, g7⟩ := TokR_p hT0
  obtain ⟨t1, t2, t3, t4, t5, t6, t7, t8⟩ := Tok_p hT
  obtain ⟨h1, h2, h3, h4⟩ := Rch_I hR
  have h1' := h1
  unfold I1 at h1
  have hz : aAg zr S 200 72 := fun j j0 j1 => hz0 j j0 j1 (fun h => absurd h (by decide))
  omega
end
