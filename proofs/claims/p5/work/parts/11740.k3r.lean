noncomputable section
/-! T3: rules (printed by wip/v5/gen/rules4.py) -/
theorem sI_tab : ∀ m : Nat, m < 72 → sI (200 + (m : Int)) = (if m = 3 then 7 else if m = 4 then 3 else if m = 5 then 15 else if m = 7 then 20 else if 60 ≤ m ∧ m < 66 then -1 else 0) := by decide +kernel
theorem k_r_init {zr o0 o1 o2 o3 n z zm : Int} (p1 : pRg zr 0 3 0 0) (p2 : pRg zr 3 4 7 7) (p3 : pRg zr 4 5 3 3) (p4 : pRg zr 5 6 15 15) (p5 : pRg zr 6 7 0 0) (p6 : pRg zr 7 8 20 20) (p7 : pRg zr 8 60 0 0) (p8 : pRg zr 60 66 (-1) (-1)) (p9 : pRg zr 66 72 0 0) (p10 : 0 ≤ o0 ∧ o0 ≤ 0) (p11 : 0 ≤ o1 ∧ o1 ≤ 0) (p12 : 0 ≤ o2 ∧ o2 ≤ 0) (p13 : 0 ≤ o3 ∧ o3 ≤ 0) (p14 : 0 ≤ n ∧ n ≤ 940) : pPR z n 0 0 0 zr zm o0 o1 o2 o3 0 := ⟨0, sI, rfl, rfl, rfl, rfl, rfl, (fun j j0 j1 _ => by
  obtain ⟨m, rfl⟩ := Int.eq_ofNat_of_zero_le j0
  have hm : m < 72 := by omega
  rw [sI_tab m hm]
  have hr : m < 3 ∨ m = 3 ∨ m = 4 ∨ m = 5 ∨ m = 6 ∨ m = 7 ∨ (8 ≤ m ∧ m < 60) ∨ (60 ≤ m ∧ m < 66) ∨ (66 ≤ m ∧ m < 72) := by omega
  rcases hr with h | h | h | h | h | h | h | h | h
  · have q := p1 (m : Int) (by omega) (by omega) (by omega) (by omega)
    repeat' split
    all_goals omega
  · have q := p2 (m : Int) (by omega) (by omega) (by omega) (by omega)
    repeat' split
    all_goals omega
  · have q := p3 (m : Int) (by omega) (by omega) (by omega) (by omega)
    repeat' split
    all_goals omega
  · have q := p4 (m : Int) (by omega) (by omega) (by omega) (by omega)
    repeat' split
    all_goals omega
  · have q := p5 (m : Int) (by omega) (by omega) (by omega) (by omega)
    repeat' split
    all_goals omega
  · have q := p6 (m : Int) (by omega) (by omega) (by omega) (by omega)
    repeat' split
    all_goals omega
  · have q := p7 (m : Int) (by omega) (by omega) (by omega) (by omega)
    repeat' split
    all_goals omega
  · have q := p8 (m : Int) (by omega) (by omega) (by omega) (by omega)
    repeat' split
    all_goals omega
  · have q := p9 (m : Int) (by omega) (by omega) (by omega) (by omega)
    repeat' split
    all_goals omega), (fun h => absurd h (by decide)), (fun j q _ _ => by
  exfalso
  unfold kslot pend at q
  rw [show sI 0 = 0 from rfl, show sI 200 = 0 from rfl, show sI 201 = 0 from rfl, show sI 202 = 0 from rfl] at q
  omega), (by show o0 = 0; omega), (by show o1 = 0; omega), (by show o2 = 0; omega), (by show o3 = 0; omega)⟩
theorem k_r0_end {z n k zr zm o0 o1 o2 o3 kd fr to nu sg w : Int} (p1 : pPRT z n 0 k zr zm o0 o1 o2 o3 0 kd fr to nu sg w) (p2 : 0 ≤ kd ∧ kd ≤ 0) : pAns z n k 0 := by
  obtain ⟨p, ⟨i0, S, hR, e0, rfl, rfl, e3, hz0, hz20, hm, rfl, rfl, rfl, rfl⟩, hT0⟩ := p1
  obtain ⟨kd', f', kw, v', w', hT, g0, g1, g2, g3, g5, g6, g7, g8⟩ := TokR_p hT0
  obtain ⟨h1, h2, h3, h4⟩ := Rch_I hR
  have bb := I1_b h1
  have hz : aAg zr S 200 72 := fun j j0 j1 => hz0 j j0 j1 (fun h => absurd h (by decide))
  exact ⟨i0, S, kd', fr, f', kw, v', w', hR, hT, by rw [sA_0 e0, st0_1 (by omega)]⟩
theorem k_r0_bad {z n k zr zm o0 o1 o2 o3 kd fr to nu sg w : Int} (p1 : pPRT z n 0 k zr zm o0 o1 o2 o3 0 kd fr to nu sg w) (p2 : 1 ≤ kd) (p3 : pIsw kd w 0 0) (p4 : pIsw kd w 1 0) (p5 : pIsw kd w 2 0) (p6 : pIsw kd w 3 0) (p7 : pIsw kd w 4 0) (p8 : pIsw kd w 5 0) (p9 : pIsw kd w 6 0) (p10 : pIsw kd w 7 0) (p11 : pIsw kd w 8 0) : pAns z n (-1 * fr + -1) 1 := by
  obtain ⟨p, ⟨i0, S, hR, e0, rfl, rfl, e3, hz0, hz20, hm, rfl, rfl, rfl, rfl⟩, hT0⟩ := p1
  obtain ⟨kd', f', kw, v', w', hT, g0, g1, g2, g3, g5, g6, g7, g8⟩ := TokR_p hT0
  obtain ⟨h1, h2, h3, h4⟩ := Rch_I hR
  have bb := I1_b h1
  have hz : aAg zr S 200 72 := fun j j0 j1 => hz0 j j0 j1 (fun h => absurd h (by decide))
  have kz : kw < 0 ∨ 9 ≤ kw := by
    by_cases k2 : kd' = 2
    · skip
      have n0 : ¬ kw = 0 := fun q => iff1_f p3 rfl ⟨by omega, ((g5 k2).2.2 0 (by decide)).mp q⟩
      have n1 : ¬ kw = 1 := fun q => iff1_f p4 rfl ⟨by omega, ((g5 k2).2.2 1 (by decide)).mp q⟩
      have n2 : ¬ kw = 2 := fun q => iff1_f p5 rfl ⟨by omega, ((g5 k2).2.2 2 (by decide)).mp q⟩
      have n3 : ¬ kw = 3 := fun q => iff1_f p6 rfl ⟨by omega, ((g5 k2).2.2 3 (by decide)).mp q⟩
      have n4 : ¬ kw = 4 := fun q => iff1_f p7 rfl ⟨by omega, ((g5 k2).2.2 4 (by decide)).mp q⟩
      have n5 : ¬ kw = 5 := fun q => iff1_f p8 rfl ⟨by omega, ((g5 k2).2.2 5 (by decide)).mp q⟩
      have n6 : ¬ kw = 6 := fun q => iff1_f p9 rfl ⟨by omega, ((g5 k2).2.2 6 (by decide)).mp q⟩
      have n7 : ¬ kw = 7 := fun q => iff1_f p10 rfl ⟨by omega, ((g5 k2).2.2 7 (by decide)).mp q⟩
      have n8 : ¬ kw = 8 := fun q => iff1_f p11 rfl ⟨by omega, ((g5 k2).2.2 8 (by decide)).mp q⟩
      omega
    · have := g6 k2
      omega
  exact ans_mk hR hT (F := _) (by
    rw [sA_0 e0]
    exact st0_z (by omega) kz) (by omega) rfl
theorem k_r0_first0 {z n k zr zm o0 o1 o2 o3 kd fr to nu sg w y : Int} (p1 : pPRT z n 0 k zr zm o0 o1 o2 o3 0 kd fr to nu sg w) (p2 : pIsw kd w 0 1) (p3 : 0 ≤ o0 ∧ o0 ≤ 0) (p4 : 1 ≤ y ∧ y ≤ 1) : pPR z n 1 to k zr zm y o1 o2 o3 0 := by
  obtain ⟨p, ⟨i0, S, hR, e0, rfl, rfl, e3, hz0, hz20, hm, rfl, rfl, rfl, rfl⟩, hT0⟩ := p1
  obtain ⟨kd', f', kw, v', w', hT, g0, g1, g2, g3, g5, g6, g7, g8⟩ := TokR_p hT0
  obtain ⟨h1, h2, h3, h4⟩ := Rch_I hR
  have bb := I1_b h1
  have hz : aAg zr S 200 72 := fun j j0 j1 => hz0 j j0 j1 (fun h => absurd h (by decide))
  have w0 := iff1_t p2 rfl
  have kd2 : kd' = 2 := by omega
  have kk : kw = 0 := ((g5 kd2).2.2 0 (by decide)).mpr w0.2
  have g1' := g1 (by omega)
  clear g1
  try clear g0 g2 g3
  have st : stepA S kd' fr f' kw v' w' = .inl (adv (up S 10 1) 1 f') := by
    rw [sA_0 e0]
    exact st0_t0 (by omega) kk (by omega)
  have e_0 : (adv (up S 10 1) 1 f') 0 = 1 := by rw [adv_0]
  have e_200 : (adv (up S 10 1) 1 f') 200 = S 200 := by rw [adv_n (by omega) (by omega), up_n (by omega)]
  have e_201 : (adv (up S 10 1) 1 f') 201 = S 201 := by rw [adv_n (by omega) (by omega), up_n (by omega)]
  have e_202 : (adv (up S 10 1) 1 f') 202 = S 202 := by rw [adv_n (by omega) (by omega), up_n (by omega)]
  have hm' : ∀ j : Int, kslot (adv (up S 10 1) 1 f') j ∨ pend (adv (up S 10 1) 1 f') j → 0 ≤ j → j < 19 → dcd j.toNat zm = c27 8 ((adv (up S 10 1) 1 f') (100 + j)) := fun j jq j0 j1 => by
    unfold kslot pend at jq
    rw [e_0, e_200, e_201, e_202] at jq
    rw [adv_n (by omega) (by omega), up_n (by omega)]
    refine hm j ?_ j0 j1
    unfold kslot pend
    rw [e0]
    omega
  exact ⟨i0 + 1, _, ⟨S, kd', fr, f', kw, v', w', hR, hT, st⟩, adv_0, (by rw [adv_1]; exact g1'.symm), (by rw [adv_n (by omega) (by omega), up_n (by omega)]), (by rw [adv_n (by omega) (by omega), up_n (by omega)]; exact e3), (fun j j0 j1 _ => (aAg_a (aAg_o hz (Or.inl (by omega))) (by decide)) j j0 j1), (fun h => absurd h (by decide)), hm', (by rw [adv_n (by omega) (by omega), up_s]; omega), (by rw [adv_n (by omega) (by omega), up_n (by omega)]), (by rw [adv_n (by omega) (by omega), up_n (by omega)]), (by rw [adv_n (by omega) (by omega), up_n (by omega)])⟩
theorem k_r0_again0 {z n k zr zm o0 o1 o2 o3 kd fr to nu sg w : Int} (p1 : pPRT z n 0 k zr zm o0 o1 o2 o3 0 kd fr to nu sg w) (p2 : pIsw kd w 0 1) (p3 : 1 ≤ o0 ∧ o0 ≤ 1) : pAns z n (-1 * fr + -1) 3 := by
  obtain ⟨p, ⟨i0, S, hR, e0, rfl, rfl, e3, hz0, hz20, hm, rfl, rfl, rfl, rfl⟩, hT0⟩ := p1
  obtain ⟨kd', f', kw, v', w', hT, g0, g1, g2, g3, g5, g6, g7, g8⟩ := TokR_p hT0
  obtain ⟨h1, h2, h3, h4⟩ := Rch_I hR
  have bb := I1_b h1
  have hz : aAg zr S 200 72 := fun j j0 j1 => hz0 j j0 j1 (fun h => absurd h (by decide))
  have w0 := iff1_t p2 rfl
  have kd2 : kd' = 2 := by omega
  have kk : kw = 0 := ((g5 kd2).2.2 0 (by decide)).mpr w0.2
  exact ans_mk hR hT (F := _) (by
    rw [sA_0 e0]
    exact st0_f0 (by omega) kk (by omega)) (by omega) rfl
theorem k_r0_first1 {z n k zr zm o0 o1 o2 o3 kd fr to nu sg w y : Int} (p1 : pPRT z n 0 k zr zm o0 o1 o2 o3 0 kd fr to nu sg w) (p2 : pIsw kd w 1 1) (p3 : 0 ≤ o1 ∧ o1 ≤ 0) (p4 : 1 ≤ y ∧ y ≤ 1) : pPR z n 2 to k zr zm o0 y o2 o3 0 := by
  obtain ⟨p, ⟨i0, S, hR, e0, rfl, rfl, e3, hz0, hz20, hm, rfl, rfl, rfl, rfl⟩, hT0⟩ := p1
  obtain ⟨kd', f', kw, v', w', hT, g0, g1, g2, g3, g5, g6, g7, g8⟩ := TokR_p hT0
  obtain ⟨h1, h2, h3, h4⟩ := Rch_I hR
  have bb := I1_b h1
  have hz : aAg zr S 200 72 := fun j j0 j1 => hz0 j j0 j1 (fun h => absurd h (by decide))
  have w1 := iff1_t p2 rfl
  have kd2 : kd' = 2 := by omega
  have kk : kw = 1 := ((g5 kd2).2.2 1 (by decide)).mpr w1.2
  have g1' := g1 (by omega)
  clear g1
  try clear g0 g2 g3
  have st : stepA S kd' fr f' kw v' w' = .inl (adv (up S 11 1) 2 f') := by
    rw [sA_0 e0]
    exact st0_t1 (by omega) kk (by omega)
  have e_0 : (adv (up S 11 1) 2 f') 0 = 2 := by rw [adv_0]
  have e_200 : (adv (up S 11 1) 2 f') 200 = S 200 := by rw [adv_n (by omega) (by omega), up_n (by omega)]
  have e_201 : (adv (up S 11 1) 2 f') 201 = S 201 := by rw [adv_n (by omega) (by omega), up_n (by omega)]
  have e_202 : (adv (up S 11 1) 2 f') 202 = S 202 := by rw [adv_n (by omega) (by omega), up_n (by omega)]
  have hm' : ∀ j : Int, kslot (adv (up S 11 1) 2 f') j ∨ pend (adv (up S 11 1) 2 f') j → 0 ≤ j → j < 19 → dcd j.toNat zm = c27 8 ((adv (up S 11 1) 2 f') (100 + j)) := fun j jq j0 j1 => by
    unfold kslot pend at jq
    rw [e_0, e_200, e_201, e_202] at jq
    rw [adv_n (by omega) (by omega), up_n (by omega)]
    refine hm j ?_ j0 j1
    unfold kslot pend
    rw [e0]
    omega
  exact ⟨i0 + 1, _, ⟨S, kd', fr, f', kw, v', w', hR, hT, st⟩, adv_0, (by rw [adv_1]; exact g1'.symm), (by rw [adv_n (by omega) (by omega), up_n (by omega)]), (by rw [adv_n (by omega) (by omega), up_n (by omega)]; exact e3), (fun j j0 j1 _ => (aAg_a (aAg_o hz (Or.inl (by omega))) (by decide)) j j0 j1), (fun h => absurd h (by decide)), hm', (by rw [adv_n (by omega) (by omega), up_n (by omega)]), (by rw [adv_n (by omega) (by omega), up_s]; omega), (by rw [adv_n (by omega) (by omega), up_n (by omega)]), (by rw [adv_n (by omega) (by omega), up_n (by omega)])⟩
theorem k_r0_again1 {z n k zr zm o0 o1 o2 o3 kd fr to nu sg w : Int} (p1 : pPRT z n 0 k zr zm o0 o1 o2 o3 0 kd fr to nu sg w) (p2 : pIsw kd w 1 1) (p3 : 1 ≤ o1 ∧ o1 ≤ 1) : pAns z n (-1 * fr + -1) 3 := by
  obtain ⟨p, ⟨i0, S, hR, e0, rfl, rfl, e3, hz0, hz20, hm, rfl, rfl, rfl, rfl⟩, hT0⟩ := p1
  obtain ⟨kd', f', kw, v', w', hT, g0, g1, g2, g3, g5, g6, g7, g8⟩ := TokR_p hT0
  obtain ⟨h1, h2, h3, h4⟩ := Rch_I hR
  have bb := I1_b h1
  have hz : aAg zr S 200 72 := fun j j0 j1 => hz0 j j0 j1 (fun h => absurd h (by decide))
  have w1 := iff1_t p2 rfl
  have kd2 : kd' = 2 := by omega
  have kk : kw = 1 := ((g5 kd2).2.2 1 (by decide)).mpr w1.2
  exact ans_mk hR hT (F := _) (by
    rw [sA_0 e0]
    exact st0_f1 (by omega) kk (by omega)) (by omega) rfl
theorem k_r0_first2 {z n k zr zm o0 o1 o2 o3 kd fr to nu sg w y : Int} (p1 : pPRT z n 0 k zr zm o0 o1 o2 o3 0 kd fr to nu sg w) (p2 : pIsw kd w 2 1) (p3 : 0 ≤ o2 ∧ o2 ≤ 0) (p4 : 1 ≤ y ∧ y ≤ 1) : pPR z n 4 to k zr zm o0 o1 y o3 0 := by
  obtain ⟨p, ⟨i0, S, hR, e0, rfl, rfl, e3, hz0, hz20, hm, rfl, rfl, rfl, rfl⟩, hT0⟩ := p1
  obtain ⟨kd', f', kw, v', w', hT, g0, g1, g2, g3, g5, g6, g7, g8⟩ := TokR_p hT0
  obtain ⟨h1, h2, h3, h4⟩ := Rch_I hR
  have bb := I1_b h1
  have hz : aAg zr S 200 72 := fun j j0 j1 => hz0 j j0 j1 (fun h => absurd h (by decide))
  have w2 := iff1_t p2 rfl
  have kd2 : kd' = 2 := by omega
  have kk : kw = 2 := ((g5 kd2).2.2 2 (by decide)).mpr w2.2
  have g1' := g1 (by omega)
  clear g1
  try clear g0 g2 g3
  have st : stepA S kd' fr f' kw v' w' = .inl (adv (up S 12 1) 4 f') := by
    rw [sA_0 e0]
    exact st0_t2 (by omega) kk (by omega)
  have e_0 : (adv (up S 12 1) 4 f') 0 = 4 := by rw [adv_0]
  have e_200 : (adv (up S 12 1) 4 f') 200 = S 200 := by rw [adv_n (by omega) (by omega), up_n (by omega)]
  have e_201 : (adv (up S 12 1) 4 f') 201 = S 201 := by rw [adv_n (by omega) (by omega), up_n (by omega)]
  have e_202 : (adv (up S 12 1) 4 f') 202 = S 202 := by rw [adv_n (by omega) (by omega), up_n (by omega)]
  have hm' : ∀ j : Int, kslot (adv (up S 12 1) 4 f') j ∨ pend (adv (up S 12 1) 4 f') j → 0 ≤ j → j < 19 → dcd j.toNat zm = c27 8 ((adv (up S 12 1) 4 f') (100 + j)) := fun j jq j0 j1 => by
    unfold kslot pend at jq
    rw [e_0, e_200, e_201, e_202] at jq
    rw [adv_n (by omega) (by omega), up_n (by omega)]
    refine hm j ?_ j0 j1
    unfold kslot pend
    rw [e0]
    omega
  exact ⟨i0 + 1, _, ⟨S, kd', fr, f', kw, v', w', hR, hT, st⟩, adv_0, (by rw [adv_1]; exact g1'.symm), (by rw [adv_n (by omega) (by omega), up_n (by omega)]), (by rw [adv_n (by omega) (by omega), up_n (by omega)]; exact e3), (fun j j0 j1 _ => (aAg_a (aAg_o hz (Or.inl (by omega))) (by decide)) j j0 j1), (fun h => absurd h (by decide)), hm', (by rw [adv_n (by omega) (by omega), up_n (by omega)]), (by rw [adv_n (by omega) (by omega), up_n (by omega)]), (by rw [adv_n (by omega) (by omega), up_s]; omega), (by rw [adv_n (by omega) (by omega), up_n (by omega)])⟩
theorem k_r0_again2 {z n k zr zm o0 o1 o2 o3 kd fr to nu sg w : Int} (p1 : pPRT z n 0 k zr zm o0 o1 o2 o3 0 kd fr to nu sg w) (p2 : pIsw kd w 2 1) (p3 : 1 ≤ o2 ∧ o2 ≤ 1) : pAns z n (-1 * fr + -1) 3 := by
  obtain ⟨p, ⟨i0, S, hR, e0, rfl, rfl, e3, hz0, hz20, hm, rfl, rfl, rfl, rfl⟩, hT0⟩ := p1
  obtain ⟨kd', f', kw, v', w', hT, g0, g1, g2, g3, g5, g6, g7, g8⟩ := TokR_p hT0
  obtain ⟨h1, h2, h3, h4⟩ := Rch_I hR
  have bb := I1_b h1
  have hz : aAg zr S 200 72 := fun j j0 j1 => hz0 j j0 j1 (fun h => absurd h (by decide))
  have w2 := iff1_t p2 rfl
  have kd2 : kd' = 2 := by omega
  have kk : kw = 2 := ((g5 kd2).2.2 2 (by decide)).mpr w2.2
  exact ans_mk hR hT (F := _) (by
    rw [sA_0 e0]
    exact st0_f2 (by omega) kk (by omega)) (by omega) rfl
theorem k_r0_first3 {z n k zr zm o0 o1 o2 o3 kd fr to nu sg w y : Int} (p1 : pPRT z n 0 k zr zm o0 o1 o2 o3 0 kd fr to nu sg w) (p2 : pIsw kd w 3 1) (p3 : 0 ≤ o3 ∧ o3 ≤ 0) (p4 : 1 ≤ y ∧ y ≤ 1) : pPR z n 5 to k zr zm o0 o1 o2 y 0 := by
  obtain ⟨p, ⟨i0, S, hR, e0, rfl, rfl, e3, hz0, hz20, hm, rfl, rfl, rfl, rfl⟩, hT0⟩ := p1
  obtain ⟨kd', f', kw, v', w', hT, g0, g1, g2, g3, g5, g6, g7, g8⟩ := TokR_p hT0
  obtain ⟨h1, h2, h3, h4⟩ := Rch_I hR
  have bb := I1_b h1
  have hz : aAg zr S 200 72 := fun j j0 j1 => hz0 j j0 j1 (fun h => absurd h (by decide))
  have w3 := iff1_t p2 rfl
  have kd2 : kd' = 2 := by omega
  have kk : kw = 3 := ((g5 kd2).2.2 3 (by decide)).mpr w3.2
  have g1' := g1 (by omega)
  clear g1
  try clear g0 g2 g3
  have st : stepA S kd' fr f' kw v' w' = .inl (adv (up S 13 1) 5 f') := by
    rw [sA_0 e0]
    exact st0_t3 (by omega) kk (by omega)
  have e_0 : (adv (up S 13 1) 5 f') 0 = 5 := by rw [adv_0]
  have e_200 : (adv (up S 13 1) 5 f') 200 = S 200 := by rw [adv_n (by omega) (by omega), up_n (by omega)]
  have e_201 : (adv (up S 13 1) 5 f') 201 = S 201 := by rw [adv_n (by omega) (by omega), up_n (by omega)]
  have e_202 : (adv (up S 13 1) 5 f') 202 = S 202 := by rw [adv_n (by omega) (by omega), up_n (by omega)]
  have hm' : ∀ j : Int, kslot (adv (up S 13 1) 5 f') j ∨ pend (adv (up S 13 1) 5 f') j → 0 ≤ j → j < 19 → dcd j.toNat zm = c27 8 ((adv (up S 13 1) 5 f') (100 + j)) := fun j jq j0 j1 => by
    unfold kslot pend at jq
    rw [e_0, e_200, e_201, e_202] at jq
    rw [adv_n (by omega) (by omega), up_n (by omega)]
    refine hm j ?_ j0 j1
    unfold kslot pend
    rw [e0]
    omega
  exact ⟨i0 + 1, _, ⟨S, kd', fr, f', kw, v', w', hR, hT, st⟩, adv_0, (by rw [adv_1]; exact g1'.symm), (by rw [adv_n (by omega) (by omega), up_n (by omega)]), (by rw [adv_n (by omega) (by omega), up_n (by omega)]; exact e3), (fun j j0 j1 _ => (aAg_a (aAg_o hz (Or.inl (by omega))) (by decide)) j j0 j1), (fun h => absurd h (by decide)), hm', (by rw [adv_n (by omega) (by omega), up_n (by omega)]), (by rw [adv_n (by omega) (by omega), up_n (by omega)]), (by rw [adv_n (by omega) (by omega), up_n (by omega)]), (by rw [adv_n (by omega) (by omega), up_s]; omega)⟩
theorem k_r0_again3 {z n k zr zm o0 o1 o2 o3 kd fr to nu sg w : Int} (p1 : pPRT z n 0 k zr zm o0 o1 o2 o3 0 kd fr to nu sg w) (p2 : pIsw kd w 3 1) (p3 : 1 ≤ o3 ∧ o3 ≤ 1) : pAns z n (-1 * fr + -1) 3 := by
  obtain ⟨p, ⟨i0, S, hR, e0, rfl, rfl, e3, hz0, hz20, hm, rfl, rfl, rfl, rfl⟩, hT0⟩ := p1
  obtain ⟨kd', f', kw, v', w', hT, g0, g1, g2, g3, g5, g6, g7, g8⟩ := TokR_p hT0
  obtain ⟨h1, h2, h3, h4⟩ := Rch_I hR
  have bb := I1_b h1
  have hz : aAg zr S 200 72 := fun j j0 j1 => hz0 j j0 j1 (fun h => absurd h (by decide))
  have w3 := iff1_t p2 rfl
  have kd2 : kd' = 2 := by omega
  have kk : kw = 3 := ((g5 kd2).2.2 3 (by decide)).mpr w3.2
  exact ans_mk hR hT (F := _) (by
    rw [sA_0 e0]
    exact st0_f3 (by omega) kk (by omega)) (by omega) rfl
theorem k_r0_n4 {z n k zr zm o0 o1 o2 o3 kd fr to nu sg w : Int} (p1 : pPRT z n 0 k zr zm o0 o1 o2 o3 0 kd fr to nu sg w) (p2 : pIsw kd w 4 1) (p3 : pCnt zr 0 5 0) : pPR z n 6 to k zr zm o0 o1 o2 o3 0 := by
  obtain ⟨p, ⟨i0, S, hR, e0, rfl, rfl, e3, hz0, hz20, hm, rfl, rfl, rfl, rfl⟩, hT0⟩ := p1
  obtain ⟨kd', f', kw, v', w', hT, g0, g1, g2, g3, g5, g6, g7, g8⟩ := TokR_p hT0
  obtain ⟨h1, h2, h3, h4⟩ := Rch_I hR
  have bb := I1_b h1
  have hz : aAg zr S 200 72 := fun j j0 j1 => hz0 j j0 j1 (fun h => absurd h (by decide))
  have w4 := iff1_t p2 rfl
  have kd2 : kd' = 2 := by omega
  have kk : kw = 4 := ((g5 kd2).2.2 4 (by decide)).mpr w4.2
  have hc := hz 0 (by decide) (by decide)
  change dcd (0 : Int).toNat zr = S 200 at hc
  have hq := iff1_f p3.1 rfl
  rw [hc] at hq
  have g1' := g1 (by omega)
  clear g1
  try clear g0 g2 g3
  have st : stepA S kd' fr f' kw v' w' = .inl (adv S 6 f') := by
    rw [sA_0 e0]
    exact st0_t4 (by omega) kk (by omega)
  have e_0 : (adv S 6 f') 0 = 6 := by rw [adv_0]
  have e_200 : (adv S 6 f') 200 = S 200 := by rw [adv_n (by omega) (by omega)]
  have e_201 : (adv S 6 f') 201 = S 201 := by rw [adv_n (by omega) (by omega)]
  have e_202 : (adv S 6 f') 202 = S 202 := by rw [adv_n (by omega) (by omega)]
  have hm' : ∀ j : Int, kslot (adv S 6 f') j ∨ pend (adv S 6 f') j → 0 ≤ j → j < 19 → dcd j.toNat zm = c27 8 ((adv S 6 f') (100 + j)) := fun j jq j0 j1 => by
    unfold kslot pend at jq
    rw [e_0, e_200, e_201, e_202] at jq
    rw [adv_n (by omega) (by omega)]
    refine hm j ?_ j0 j1
    unfold kslot pend
    rw [e0]
    omega
  exact ⟨i0 + 1, _, ⟨S, kd', fr, f', kw, v', w', hR, hT, st⟩, adv_0, (by rw [adv_1]; exact g1'.symm), (by rw [adv_n (by omega) (by omega)]), (by rw [adv_n (by omega) (by omega)]; exact e3), (fun j j0 j1 _ => (aAg_a hz (by decide)) j j0 j1), (fun h => absurd h (by decide)), hm', (by rw [adv_n (by omega) (by omega)]), (by rw [adv_n (by omega) (by omega)]), (by rw [adv_n (by omega) (by omega)]), (by rw [adv_n (by omega) (by omega)])⟩
theorem k_r0_many4 {z n k zr zm o0 o1 o2 o3 kd fr to nu sg w : Int} (p1 : pPRT z n 0 k zr zm o0 o1 o2 o3 0 kd fr to nu sg w) (p2 : pIsw kd w 4 1) (p3 : pCnt zr 0 5 1) : pAns z n (-1 * fr + -1) 4 := by
  obtain ⟨p, ⟨i0, S, hR, e0, rfl, rfl, e3, hz0, hz20, hm, rfl, rfl, rfl, rfl⟩, hT0⟩ := p1
  obtain ⟨kd', f', kw, v', w', hT, g0, g1, g2, g3, g5, g6, g7, g8⟩ := TokR_p hT0
  obtain ⟨h1, h2, h3, h4⟩ := Rch_I hR
  have bb := I1_b h1
  have hz : aAg zr S 200 72 := fun j j0 j1 => hz0 j j0 j1 (fun h => absurd h (by decide))
  have w4 := iff1_t p2 rfl
  have kd2 : kd' = 2 := by omega
  have kk : kw = 4 := ((g5 kd2).2.2 4 (by decide)).mpr w4.2
  have hc := hz 0 (by decide) (by decide)
  change dcd (0 : Int).toNat zr = S 200 at hc
  have hq := iff1_t p3.1 rfl
  rw [hc] at hq
  exact ans_mk hR hT (F := _) (by
    rw [sA_0 e0]
    exact st0_f4 (by omega) kk (by omega)) (by omega) rfl
theorem k_r0_n5 {z n k zr zm o0 o1 o2 o3 kd fr to nu sg w : Int} (p1 : pPRT z n 0 k zr zm o0 o1 o2 o3 0 kd fr to nu sg w) (p2 : pIsw kd w 5 1) (p3 : pCnt zr 1 8 0) : pPR z n 9 to k zr zm o0 o1 o2 o3 0 := by
  obtain ⟨p, ⟨i0, S, hR, e0, rfl, rfl, e3, hz0, hz20, hm, rfl, rfl, rfl, rfl⟩, hT0⟩ := p1
  obtain ⟨kd', f', kw, v', w', hT, g0, g1, g2, g3, g5, g6, g7, g8⟩ := TokR_p hT0
  obtain ⟨h1, h2, h3, h4⟩ := Rch_I hR
  have bb := I1_b h1
  have hz : aAg zr S 200 72 := fun j j0 j1 => hz0 j j0 j1 (fun h => absurd h (by decide))
  have w5 := iff1_t p2 rfl
  have kd2 : kd' = 2 := by omega
  have kk : kw = 5 := ((g5 kd2).2.2 5 (by decide)).mpr w5.2
  have hc := hz 1 (by decide) (by decide)
  change dcd (1 : Int).toNat zr = S 201 at hc
  have hq := iff1_f p3.1 rfl
  rw [hc] at hq
  have g1' := g1 (by omega)
  clear g1
  try clear g0 g2 g3
  have st : stepA S kd' fr f' kw v' w' = .inl (adv S 9 f') := by
    rw [sA_0 e0]
    exact st0_t5 (by omega) kk (by omega)
  have e_0 : (adv S 9 f') 0 = 9 := by rw [adv_0]
  have e_200 : (adv S 9 f') 200 = S 200 := by rw [adv_n (by omega) (by omega)]
  have e_201 : (adv S 9 f') 201 = S 201 := by rw [adv_n (by omega) (by omega)]
  have e_202 : (adv S 9 f') 202 = S 202 := by rw [adv_n (by omega) (by omega)]
  have hm' : ∀ j : Int, kslot (adv S 9 f') j ∨ pend (adv S 9 f') j → 0 ≤ j → j < 19 → dcd j.toNat zm = c27 8 ((adv S 9 f') (100 + j)) := fun j jq j0 j1 => by
    unfold kslot pend at jq
    rw [e_0, e_200, e_201, e_202] at jq
    rw [adv_n (by omega) (by omega)]
    refine hm j ?_ j0 j1
    unfold kslot pend
    rw [e0]
    omega
  exact ⟨i0 + 1, _, ⟨S, kd', fr, f', kw, v', w', hR, hT, st⟩, adv_0, (by rw [adv_1]; exact g1'.symm), (by rw [adv_n (by omega) (by omega)]), (by rw [adv_n (by omega) (by omega)]; exact e3), (fun j j0 j1 _ => (aAg_a hz (by decide)) j j0 j1), (fun h => absurd h (by decide)), hm', (by rw [adv_n (by omega) (by omega)]), (by rw [adv_n (by omega) (by omega)]), (by rw [adv_n (by omega) (by omega)]), (by rw [adv_n (by omega) (by omega)])⟩
end
