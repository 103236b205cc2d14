noncomputable section
/-! T3: rules (printed by wip/v5/gen/rules4.py) -/
theorem k_r17_bad4 {z n k zr zm o0 o1 o2 o3 u kd fr to nu sg w i : Int} (p1 : pPRT z n 17 k zr zm o0 o1 o2 o3 u kd fr to nu sg w) (p2 : pNamr kd w 1) (p3 : pFndr zm zr 13 2 w i) (p4 : -1 * i ≤ 0) (p5 : pBitf zr (u + 54) i 1) : pAns z n (-1 * fr + -1) 3 := by
  obtain ⟨p, ⟨i0, S, hR, e0, rfl, rfl, e3, hz0, hz20, hm, rfl, rfl, rfl, rfl⟩, hT0⟩ := p1
  obtain ⟨kd', f', kw, v', w', hT, g0, g1, g2, g3, g5, g6, g7, g8⟩ := TokR_p hT0
  obtain ⟨h1, h2, h3, h4⟩ := Rch_I hR
  have bb := I1_b h1
  have hz : aAg zr S 200 72 := fun j j0 j1 => hz0 j j0 j1 (fun h => absurd h (by decide))
  have k2 := iff1_t p2 rfl
  have kd2 : kd' = 2 := by omega
  obtain ⟨ew, hw, hk⟩ := g5 kd2
  have kn : kw = -1 := by
    by_cases g : kw = -1
    · exact g
    · exact absurd ((hk kw.toNat (by omega)).mp (by omega)) (k2.2 kw.toNat (by omega))
  have c0 := hz 0 (by decide) (by decide)
  change dcd (0 : Int).toNat zr = S 200 at c0
  have c1 := hz 1 (by decide) (by decide)
  change dcd (1 : Int).toNat zr = S 201 at c1
  have c2 := hz 2 (by decide) (by decide)
  change dcd (2 : Int).toNat zr = S 202 at c2
  have fi := fnd_r (s := S) (b := 13) (cnt := S 202) hm h4 ew hw (by decide) (by omega) (fun j a b => by unfold kslot; omega) c2 p3
  have b3 := I1_3 h1 (Or.inl e0)
  obtain ⟨b0, b1⟩ := fndF_pos (f := fun j => S (100 + 13 + j)) (by omega) fi
  subst e3
  have a3 := hz (54 + S 3) (by omega) (by omega)
  rw [show 200 + (54 + S 3) = 254 + S 3 by omega, show 54 + S 3 = S 3 + 54 by omega] at a3
  have ai := hz (54 + i) (by omega) (by omega)
  rw [show 200 + (54 + i) = 254 + i by omega, show 54 + i = i + 54 by omega] at ai
  obtain ⟨_, _, _, _, _, bb⟩ := p5
  rw [a3] at bb
  exact ans_mk hR hT (F := _) (by
    rw [sA_17 e0, stFnd_t ⟨kd2, kn⟩ fi (by omega)]
    show cI (i = S 3 ∨ bitI (S (254 + S 3)) i = 1) (hlt fr 3) (.inl _) = _
    rw [cI_t (Or.inr bb.symm)]) (by omega) rfl
theorem k_r18_ok {z n k zr zm o0 o1 o2 o3 kd fr to nu sg w i x : Int} (p1 : pPRT z n 18 k zr zm o0 o1 o2 o3 0 kd fr to nu sg w) (p2 : pNamr kd w 1) (p3 : pFndr zm zr 13 2 w i) (p4 : -1 * i ≤ 0) (p5 : pDec x zr (i + 60)) (p6 : -1 ≤ x ∧ x ≤ -1) : pPR z n 19 to k zr zm o0 o1 o2 o3 i := by
  obtain ⟨p, ⟨i0, S, hR, e0, rfl, rfl, e3, hz0, hz20, hm, rfl, rfl, rfl, rfl⟩, hT0⟩ := p1
  obtain ⟨kd', f', kw, v', w', hT, g0, g1, g2, g3, g5, g6, g7, g8⟩ := TokR_p hT0
  obtain ⟨h1, h2, h3, h4⟩ := Rch_I hR
  have bb := I1_b h1
  have hz : aAg zr S 200 72 := fun j j0 j1 => hz0 j j0 j1 (fun h => absurd h (by decide))
  have k2 := iff1_t p2 rfl
  have kd2 : kd' = 2 := by omega
  obtain ⟨ew, hw, hk⟩ := g5 kd2
  have kn : kw = -1 := by
    by_cases g : kw = -1
    · exact g
    · exact absurd ((hk kw.toNat (by omega)).mp (by omega)) (k2.2 kw.toNat (by omega))
  have c0 := hz 0 (by decide) (by decide)
  change dcd (0 : Int).toNat zr = S 200 at c0
  have c1 := hz 1 (by decide) (by decide)
  change dcd (1 : Int).toNat zr = S 201 at c1
  have c2 := hz 2 (by decide) (by decide)
  change dcd (2 : Int).toNat zr = S 202 at c2
  have fi := fnd_r (s := S) (b := 13) (cnt := S 202) hm h4 ew hw (by decide) (by omega) (fun j a b => by unfold kslot; omega) c2 p3
  obtain ⟨b0, b1⟩ := fndF_pos (f := fun j => S (100 + 13 + j)) (by omega) fi
  have ai := hz (60 + i) (by omega) (by omega)
  rw [show 200 + (60 + i) = 260 + i by omega, show 60 + i = i + 60 by omega] at ai
  have ex := p5.2
  rw [ai] at ex
  have g1' := g1 (by omega)
  clear g1
  try clear g0 g2 g3
  have st : stepA S kd' fr f' kw v' w' = .inl (adv (up S 3 i) 19 f') := by
    rw [sA_18 e0, stFnd_t ⟨kd2, kn⟩ fi (by omega)]
    show cI (S (260 + i) = -1) (.inl _) (hlt fr 3) = _
    rw [cI_t (by omega)]
  have e_0 : (adv (up S 3 i) 19 f') 0 = 19 := by rw [adv_0]
  have e_200 : (adv (up S 3 i) 19 f') 200 = S 200 := by rw [adv_n (by omega) (by omega), up_n (by omega)]
  have e_201 : (adv (up S 3 i) 19 f') 201 = S 201 := by rw [adv_n (by omega) (by omega), up_n (by omega)]
  have e_202 : (adv (up S 3 i) 19 f') 202 = S 202 := by rw [adv_n (by omega) (by omega), up_n (by omega)]
  have hm' : ∀ j : Int, kslot (adv (up S 3 i) 19 f') j ∨ pend (adv (up S 3 i) 19 f') j → 0 ≤ j → j < 19 → dcd j.toNat zm = c27 8 ((adv (up S 3 i) 19 f') (100 + j)) := fun j jq j0 j1 => by
    unfold kslot pend at jq
    rw [e_0, e_200, e_201, e_202] at jq
    rw [adv_n (by omega) (by omega), up_n (by omega)]
    refine hm j ?_ j0 j1
    unfold kslot pend
    rw [e0]
    omega
  exact ⟨i0 + 1, _, ⟨S, kd', fr, f', kw, v', w', hR, hT, st⟩, adv_0, (by rw [adv_1]; exact g1'.symm), (by rw [adv_n (by omega) (by omega), up_n (by omega)]), (by rw [adv_n (by omega) (by omega), up_s]), (fun j j0 j1 _ => (aAg_a (aAg_o hz (Or.inl (by omega))) (by decide)) j j0 j1), (fun h => absurd h (by decide)), hm', (by rw [adv_n (by omega) (by omega), up_n (by omega)]), (by rw [adv_n (by omega) (by omega), up_n (by omega)]), (by rw [adv_n (by omega) (by omega), up_n (by omega)]), (by rw [adv_n (by omega) (by omega), up_n (by omega)])⟩
theorem k_r18_bad1 {z n k zr zm o0 o1 o2 o3 kd fr to nu sg w : Int} (p1 : pPRT z n 18 k zr zm o0 o1 o2 o3 0 kd fr to nu sg w) (p2 : pNamr kd w 0) : pAns z n (-1 * fr + -1) 1 := by
  obtain ⟨p, ⟨i0, S, hR, e0, rfl, rfl, e3, hz0, hz20, hm, rfl, rfl, rfl, rfl⟩, hT0⟩ := p1
  obtain ⟨kd', f', kw, v', w', hT, g0, g1, g2, g3, g5, g6, g7, g8⟩ := TokR_p hT0
  obtain ⟨h1, h2, h3, h4⟩ := Rch_I hR
  have bb := I1_b h1
  have hz : aAg zr S 200 72 := fun j j0 j1 => hz0 j j0 j1 (fun h => absurd h (by decide))
  have kn : ¬ (kd' = 2 ∧ kw = -1) := fun ⟨q1, q2⟩ => iff1_f p2 rfl ⟨by omega, fun j hj e => by
    have := ((g5 q1).2.2 j hj).mpr e
    omega⟩
  exact ans_mk hR hT (F := _) (by
    rw [sA_18 e0]
    exact stFnd_k kn) (by omega) rfl
theorem k_r18_bad2 {z n k zr zm o0 o1 o2 o3 kd fr to nu sg w : Int} (p1 : pPRT z n 18 k zr zm o0 o1 o2 o3 0 kd fr to nu sg w) (p2 : pNamr kd w 1) (p3 : pFndr zm zr 13 2 w (-1)) : pAns z n (-1 * fr + -1) 3 := by
  obtain ⟨p, ⟨i0, S, hR, e0, rfl, rfl, e3, hz0, hz20, hm, rfl, rfl, rfl, rfl⟩, hT0⟩ := p1
  obtain ⟨kd', f', kw, v', w', hT, g0, g1, g2, g3, g5, g6, g7, g8⟩ := TokR_p hT0
  obtain ⟨h1, h2, h3, h4⟩ := Rch_I hR
  have bb := I1_b h1
  have hz : aAg zr S 200 72 := fun j j0 j1 => hz0 j j0 j1 (fun h => absurd h (by decide))
  have k2 := iff1_t p2 rfl
  have kd2 : kd' = 2 := by omega
  obtain ⟨ew, hw, hk⟩ := g5 kd2
  have kn : kw = -1 := by
    by_cases g : kw = -1
    · exact g
    · exact absurd ((hk kw.toNat (by omega)).mp (by omega)) (k2.2 kw.toNat (by omega))
  have c0 := hz 0 (by decide) (by decide)
  change dcd (0 : Int).toNat zr = S 200 at c0
  have c1 := hz 1 (by decide) (by decide)
  change dcd (1 : Int).toNat zr = S 201 at c1
  have c2 := hz 2 (by decide) (by decide)
  change dcd (2 : Int).toNat zr = S 202 at c2
  have fi := fnd_r (s := S) (b := 13) (cnt := S 202) hm h4 ew hw (by decide) (by omega) (fun j a b => by unfold kslot; omega) c2 p3
  exact ans_mk hR hT (F := _) (by
    rw [sA_18 e0]
    exact stFnd_b ⟨kd2, kn⟩ (by rw [← fi]; decide)) (by omega) rfl
theorem k_r18_bad3 {z n k zr zm o0 o1 o2 o3 kd fr to nu sg w i x : Int} (p1 : pPRT z n 18 k zr zm o0 o1 o2 o3 0 kd fr to nu sg w) (p2 : pNamr kd w 1) (p3 : pFndr zm zr 13 2 w i) (p4 : -1 * i ≤ 0) (p5 : pDec x zr (i + 60)) (p6 : 0 ≤ x ∧ x ≤ 1000) : pAns z n (-1 * fr + -1) 3 := by
  obtain ⟨p, ⟨i0, S, hR, e0, rfl, rfl, e3, hz0, hz20, hm, rfl, rfl, rfl, rfl⟩, hT0⟩ := p1
  obtain ⟨kd', f', kw, v', w', hT, g0, g1, g2, g3, g5, g6, g7, g8⟩ := TokR_p hT0
  obtain ⟨h1, h2, h3, h4⟩ := Rch_I hR
  have bb := I1_b h1
  have hz : aAg zr S 200 72 := fun j j0 j1 => hz0 j j0 j1 (fun h => absurd h (by decide))
  have k2 := iff1_t p2 rfl
  have kd2 : kd' = 2 := by omega
  obtain ⟨ew, hw, hk⟩ := g5 kd2
  have kn : kw = -1 := by
    by_cases g : kw = -1
    · exact g
    · exact absurd ((hk kw.toNat (by omega)).mp (by omega)) (k2.2 kw.toNat (by omega))
  have c0 := hz 0 (by decide) (by decide)
  change dcd (0 : Int).toNat zr = S 200 at c0
  have c1 := hz 1 (by decide) (by decide)
  change dcd (1 : Int).toNat zr = S 201 at c1
  have c2 := hz 2 (by decide) (by decide)
  change dcd (2 : Int).toNat zr = S 202 at c2
  have fi := fnd_r (s := S) (b := 13) (cnt := S 202) hm h4 ew hw (by decide) (by omega) (fun j a b => by unfold kslot; omega) c2 p3
  obtain ⟨b0, b1⟩ := fndF_pos (f := fun j => S (100 + 13 + j)) (by omega) fi
  have ai := hz (60 + i) (by omega) (by omega)
  rw [show 200 + (60 + i) = 260 + i by omega, show 60 + i = i + 60 by omega] at ai
  have ex := p5.2
  rw [ai] at ex
  exact ans_mk hR hT (F := _) (by
    rw [sA_18 e0, stFnd_t ⟨kd2, kn⟩ fi (by omega)]
    show cI (S (260 + i) = -1) (.inl _) (hlt fr 3) = _
    rw [cI_f (by omega)]) (by omega) rfl
theorem k_r19_ok {z n k zr zm o0 o1 o2 o3 u kd fr to nu sg w i m zr2 : Int} (p1 : pPRT z n 19 k zr zm o0 o1 o2 o3 u kd fr to nu sg w) (p2 : pNamr kd w 1) (p3 : pFndr zm zr 5 1 w i) (p4 : -1 * i ≤ 0) (p5 : pDec m zr 2) (p6 : pSlp zr 60 m i 0) (p7 : pUpd zr2 zr (u + 60) i) : pPR z n 20 to k zr2 zm o0 o1 o2 o3 (u + 8 * i) := by
  obtain ⟨p, ⟨i0, S, hR, e0, rfl, rfl, e3, hz0, hz20, hm, rfl, rfl, rfl, rfl⟩, hT0⟩ := p1
  obtain ⟨kd', f', kw, v', w', hT, g0, g1, g2, g3, g5, g6, g7, g8⟩ := TokR_p hT0
  obtain ⟨h1, h2, h3, h4⟩ := Rch_I hR
  have bb := I1_b h1
  have hz : aAg zr S 200 72 := fun j j0 j1 => hz0 j j0 j1 (fun h => absurd h (by decide))
  have k2 := iff1_t p2 rfl
  have kd2 : kd' = 2 := by omega
  obtain ⟨ew, hw, hk⟩ := g5 kd2
  have kn : kw = -1 := by
    by_cases g : kw = -1
    · exact g
    · exact absurd ((hk kw.toNat (by omega)).mp (by omega)) (k2.2 kw.toNat (by omega))
  have c0 := hz 0 (by decide) (by decide)
  change dcd (0 : Int).toNat zr = S 200 at c0
  have c1 := hz 1 (by decide) (by decide)
  change dcd (1 : Int).toNat zr = S 201 at c1
  have c2 := hz 2 (by decide) (by decide)
  change dcd (2 : Int).toNat zr = S 202 at c2
  have fi := fnd_r (s := S) (b := 5) (cnt := S 201) hm h4 ew hw (by decide) (by omega) (fun j a b => by unfold kslot; omega) c1 p3
  have b3 := I1_3 h1 (Or.inr e0)
  obtain ⟨b0, b1⟩ := fndF_pos (f := fun j => S (100 + 5 + j)) (by omega) fi
  subst e3
  have em := p5.2
  change dcd (2 : Int).toNat zr = m at em
  rw [c2] at em
  subst em
  have zj : ∀ j : Int, 0 ≤ j → j < S 202 → dcd (60 + j).toNat zr = S (260 + j) := fun j j0 j1 => by
    rw [hz (60 + j) (by omega) (by omega), show 200 + (60 + j) = 260 + j by omega]
  have cc : ¬ ∃ j : Int, 0 ≤ j ∧ j < S 202 ∧ S (260 + j) = i := fun ⟨j, j0, j1, j2⟩ => iff1_f p6 rfl ⟨j, j0, j1, by rw [zj j j0 j1]; exact j2⟩
  have g1' := g1 (by omega)
  clear g1
  try clear g0 g2 g3
  have st : stepA S kd' fr f' kw v' w' = .inl (adv (up S 3 (S 3 + 8 * i)) 20 f') := by
    rw [sA_19 e0, stFnd_t ⟨kd2, kn⟩ fi (by omega)]
    show cI (∃ j : Int, 0 ≤ j ∧ j < S 202 ∧ S (260 + j) = i) (hlt fr 3) (.inl _) = _
    rw [cI_f cc]
  have e_0 : (adv (up S 3 (S 3 + 8 * i)) 20 f') 0 = 20 := by rw [adv_0]
  have e_200 : (adv (up S 3 (S 3 + 8 * i)) 20 f') 200 = S 200 := by rw [adv_n (by omega) (by omega), up_n (by omega)]
  have e_201 : (adv (up S 3 (S 3 + 8 * i)) 20 f') 201 = S 201 := by rw [adv_n (by omega) (by omega), up_n (by omega)]
  have e_202 : (adv (up S 3 (S 3 + 8 * i)) 20 f') 202 = S 202 := by rw [adv_n (by omega) (by omega), up_n (by omega)]
  have hm' : ∀ j : Int, kslot (adv (up S 3 (S 3 + 8 * i)) 20 f') j ∨ pend (adv (up S 3 (S 3 + 8 * i)) 20 f') j → 0 ≤ j → j < 19 → dcd j.toNat zm = c27 8 ((adv (up S 3 (S 3 + 8 * i)) 20 f') (100 + j)) := fun j jq j0 j1 => by
    unfold kslot pend at jq
    rw [e_0, e_200, e_201, e_202] at jq
    rw [adv_n (by omega) (by omega), up_n (by omega)]
    refine hm j ?_ j0 j1
    unfold kslot pend
    rw [e0]
    omega
  exact ⟨i0 + 1, _, ⟨S, kd', fr, f', kw, v', w', hR, hT, st⟩, adv_0, (by rw [adv_1]; exact g1'.symm), (by rw [adv_n (by omega) (by omega), up_n (by omega)]), (by rw [adv_n (by omega) (by omega), up_s]), (fun j j0 j1 jx => by
    have jn := jx rfl
    obtain ⟨u1, u2, u3, u4⟩ := p7
    rw [u4, dcd_un u3 (by omega) (by omega), adv_n (by omega) (by omega), up_n (by omega)]
    exact hz j j0 j1), (fun _ => by
    obtain ⟨u1, u2, u3, u4⟩ := p7
    rw [u4, show 60 + (S 3 + 8 * i) % 8 = S 3 + 60 by omega, dcd_us u3 (by omega)]
    omega), hm', (by rw [adv_n (by omega) (by omega), up_n (by omega)]), (by rw [adv_n (by omega) (by omega), up_n (by omega)]), (by rw [adv_n (by omega) (by omega), up_n (by omega)]), (by rw [adv_n (by omega) (by omega), up_n (by omega)])⟩
theorem k_r19_bad1 {z n k zr zm o0 o1 o2 o3 u kd fr to nu sg w : Int} (p1 : pPRT z n 19 k zr zm o0 o1 o2 o3 u kd fr to nu sg w) (p2 : pNamr kd w 0) : pAns z n (-1 * fr + -1) 1 := by
  obtain ⟨p, ⟨i0, S, hR, e0, rfl, rfl, e3, hz0, hz20, hm, rfl, rfl, rfl, rfl⟩, hT0⟩ := p1
  obtain ⟨kd', f', kw, v', w', hT, g0, g1, g2, g3, g5, g6, g7, g8⟩ := TokR_p hT0
  obtain ⟨h1, h2, h3, h4⟩ := Rch_I hR
  have bb := I1_b h1
  have hz : aAg zr S 200 72 := fun j j0 j1 => hz0 j j0 j1 (fun h => absurd h (by decide))
  have kn : ¬ (kd' = 2 ∧ kw = -1) := fun ⟨q1, q2⟩ => iff1_f p2 rfl ⟨by omega, fun j hj e => by
    have := ((g5 q1).2.2 j hj).mpr e
    omega⟩
  exact ans_mk hR hT (F := _) (by
    rw [sA_19 e0]
    exact stFnd_k kn) (by omega) rfl
theorem k_r19_bad2 {z n k zr zm o0 o1 o2 o3 u kd fr to nu sg w : Int} (p1 : pPRT z n 19 k zr zm o0 o1 o2 o3 u kd fr to nu sg w) (p2 : pNamr kd w 1) (p3 : pFndr zm zr 5 1 w (-1)) : pAns z n (-1 * fr + -1) 3 := by
  obtain ⟨p, ⟨i0, S, hR, e0, rfl, rfl, e3, hz0, hz20, hm, rfl, rfl, rfl, rfl⟩, hT0⟩ := p1
  obtain ⟨kd', f', kw, v', w', hT, g0, g1, g2, g3, g5, g6, g7, g8⟩ := TokR_p hT0
  obtain ⟨h1, h2, h3, h4⟩ := Rch_I hR
  have bb := I1_b h1
  have hz : aAg zr S 200 72 := fun j j0 j1 => hz0 j j0 j1 (fun h => absurd h (by decide))
  have k2 := iff1_t p2 rfl
  have kd2 : kd' = 2 := by omega
  obtain ⟨ew, hw, hk⟩ := g5 kd2
  have kn : kw = -1 := by
    by_cases g : kw = -1
    · exact g
    · exact absurd ((hk kw.toNat (by omega)).mp (by omega)) (k2.2 kw.toNat (by omega))
  have c0 := hz 0 (by decide) (by decide)
  change dcd (0 : Int).toNat zr = S 200 at c0
  have c1 := hz 1 (by decide) (by decide)
  change dcd (1 : Int).toNat zr = S 201 at c1
  have c2 := hz 2 (by decide) (by decide)
  change dcd (2 : Int).toNat zr = S 202 at c2
  have fi := fnd_r (s := S) (b := 5) (cnt := S 201) hm h4 ew hw (by decide) (by omega) (fun j a b => by unfold kslot; omega) c1 p3
  exact ans_mk hR hT (F := _) (by
    rw [sA_19 e0]
    exact stFnd_b ⟨kd2, kn⟩ (by rw [← fi]; decide)) (by omega) rfl
theorem k_r19_bad3 {z n k zr zm o0 o1 o2 o3 u kd fr to nu sg w i m : Int} (p1 : pPRT z n 19 k zr zm o0 o1 o2 o3 u kd fr to nu sg w) (p2 : pNamr kd w 1) (p3 : pFndr zm zr 5 1 w i) (p4 : -1 * i ≤ 0) (p5 : pDec m zr 2) (p6 : pSlp zr 60 m i 1) : pAns z n (-1 * fr + -1) 3 := by
  obtain ⟨p, ⟨i0, S, hR, e0, rfl, rfl, e3, hz0, hz20, hm, rfl, rfl, rfl, rfl⟩, hT0⟩ := p1
  obtain ⟨kd', f', kw, v', w', hT, g0, g1, g2, g3, g5, g6, g7, g8⟩ := TokR_p hT0
  obtain ⟨h1, h2, h3, h4⟩ := Rch_I hR
  have bb := I1_b h1
  have hz : aAg zr S 200 72 := fun j j0 j1 => hz0 j j0 j1 (fun h => absurd h (by decide))
  have k2 := iff1_t p2 rfl
  have kd2 : kd' = 2 := by omega
  obtain ⟨ew, hw, hk⟩ := g5 kd2
  have kn : kw = -1 := by
    by_cases g : kw = -1
    · exact g
    · exact absurd ((hk kw.toNat (by omega)).mp (by omega)) (k2.2 kw.toNat (by omega))
  have c0 := hz 0 (by decide) (by decide)
  change dcd (0 : Int).toNat zr = S 200 at c0
  have c1 := hz 1 (by decide) (by decide)
  change dcd (1 : Int).toNat zr = S 201 at c1
  have c2 := hz 2 (by decide) (by decide)
  change dcd (2 : Int).toNat zr = S 202 at c2
  have fi := fnd_r (s := S) (b := 5) (cnt := S 201) hm h4 ew hw (by decide) (by omega) (fun j a b => by unfold kslot; omega) c1 p3
  have b3 := I1_3 h1 (Or.inr e0)
  obtain ⟨b0, b1⟩ := fndF_pos (f := fun j => S (100 + 5 + j)) (by omega) fi
  have em := p5.2
  change dcd (2 : Int).toNat zr = m at em
  rw [c2] at em
  subst em
  have zj : ∀ j : Int, 0 ≤ j → j < S 202 → dcd (60 + j).toNat zr = S (260 + j) := fun j j0 j1 => by
    rw [hz (60 + j) (by omega) (by omega), show 200 + (60 + j) = 260 + j by omega]
  have cc : ∃ j : Int, 0 ≤ j ∧ j < S 202 ∧ S (260 + j) = i := by
    obtain ⟨j, j0, j1, j2⟩ := iff1_t p6 rfl
    rw [zj j j0 j1] at j2
    exact ⟨j, j0, j1, j2⟩
  exact ans_mk hR hT (F := _) (by
    rw [sA_19 e0, stFnd_t ⟨kd2, kn⟩ fi (by omega)]
    show cI (∃ j : Int, 0 ≤ j ∧ j < S 202 ∧ S (260 + j) = i) (hlt fr 3) (.inl _) = _
    rw [cI_t cc]) (by omega) rfl
theorem k_r20_ok {z n k zr zm o0 o1 o2 o3 a i kd fr to nu sg w zr2 : Int} (p1 : pPRT z n 20 k zr zm o0 o1 o2 o3 (a + 8 * i) kd fr to nu sg w) (p2 : 3 ≤ kd ∧ kd ≤ 3) (p3 : 1 ≤ nu ∧ nu ≤ 30) (p4 : 0 ≤ a ∧ a ≤ 5) (p5 : -1 * i ≤ 0) (p6 : pUpd zr2 zr (a + 66) nu) : pPR z n 30 to k zr2 zm o0 o1 o2 o3 0 := by
  obtain ⟨p, ⟨i0, S, hR, e0, rfl, rfl, e3, hz0, hz20, hm, rfl, rfl, rfl, rfl⟩, hT0⟩ := p1
  obtain ⟨kd', f', kw, v', w', hT, g0, g1, g2, g3, g5, g6, g7, g8⟩ := TokR_p hT0
  obtain ⟨h1, h2, h3, h4⟩ := Rch_I hR
  have bb := I1_b h1
  have k3 : kd' = 3 := by omega
  have ev := g2 k3
  have g1' := g1 (by omega)
  clear g1
  try clear g0 g2 g3
  have st : stepA S kd' fr f' kw v' w' = .inl (adv (up (up (up S (260 + S 3 % 8) (S 3 / 8)) (266 + S 3 % 8) v') 3 0) 30 f') := by
    rw [sA_20 e0]
    exact stNum_t k3 (by omega) (by omega)
  have e_0 : (adv (up (up (up S (260 + S 3 % 8) (S 3 / 8)) (266 + S 3 % 8) v') 3 0) 30 f') 0 = 30 := by rw [adv_0]
  have e_200 : (adv (up (up (up S (260 + S 3 % 8) (S 3 / 8)) (266 + S 3 % 8) v') 3 0) 30 f') 200 = S 200 := by rw [adv_n (by omega) (by omega), up_n (by omega), up_n (by omega), up_n (by omega)]
  have e_201 : (adv (up (up (up S (260 + S 3 % 8) (S 3 / 8)) (266 + S 3 % 8) v') 3 0) 30 f') 201 = S 201 := by rw [adv_n (by omega) (by omega), up_n (by omega), up_n (by omega), up_n (by omega)]
  have e_202 : (adv (up (up (up S (260 + S 3 % 8) (S 3 / 8)) (266 + S 3 % 8) v') 3 0) 30 f') 202 = S 202 := by rw [adv_n (by omega) (by omega), up_n (by omega), up_n (by omega), up_n (by omega)]
  have hm' : ∀ j : Int, kslot (adv (up (up (up S (260 + S 3 % 8) (S 3 / 8)) (266 + S 3 % 8) v') 3 0) 30 f') j ∨ pend (adv (up (up (up S (260 + S 3 % 8) (S 3 / 8)) (266 + S 3 % 8) v') 3 0) 30 f') j → 0 ≤ j → j < 19 → dcd j.toNat zm = c27 8 ((adv (up (up (up S (260 + S 3 % 8) (S 3 / 8)) (266 + S 3 % 8) v') 3 0) 30 f') (100 + j)) := fun j jq j0 j1 => by
    unfold kslot pend at jq
    rw [e_0, e_200, e_201, e_202] at jq
    rw [adv_n (by omega) (by omega), up_n (by omega), up_n (by omega), up_n (by omega)]
    refine hm j ?_ j0 j1
    unfold kslot pend
    rw [e0]
    omega
  exact ⟨i0 + 1, _, ⟨S, kd', fr, f', kw, v', w', hR, hT, st⟩, adv_0, (by rw [adv_1]; exact g1'.symm), (by rw [adv_n (by omega) (by omega), up_n (by omega), up_n (by omega), up_n (by omega)]), (by rw [adv_n (by omega) (by omega), up_s]), (fun j j0 j1 _ => by
    obtain ⟨u1, u2, u3, u4⟩ := p6
    rw [u4]
    by_cases ea : j = a + 66
    · rw [ea, dcd_us u3 (by omega), adv_n (by omega) (by omega), up_n (by omega), show 200 + (a + 66) = 266 + S 3 % 8 by omega, up_s]
      exact ev
    · rw [dcd_un u3 (by omega) (by omega), adv_n (by omega) (by omega), up_n (by omega), up_n (by omega)]
      by_cases eb : j = 60 + a
      · have q := hz20 rfl
        rw [show 60 + (a + 8 * i) % 8 = j by omega] at q
        rw [q, show 200 + j = 260 + S 3 % 8 by omega, up_s]
        omega
      · rw [up_n (by omega)]
        exact hz0 j j0 j1 (fun _ => by omega)), (fun h => absurd h (by decide)), hm', (by rw [adv_n (by omega) (by omega), up_n (by omega), up_n (by omega), up_n (by omega)]), (by rw [adv_n (by omega) (by omega), up_n (by omega), up_n (by omega), up_n (by omega)]), (by rw [adv_n (by omega) (by omega), up_n (by omega), up_n (by omega), up_n (by omega)]), (by rw [adv_n (by omega) (by omega), up_n (by omega), up_n (by omega), up_n (by omega)])⟩
theorem k_r20_bad1 {z n k zr zm o0 o1 o2 o3 u kd fr to nu sg w : Int} (p1 : pPRT z n 20 k zr zm o0 o1 o2 o3 u kd fr to nu sg w) (p2 : kd ≠ 3) : pAns z n (-1 * fr + -1) 1 := by
  obtain ⟨p, ⟨i0, S, hR, e0, rfl, rfl, e3, hz0, hz20, hm, rfl, rfl, rfl, rfl⟩, hT0⟩ := p1
  obtain ⟨kd', f', kw, v', w', hT, g0, g1, g2, g3, g5, g6, g7, g8⟩ := TokR_p hT0
  obtain ⟨h1, h2, h3, h4⟩ := Rch_I hR
  have bb := I1_b h1
  exact ans_mk hR hT (F := _) (by
    rw [sA_20 e0]
    exact stNum_k (by omega)) (by omega) rfl
theorem k_r20_bad3 {z n k zr zm o0 o1 o2 o3 u kd fr to nu sg w : Int} (p1 : pPRT z n 20 k zr zm o0 o1 o2 o3 u kd fr to nu sg w) (p2 : 3 ≤ kd ∧ kd ≤ 3) (p3 : pWin nu 1 30 0) : pAns z n (-1 * fr + -1) 2 := by
  obtain ⟨p, ⟨i0, S, hR, e0, rfl, rfl, e3, hz0, hz20, hm, rfl, rfl, rfl, rfl⟩, hT0⟩ := p1
  obtain ⟨kd', f', kw, v', w', hT, g0, g1, g2, g3, g5, g6, g7, g8⟩ := TokR_p hT0
  obtain ⟨h1, h2, h3, h4⟩ := Rch_I hR
  have bb := I1_b h1
  exact ans_mk hR hT (F := _) (by
    rw [sA_20 e0]
    exact stNum_v (by omega) (by rw [← g2 (by omega)]; exact iff1_f p3 rfl)) (by omega) rfl
theorem k_r30_ok {z n k zr zm o0 o1 o2 o3 kd fr to nu sg w : Int} (p1 : pPRT z n 30 k zr zm o0 o1 o2 o3 0 kd fr to nu sg w) (p2 : pSgn kd sg 59 1) : pPR z n 0 to (k + 1) zr zm o0 o1 o2 o3 0 := by
  obtain ⟨p, ⟨i0, S, hR, e0, rfl, rfl, e3, hz0, hz20, hm, rfl, rfl, rfl, rfl⟩, hT0⟩ := p1
  obtain ⟨kd', f', kw, v', w', hT, g0, g1, g2, g3, g5, g6, g7, g8⟩ := TokR_p hT0
  obtain ⟨h1, h2, h3, h4⟩ := Rch_I hR
  have bb := I1_b h1
  have hz : aAg zr S 200 72 := fun j j0 j1 => hz0 j j0 j1 (fun h => absurd h (by decide))
  have k4 := iff1_t p2 rfl
  have kd4 : kd' = 4 := by omega
  have ev := g3 kd4
  have g1' := g1 (by omega)
  clear g1
  try clear g0 g2 g3
  have st : stepA S kd' fr f' kw v' w' = .inl (adv (up S 2 (S 2 + 1)) 0 f') := by
    rw [sA_30 e0, cI_t ⟨kd4, by omega⟩]
  have e_0 : (adv (up S 2 (S 2 + 1)) 0 f') 0 = 0 := by rw [adv_0]
  have e_200 : (adv (up S 2 (S 2 + 1)) 0 f') 200 = S 200 := by rw [adv_n (by omega) (by omega), up_n (by omega)]
  have e_201 : (adv (up S 2 (S 2 + 1)) 0 f') 201 = S 201 := by rw [adv_n (by omega) (by omega), up_n (by omega)]
  have e_202 : (adv (up S 2 (S 2 + 1)) 0 f') 202 = S 202 := by rw [adv_n (by omega) (by omega), up_n (by omega)]
  have hm' : ∀ j : Int, kslot (adv (up S 2 (S 2 + 1)) 0 f') j ∨ pend (adv (up S 2 (S 2 + 1)) 0 f') j → 0 ≤ j → j < 19 → dcd j.toNat zm = c27 8 ((adv (up S 2 (S 2 + 1)) 0 f') (100 + j)) := fun j jq j0 j1 => by
    unfold kslot pend at jq
    rw [e_0, e_200, e_201, e_202] at jq
    rw [adv_n (by omega) (by omega), up_n (by omega)]
    refine hm j ?_ j0 j1
    unfold kslot pend
    rw [e0]
    omega
  exact ⟨i0 + 1, _, ⟨S, kd', fr, f', kw, v', w', hR, hT, st⟩, adv_0, (by rw [adv_1]; exact g1'.symm), (by rw [adv_n (by omega) (by omega), up_s]), (by rw [adv_n (by omega) (by omega), up_n (by omega)]; exact e3), (fun j j0 j1 _ => (aAg_a (aAg_o hz (Or.inl (by omega))) (by decide)) j j0 j1), (fun h => absurd h (by decide)), hm', (by rw [adv_n (by omega) (by omega), up_n (by omega)]), (by rw [adv_n (by omega) (by omega), up_n (by omega)]), (by rw [adv_n (by omega) (by omega), up_n (by omega)]), (by rw [adv_n (by omega) (by omega), up_n (by omega)])⟩
theorem k_r30_bad {z n k zr zm o0 o1 o2 o3 kd fr to nu sg w : Int} (p1 : pPRT z n 30 k zr zm o0 o1 o2 o3 0 kd fr to nu sg w) (p2 : pSgn kd sg 59 0) : pAns z n (-1 * fr + -1) 1 := by
  obtain ⟨p, ⟨i0, S, hR, e0, rfl, rfl, e3, hz0, hz20, hm, rfl, rfl, rfl, rfl⟩, hT0⟩ := p1
  obtain ⟨kd', f', kw, v', w', hT, g0, g1, g2, g3, g5, g6, g7, g8⟩ := TokR_p hT0
  obtain ⟨h1, h2, h3, h4⟩ := Rch_I hR
  have bb := I1_b h1
  have hz : aAg zr S 200 72 := fun j j0 j1 => hz0 j j0 j1 (fun h => absurd h (by decide))
  exact ans_mk hR hT (F := _) (by
    rw [sA_30 e0, cI_f (fun q => iff1_f p2 rfl ⟨by omega, by rw [g3 q.1]; exact q.2⟩)]) (by omega) rfl
theorem k_r_ku {z n k zr zm o0 o1 o2 o3 kd fr to nu sg w : Int} (p1 : pPRT z n 0 k zr zm o0 o1 o2 o3 0 kd fr to nu sg w) (p2 : 0 ≤ n ∧ n ≤ 940) (p3 : -2147483648 ≤ k ∧ k ≤ 2147483647) : (0 ≤ k) ∧ (k ≤ 470) := by
  obtain ⟨p, ⟨i0, S, hR, e0, rfl, rfl, e3, hz0, hz20, hm, rfl, rfl, rfl, rfl⟩, hT0⟩ := p1
  obtain ⟨kd', f', kw, v', w', hT, g0, g1, g2, g3, g5, g6, g7, g8⟩ := TokR_p hT0
  obtain ⟨h1, h2, h3, h4⟩ := Rch_I hR
  have bb := I1_b h1
  have hz : aAg zr S 200 72 := fun j j0 j1 => hz0 j j0 j1 (fun h => absurd h (by decide))
  unfold I1 at h1
  clear g0 g1 g2 g3 g5 g6
  omega
end
