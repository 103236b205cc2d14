noncomputable section
/-! T3: rules (printed by wip/v5/gen/rules4.py) -/
theorem k_r9_bad2 {z n k zr zm o0 o1 o2 o3 kd fr to nu sg w : Int} (p1 : pPRT z n 9 k zr zm o0 o1 o2 o3 0 kd fr to nu sg w) (p2 : pNamr kd w 1) (p3 : pKnr zm zr w) : pAns z n (-1 * fr + -1) 3 := by
  obtain ⟨p, ⟨i0, S, hR, e0, rfl, rfl, e3, hz0, hz20, hm, rfl, rfl, rfl, rfl⟩, hT0⟩ := p1
  obtain ⟨kd', f', kw, v', w', hT, g0, g1, g2, g3, g5, g6, g7, g8⟩ := TokR_p hT0
  obtain ⟨h1, h2, h3, h4⟩ := Rch_I hR
  have bb := I1_b h1
  have hz : aAg zr S 200 72 := fun j j0 j1 => hz0 j j0 j1 (fun h => absurd h (by decide))
  have k2 := iff1_t p2 rfl
  have kd2 : kd' = 2 := by omega
  obtain ⟨ew, hw, hk⟩ := g5 kd2
  have kn : kw = -1 := by
    by_cases g : kw = -1
    · exact g
    · exact absurd ((hk kw.toNat (by omega)).mp (by omega)) (k2.2 kw.toNat (by omega))
  have c0 := hz 0 (by decide) (by decide)
  change dcd (0 : Int).toNat zr = S 200 at c0
  have c1 := hz 1 (by decide) (by decide)
  change dcd (1 : Int).toNat zr = S 201 at c1
  have c2 := hz 2 (by decide) (by decide)
  change dcd (2 : Int).toNat zr = S 202 at c2
  obtain ⟨i, i0', ii⟩ := p3
  have cc : ∃ j : Int, kslot S j ∧ S (100 + j) = w' := by
    rcases ii with ii | ii | ii
    · have fi := fnd_r (s := S) (b := 0) (cnt := S 200) hm h4 ew hw (by decide) (by omega) (fun j a b => by unfold kslot; omega) c0 ii
      obtain ⟨b0, b1⟩ := fndF_pos (f := fun j => S (100 + 0 + j)) i0' fi
      refine ⟨0 + i, by unfold kslot; omega, ?_⟩
      change S (100 + 0 + ((i.toNat : Nat) : Int)) = w' at b1
      rw [show 100 + (0 + i) = 100 + 0 + ((i.toNat : Nat) : Int) by omega]
      exact b1
    · have fi := fnd_r (s := S) (b := 5) (cnt := S 201) hm h4 ew hw (by decide) (by omega) (fun j a b => by unfold kslot; omega) c1 ii
      obtain ⟨b0, b1⟩ := fndF_pos (f := fun j => S (100 + 5 + j)) i0' fi
      refine ⟨5 + i, by unfold kslot; omega, ?_⟩
      change S (100 + 5 + ((i.toNat : Nat) : Int)) = w' at b1
      rw [show 100 + (5 + i) = 100 + 5 + ((i.toNat : Nat) : Int) by omega]
      exact b1
    · have fi := fnd_r (s := S) (b := 13) (cnt := S 202) hm h4 ew hw (by decide) (by omega) (fun j a b => by unfold kslot; omega) c2 ii
      obtain ⟨b0, b1⟩ := fndF_pos (f := fun j => S (100 + 13 + j)) i0' fi
      refine ⟨13 + i, by unfold kslot; omega, ?_⟩
      change S (100 + 13 + ((i.toNat : Nat) : Int)) = w' at b1
      rw [show 100 + (13 + i) = 100 + 13 + ((i.toNat : Nat) : Int) by omega]
      exact b1
  exact ans_mk hR hT (F := _) (by
    rw [sA_9 e0]
    exact stNew_b ⟨kd2, kn⟩ cc) (by omega) rfl
theorem k_r13_ok {z n k zr zm o0 o1 o2 o3 kd fr to nu sg w h zm2 : Int} (p1 : pPRT z n 13 k zr zm o0 o1 o2 o3 0 kd fr to nu sg w) (p2 : pNamr kd w 1) (p3 : pNkr zm zr w) (p4 : pCtr zr 2 h) (p5 : pUpd zm2 zm (h + 13) w) : pPR z n 14 to k zr zm2 o0 o1 o2 o3 0 := by
  obtain ⟨p, ⟨i0, S, hR, e0, rfl, rfl, e3, hz0, hz20, hm, rfl, rfl, rfl, rfl⟩, hT0⟩ := p1
  obtain ⟨kd', f', kw, v', w', hT, g0, g1, g2, g3, g5, g6, g7, g8⟩ := TokR_p hT0
  obtain ⟨h1, h2, h3, h4⟩ := Rch_I hR
  have bb := I1_b h1
  have hz : aAg zr S 200 72 := fun j j0 j1 => hz0 j j0 j1 (fun h => absurd h (by decide))
  have k2 := iff1_t p2 rfl
  have kd2 : kd' = 2 := by omega
  obtain ⟨ew, hw, hk⟩ := g5 kd2
  have kn : kw = -1 := by
    by_cases g : kw = -1
    · exact g
    · exact absurd ((hk kw.toNat (by omega)).mp (by omega)) (k2.2 kw.toNat (by omega))
  have c0 := hz 0 (by decide) (by decide)
  change dcd (0 : Int).toNat zr = S 200 at c0
  have c1 := hz 1 (by decide) (by decide)
  change dcd (1 : Int).toNat zr = S 201 at c1
  have c2 := hz 2 (by decide) (by decide)
  change dcd (2 : Int).toNat zr = S 202 at c2
  have eh := p4.2
  change dcd (2 : Int).toNat zr = h at eh
  rw [c2] at eh
  subst eh
  have hm2 : ∀ j : Int, kslot (adv (up S (100 + (13 + S 202)) w') 14 f') j ∨ pend (adv (up S (100 + (13 + S 202)) w') 14 f') j → 0 ≤ j → j < 19 → dcd j.toNat zm2 = c27 8 ((adv (up S (100 + (13 + S 202)) w') 14 f') (100 + j)) := fun j jq j0 j1 => by
    have x0 : (adv (up S (100 + (13 + S 202)) w') 14 f') 0 = 14 := adv_0
    have x1 : (adv (up S (100 + (13 + S 202)) w') 14 f') 200 = S 200 := by rw [adv_n (by omega) (by omega), up_n (by omega)]
    have x2 : (adv (up S (100 + (13 + S 202)) w') 14 f') 201 = S 201 := by rw [adv_n (by omega) (by omega), up_n (by omega)]
    have x3 : (adv (up S (100 + (13 + S 202)) w') 14 f') 202 = S 202 := by rw [adv_n (by omega) (by omega), up_n (by omega)]
    unfold kslot pend at jq
    rw [x0, x1, x2, x3] at jq
    obtain ⟨u1, u2, u3, u4⟩ := p5
    rw [u4]
    by_cases e : j = 13 + S 202
    · rw [e, show (13 + S 202).toNat = (S 202 + 13).toNat by omega, dcd_us u3 (by omega), adv_n (by omega) (by omega), up_s]
      exact ew
    · rw [dcd_un u3 (by omega) (by omega), adv_n (by omega) (by omega), up_n (by omega)]
      refine hm j ?_ j0 j1
      unfold kslot pend
      rw [e0]
      omega
  have g1' := g1 (by omega)
  clear g1
  try clear g0 g2 g3
  have st : stepA S kd' fr f' kw v' w' = .inl (adv (up S (100 + (13 + S 202)) w') 14 f') := by
    rw [sA_13 e0]
    refine stNew_t ⟨kd2, kn⟩ (fun ⟨j, j0, j1⟩ => ?_)
    have r := own_r h1 (Or.inl j0)
    have m := hm j (Or.inl j0) r.1 r.2
    rw [j1, ← ew] at m
    unfold kslot at j0
    rcases j0 with j0 | j0 | j0
    · have u := p3.1.2.2.2
      change -1 = fndF _ w (dcd (0 : Int).toNat zr).toNat at u
      rw [c0] at u
      refine fndF_neg (f := fun i : Nat => dcd (0 + (i : Int)).toNat zm) (w := w) (n := (S 200).toNat) (by rw [← u]; decide) (j := (j - 0).toNat) (by omega) ?_
      show dcd (0 + (((j - 0).toNat : Nat) : Int)).toNat zm = w
      rw [show 0 + (((j - 0).toNat : Nat) : Int) = j by omega]
      exact m
    · have u := p3.2.1.2.2.2
      change -1 = fndF _ w (dcd (1 : Int).toNat zr).toNat at u
      rw [c1] at u
      refine fndF_neg (f := fun i : Nat => dcd (5 + (i : Int)).toNat zm) (w := w) (n := (S 201).toNat) (by rw [← u]; decide) (j := (j - 5).toNat) (by omega) ?_
      show dcd (5 + (((j - 5).toNat : Nat) : Int)).toNat zm = w
      rw [show 5 + (((j - 5).toNat : Nat) : Int) = j by omega]
      exact m
    · have u := p3.2.2.2.2.2
      change -1 = fndF _ w (dcd (2 : Int).toNat zr).toNat at u
      rw [c2] at u
      refine fndF_neg (f := fun i : Nat => dcd (13 + (i : Int)).toNat zm) (w := w) (n := (S 202).toNat) (by rw [← u]; decide) (j := (j - 13).toNat) (by omega) ?_
      show dcd (13 + (((j - 13).toNat : Nat) : Int)).toNat zm = w
      rw [show 13 + (((j - 13).toNat : Nat) : Int) = j by omega]
      exact m
  have e_0 : (adv (up S (100 + (13 + S 202)) w') 14 f') 0 = 14 := by rw [adv_0]
  have e_200 : (adv (up S (100 + (13 + S 202)) w') 14 f') 200 = S 200 := by rw [adv_n (by omega) (by omega), up_n (by omega)]
  have e_201 : (adv (up S (100 + (13 + S 202)) w') 14 f') 201 = S 201 := by rw [adv_n (by omega) (by omega), up_n (by omega)]
  have e_202 : (adv (up S (100 + (13 + S 202)) w') 14 f') 202 = S 202 := by rw [adv_n (by omega) (by omega), up_n (by omega)]
  exact ⟨i0 + 1, _, ⟨S, kd', fr, f', kw, v', w', hR, hT, st⟩, adv_0, (by rw [adv_1]; exact g1'.symm), (by rw [adv_n (by omega) (by omega), up_n (by omega)]), (by rw [adv_n (by omega) (by omega), up_n (by omega)]; exact e3), (fun j j0 j1 _ => (aAg_a (aAg_o hz (Or.inl (by omega))) (by decide)) j j0 j1), (fun h => absurd h (by decide)), hm2, (by rw [adv_n (by omega) (by omega), up_n (by omega)]), (by rw [adv_n (by omega) (by omega), up_n (by omega)]), (by rw [adv_n (by omega) (by omega), up_n (by omega)]), (by rw [adv_n (by omega) (by omega), up_n (by omega)])⟩
theorem k_r13_bad1 {z n k zr zm o0 o1 o2 o3 kd fr to nu sg w : Int} (p1 : pPRT z n 13 k zr zm o0 o1 o2 o3 0 kd fr to nu sg w) (p2 : pNamr kd w 0) : pAns z n (-1 * fr + -1) 1 := by
  obtain ⟨p, ⟨i0, S, hR, e0, rfl, rfl, e3, hz0, hz20, hm, rfl, rfl, rfl, rfl⟩, hT0⟩ := p1
  obtain ⟨kd', f', kw, v', w', hT, g0, g1, g2, g3, g5, g6, g7, g8⟩ := TokR_p hT0
  obtain ⟨h1, h2, h3, h4⟩ := Rch_I hR
  have bb := I1_b h1
  have hz : aAg zr S 200 72 := fun j j0 j1 => hz0 j j0 j1 (fun h => absurd h (by decide))
  have kn : ¬ (kd' = 2 ∧ kw = -1) := fun ⟨q1, q2⟩ => iff1_f p2 rfl ⟨by omega, fun j hj e => by
    have := ((g5 q1).2.2 j hj).mpr e
    omega⟩
  exact ans_mk hR hT (F := _) (by
    rw [sA_13 e0]
    exact stNew_k kn) (by omega) rfl
theorem k_r13_bad2 {z n k zr zm o0 o1 o2 o3 kd fr to nu sg w : Int} (p1 : pPRT z n 13 k zr zm o0 o1 o2 o3 0 kd fr to nu sg w) (p2 : pNamr kd w 1) (p3 : pKnr zm zr w) : pAns z n (-1 * fr + -1) 3 := by
  obtain ⟨p, ⟨i0, S, hR, e0, rfl, rfl, e3, hz0, hz20, hm, rfl, rfl, rfl, rfl⟩, hT0⟩ := p1
  obtain ⟨kd', f', kw, v', w', hT, g0, g1, g2, g3, g5, g6, g7, g8⟩ := TokR_p hT0
  obtain ⟨h1, h2, h3, h4⟩ := Rch_I hR
  have bb := I1_b h1
  have hz : aAg zr S 200 72 := fun j j0 j1 => hz0 j j0 j1 (fun h => absurd h (by decide))
  have k2 := iff1_t p2 rfl
  have kd2 : kd' = 2 := by omega
  obtain ⟨ew, hw, hk⟩ := g5 kd2
  have kn : kw = -1 := by
    by_cases g : kw = -1
    · exact g
    · exact absurd ((hk kw.toNat (by omega)).mp (by omega)) (k2.2 kw.toNat (by omega))
  have c0 := hz 0 (by decide) (by decide)
  change dcd (0 : Int).toNat zr = S 200 at c0
  have c1 := hz 1 (by decide) (by decide)
  change dcd (1 : Int).toNat zr = S 201 at c1
  have c2 := hz 2 (by decide) (by decide)
  change dcd (2 : Int).toNat zr = S 202 at c2
  obtain ⟨i, i0', ii⟩ := p3
  have cc : ∃ j : Int, kslot S j ∧ S (100 + j) = w' := by
    rcases ii with ii | ii | ii
    · have fi := fnd_r (s := S) (b := 0) (cnt := S 200) hm h4 ew hw (by decide) (by omega) (fun j a b => by unfold kslot; omega) c0 ii
      obtain ⟨b0, b1⟩ := fndF_pos (f := fun j => S (100 + 0 + j)) i0' fi
      refine ⟨0 + i, by unfold kslot; omega, ?_⟩
      change S (100 + 0 + ((i.toNat : Nat) : Int)) = w' at b1
      rw [show 100 + (0 + i) = 100 + 0 + ((i.toNat : Nat) : Int) by omega]
      exact b1
    · have fi := fnd_r (s := S) (b := 5) (cnt := S 201) hm h4 ew hw (by decide) (by omega) (fun j a b => by unfold kslot; omega) c1 ii
      obtain ⟨b0, b1⟩ := fndF_pos (f := fun j => S (100 + 5 + j)) i0' fi
      refine ⟨5 + i, by unfold kslot; omega, ?_⟩
      change S (100 + 5 + ((i.toNat : Nat) : Int)) = w' at b1
      rw [show 100 + (5 + i) = 100 + 5 + ((i.toNat : Nat) : Int) by omega]
      exact b1
    · have fi := fnd_r (s := S) (b := 13) (cnt := S 202) hm h4 ew hw (by decide) (by omega) (fun j a b => by unfold kslot; omega) c2 ii
      obtain ⟨b0, b1⟩ := fndF_pos (f := fun j => S (100 + 13 + j)) i0' fi
      refine ⟨13 + i, by unfold kslot; omega, ?_⟩
      change S (100 + 13 + ((i.toNat : Nat) : Int)) = w' at b1
      rw [show 100 + (13 + i) = 100 + 13 + ((i.toNat : Nat) : Int) by omega]
      exact b1
  exact ans_mk hR hT (F := _) (by
    rw [sA_13 e0]
    exact stNew_b ⟨kd2, kn⟩ cc) (by omega) rfl
theorem k_r10_ok {z n k zr zm o0 o1 o2 o3 kd fr to nu sg w i h zr2 : Int} (p1 : pPRT z n 10 k zr zm o0 o1 o2 o3 0 kd fr to nu sg w) (p2 : pNamr kd w 1) (p3 : pFndr zm zr 0 0 w i) (p4 : -1 * i ≤ 0) (p5 : pCtr zr 1 h) (p6 : pUpd zr2 zr (h + 18) i) : pPR z n 11 to k zr2 zm o0 o1 o2 o3 0 := by
  obtain ⟨p, ⟨i0, S, hR, e0, rfl, rfl, e3, hz0, hz20, hm, rfl, rfl, rfl, rfl⟩, hT0⟩ := p1
  obtain ⟨kd', f', kw, v', w', hT, g0, g1, g2, g3, g5, g6, g7, g8⟩ := TokR_p hT0
  obtain ⟨h1, h2, h3, h4⟩ := Rch_I hR
  have bb := I1_b h1
  have hz : aAg zr S 200 72 := fun j j0 j1 => hz0 j j0 j1 (fun h => absurd h (by decide))
  have k2 := iff1_t p2 rfl
  have kd2 : kd' = 2 := by omega
  obtain ⟨ew, hw, hk⟩ := g5 kd2
  have kn : kw = -1 := by
    by_cases g : kw = -1
    · exact g
    · exact absurd ((hk kw.toNat (by omega)).mp (by omega)) (k2.2 kw.toNat (by omega))
  have c0 := hz 0 (by decide) (by decide)
  change dcd (0 : Int).toNat zr = S 200 at c0
  have c1 := hz 1 (by decide) (by decide)
  change dcd (1 : Int).toNat zr = S 201 at c1
  have c2 := hz 2 (by decide) (by decide)
  change dcd (2 : Int).toNat zr = S 202 at c2
  have fi := fnd_r (s := S) (b := 0) (cnt := S 200) hm h4 ew hw (by decide) (by omega) (fun j a b => by unfold kslot; omega) c0 p3
  have b10 := I1_r h1 (by omega)
  obtain ⟨b0, b1⟩ := fndF_pos (f := fun j => S (100 + 0 + j)) (by omega) fi
  have eh := p5.2
  change dcd (1 : Int).toNat zr = h at eh
  rw [c1] at eh
  subst eh
  have z2 := aAg_w (i' := 218 + S 201) (v' := i) hz p6 (by decide) (by omega) rfl
  have g1' := g1 (by omega)
  clear g1
  try clear g0 g2 g3
  have st : stepA S kd' fr f' kw v' w' = .inl (adv (up S (218 + S 201) i) 11 f') := by
    rw [sA_10 e0, stFnd_t ⟨kd2, kn⟩ fi (by omega)]
  have e_0 : (adv (up S (218 + S 201) i) 11 f') 0 = 11 := by rw [adv_0]
  have e_200 : (adv (up S (218 + S 201) i) 11 f') 200 = S 200 := by rw [adv_n (by omega) (by omega), up_n (by omega)]
  have e_201 : (adv (up S (218 + S 201) i) 11 f') 201 = S 201 := by rw [adv_n (by omega) (by omega), up_n (by omega)]
  have e_202 : (adv (up S (218 + S 201) i) 11 f') 202 = S 202 := by rw [adv_n (by omega) (by omega), up_n (by omega)]
  have hm' : ∀ j : Int, kslot (adv (up S (218 + S 201) i) 11 f') j ∨ pend (adv (up S (218 + S 201) i) 11 f') j → 0 ≤ j → j < 19 → dcd j.toNat zm = c27 8 ((adv (up S (218 + S 201) i) 11 f') (100 + j)) := fun j jq j0 j1 => by
    unfold kslot pend at jq
    rw [e_0, e_200, e_201, e_202] at jq
    rw [adv_n (by omega) (by omega), up_n (by omega)]
    refine hm j ?_ j0 j1
    unfold kslot pend
    rw [e0]
    omega
  exact ⟨i0 + 1, _, ⟨S, kd', fr, f', kw, v', w', hR, hT, st⟩, adv_0, (by rw [adv_1]; exact g1'.symm), (by rw [adv_n (by omega) (by omega), up_n (by omega)]), (by rw [adv_n (by omega) (by omega), up_n (by omega)]; exact e3), (fun j j0 j1 _ => (aAg_a z2 (by decide)) j j0 j1), (fun h => absurd h (by decide)), hm', (by rw [adv_n (by omega) (by omega), up_n (by omega)]), (by rw [adv_n (by omega) (by omega), up_n (by omega)]), (by rw [adv_n (by omega) (by omega), up_n (by omega)]), (by rw [adv_n (by omega) (by omega), up_n (by omega)])⟩
theorem k_r10_bad1 {z n k zr zm o0 o1 o2 o3 kd fr to nu sg w : Int} (p1 : pPRT z n 10 k zr zm o0 o1 o2 o3 0 kd fr to nu sg w) (p2 : pNamr kd w 0) : pAns z n (-1 * fr + -1) 1 := by
  obtain ⟨p, ⟨i0, S, hR, e0, rfl, rfl, e3, hz0, hz20, hm, rfl, rfl, rfl, rfl⟩, hT0⟩ := p1
  obtain ⟨kd', f', kw, v', w', hT, g0, g1, g2, g3, g5, g6, g7, g8⟩ := TokR_p hT0
  obtain ⟨h1, h2, h3, h4⟩ := Rch_I hR
  have bb := I1_b h1
  have hz : aAg zr S 200 72 := fun j j0 j1 => hz0 j j0 j1 (fun h => absurd h (by decide))
  have kn : ¬ (kd' = 2 ∧ kw = -1) := fun ⟨q1, q2⟩ => iff1_f p2 rfl ⟨by omega, fun j hj e => by
    have := ((g5 q1).2.2 j hj).mpr e
    omega⟩
  exact ans_mk hR hT (F := _) (by
    rw [sA_10 e0]
    exact stFnd_k kn) (by omega) rfl
theorem k_r10_bad2 {z n k zr zm o0 o1 o2 o3 kd fr to nu sg w : Int} (p1 : pPRT z n 10 k zr zm o0 o1 o2 o3 0 kd fr to nu sg w) (p2 : pNamr kd w 1) (p3 : pFndr zm zr 0 0 w (-1)) : pAns z n (-1 * fr + -1) 3 := by
  obtain ⟨p, ⟨i0, S, hR, e0, rfl, rfl, e3, hz0, hz20, hm, rfl, rfl, rfl, rfl⟩, hT0⟩ := p1
  obtain ⟨kd', f', kw, v', w', hT, g0, g1, g2, g3, g5, g6, g7, g8⟩ := TokR_p hT0
  obtain ⟨h1, h2, h3, h4⟩ := Rch_I hR
  have bb := I1_b h1
  have hz : aAg zr S 200 72 := fun j j0 j1 => hz0 j j0 j1 (fun h => absurd h (by decide))
  have k2 := iff1_t p2 rfl
  have kd2 : kd' = 2 := by omega
  obtain ⟨ew, hw, hk⟩ := g5 kd2
  have kn : kw = -1 := by
    by_cases g : kw = -1
    · exact g
    · exact absurd ((hk kw.toNat (by omega)).mp (by omega)) (k2.2 kw.toNat (by omega))
  have c0 := hz 0 (by decide) (by decide)
  change dcd (0 : Int).toNat zr = S 200 at c0
  have c1 := hz 1 (by decide) (by decide)
  change dcd (1 : Int).toNat zr = S 201 at c1
  have c2 := hz 2 (by decide) (by decide)
  change dcd (2 : Int).toNat zr = S 202 at c2
  have fi := fnd_r (s := S) (b := 0) (cnt := S 200) hm h4 ew hw (by decide) (by omega) (fun j a b => by unfold kslot; omega) c0 p3
  exact ans_mk hR hT (F := _) (by
    rw [sA_10 e0]
    exact stFnd_b ⟨kd2, kn⟩ (by rw [← fi]; decide)) (by omega) rfl
theorem k_r16_ok {z n k zr zm o0 o1 o2 o3 kd fr to nu sg w i : Int} (p1 : pPRT z n 16 k zr zm o0 o1 o2 o3 0 kd fr to nu sg w) (p2 : pNamr kd w 1) (p3 : pFndr zm zr 13 2 w i) (p4 : -1 * i ≤ 0) : pPR z n 17 to k zr zm o0 o1 o2 o3 i := by
  obtain ⟨p, ⟨i0, S, hR, e0, rfl, rfl, e3, hz0, hz20, hm, rfl, rfl, rfl, rfl⟩, hT0⟩ := p1
  obtain ⟨kd', f', kw, v', w', hT, g0, g1, g2, g3, g5, g6, g7, g8⟩ := TokR_p hT0
  obtain ⟨h1, h2, h3, h4⟩ := Rch_I hR
  have bb := I1_b h1
  have hz : aAg zr S 200 72 := fun j j0 j1 => hz0 j j0 j1 (fun h => absurd h (by decide))
  have k2 := iff1_t p2 rfl
  have kd2 : kd' = 2 := by omega
  obtain ⟨ew, hw, hk⟩ := g5 kd2
  have kn : kw = -1 := by
    by_cases g : kw = -1
    · exact g
    · exact absurd ((hk kw.toNat (by omega)).mp (by omega)) (k2.2 kw.toNat (by omega))
  have c0 := hz 0 (by decide) (by decide)
  change dcd (0 : Int).toNat zr = S 200 at c0
  have c1 := hz 1 (by decide) (by decide)
  change dcd (1 : Int).toNat zr = S 201 at c1
  have c2 := hz 2 (by decide) (by decide)
  change dcd (2 : Int).toNat zr = S 202 at c2
  have fi := fnd_r (s := S) (b := 13) (cnt := S 202) hm h4 ew hw (by decide) (by omega) (fun j a b => by unfold kslot; omega) c2 p3
  obtain ⟨b0, b1⟩ := fndF_pos (f := fun j => S (100 + 13 + j)) (by omega) fi
  have g1' := g1 (by omega)
  clear g1
  try clear g0 g2 g3
  have st : stepA S kd' fr f' kw v' w' = .inl (adv (up S 3 i) 17 f') := by
    rw [sA_16 e0, stFnd_t ⟨kd2, kn⟩ fi (by omega)]
  have e_0 : (adv (up S 3 i) 17 f') 0 = 17 := by rw [adv_0]
  have e_200 : (adv (up S 3 i) 17 f') 200 = S 200 := by rw [adv_n (by omega) (by omega), up_n (by omega)]
  have e_201 : (adv (up S 3 i) 17 f') 201 = S 201 := by rw [adv_n (by omega) (by omega), up_n (by omega)]
  have e_202 : (adv (up S 3 i) 17 f') 202 = S 202 := by rw [adv_n (by omega) (by omega), up_n (by omega)]
  have hm' : ∀ j : Int, kslot (adv (up S 3 i) 17 f') j ∨ pend (adv (up S 3 i) 17 f') j → 0 ≤ j → j < 19 → dcd j.toNat zm = c27 8 ((adv (up S 3 i) 17 f') (100 + j)) := fun j jq j0 j1 => by
    unfold kslot pend at jq
    rw [e_0, e_200, e_201, e_202] at jq
    rw [adv_n (by omega) (by omega), up_n (by omega)]
    refine hm j ?_ j0 j1
    unfold kslot pend
    rw [e0]
    omega
  exact ⟨i0 + 1, _, ⟨S, kd', fr, f', kw, v', w', hR, hT, st⟩, adv_0, (by rw [adv_1]; exact g1'.symm), (by rw [adv_n (by omega) (by omega), up_n (by omega)]), (by rw [adv_n (by omega) (by omega), up_s]), (fun j j0 j1 _ => (aAg_a (aAg_o hz (Or.inl (by omega))) (by decide)) j j0 j1), (fun h => absurd h (by decide)), hm', (by rw [adv_n (by omega) (by omega), up_n (by omega)]), (by rw [adv_n (by omega) (by omega), up_n (by omega)]), (by rw [adv_n (by omega) (by omega), up_n (by omega)]), (by rw [adv_n (by omega) (by omega), up_n (by omega)])⟩
theorem k_r16_bad1 {z n k zr zm o0 o1 o2 o3 kd fr to nu sg w : Int} (p1 : pPRT z n 16 k zr zm o0 o1 o2 o3 0 kd fr to nu sg w) (p2 : pNamr kd w 0) : pAns z n (-1 * fr + -1) 1 := by
  obtain ⟨p, ⟨i0, S, hR, e0, rfl, rfl, e3, hz0, hz20, hm, rfl, rfl, rfl, rfl⟩, hT0⟩ := p1
  obtain ⟨kd', f', kw, v', w', hT, g0, g1, g2, g3, g5, g6, g7, g8⟩ := TokR_p hT0
  obtain ⟨h1, h2, h3, h4⟩ := Rch_I hR
  have bb := I1_b h1
  have hz : aAg zr S 200 72 := fun j j0 j1 => hz0 j j0 j1 (fun h => absurd h (by decide))
  have kn : ¬ (kd' = 2 ∧ kw = -1) := fun ⟨q1, q2⟩ => iff1_f p2 rfl ⟨by omega, fun j hj e => by
    have := ((g5 q1).2.2 j hj).mpr e
    omega⟩
  exact ans_mk hR hT (F := _) (by
    rw [sA_16 e0]
    exact stFnd_k kn) (by omega) rfl
theorem k_r16_bad2 {z n k zr zm o0 o1 o2 o3 kd fr to nu sg w : Int} (p1 : pPRT z n 16 k zr zm o0 o1 o2 o3 0 kd fr to nu sg w) (p2 : pNamr kd w 1) (p3 : pFndr zm zr 13 2 w (-1)) : pAns z n (-1 * fr + -1) 3 := by
  obtain ⟨p, ⟨i0, S, hR, e0, rfl, rfl, e3, hz0, hz20, hm, rfl, rfl, rfl, rfl⟩, hT0⟩ := p1
  obtain ⟨kd', f', kw, v', w', hT, g0, g1, g2, g3, g5, g6, g7, g8⟩ := TokR_p hT0
  obtain ⟨h1, h2, h3, h4⟩ := Rch_I hR
  have bb := I1_b h1
  have hz : aAg zr S 200 72 := fun j j0 j1 => hz0 j j0 j1 (fun h => absurd h (by decide))
  have k2 := iff1_t p2 rfl
  have kd2 : kd' = 2 := by omega
  obtain ⟨ew, hw, hk⟩ := g5 kd2
  have kn : kw = -1 := by
    by_cases g : kw = -1
    · exact g
    · exact absurd ((hk kw.toNat (by omega)).mp (by omega)) (k2.2 kw.toNat (by omega))
  have c0 := hz 0 (by decide) (by decide)
  change dcd (0 : Int).toNat zr = S 200 at c0
  have c1 := hz 1 (by decide) (by decide)
  change dcd (1 : Int).toNat zr = S 201 at c1
  have c2 := hz 2 (by decide) (by decide)
  change dcd (2 : Int).toNat zr = S 202 at c2
  have fi := fnd_r (s := S) (b := 13) (cnt := S 202) hm h4 ew hw (by decide) (by omega) (fun j a b => by unfold kslot; omega) c2 p3
  exact ans_mk hR hT (F := _) (by
    rw [sA_16 e0]
    exact stFnd_b ⟨kd2, kn⟩ (by rw [← fi]; decide)) (by omega) rfl
theorem k_r17_ok {z n k zr zm o0 o1 o2 o3 u kd fr to nu sg w i x x2 zr2 y y2 zr3 : Int} (p1 : pPRT z n 17 k zr zm o0 o1 o2 o3 u kd fr to nu sg w) (p2 : pNamr kd w 1) (p3 : pFndr zm zr 13 2 w i) (p4 : -1 * i ≤ 0) (p5 : pBitf zr (u + 54) i 0) (p6 : pDec x zr (u + 54)) (p7 : pSetb x2 x i) (p8 : pUpd zr2 zr (u + 54) x2) (p9 : pDec y zr2 (i + 54)) (p10 : pSetb y2 y u) (p11 : pUpd zr3 zr2 (i + 54) y2) (p12 : u ≠ i) : pPR z n 30 to k zr3 zm o0 o1 o2 o3 0 := by
  obtain ⟨p, ⟨i0, S, hR, e0, rfl, rfl, e3, hz0, hz20, hm, rfl, rfl, rfl, rfl⟩, hT0⟩ := p1
  obtain ⟨kd', f', kw, v', w', hT, g0, g1, g2, g3, g5, g6, g7, g8⟩ := TokR_p hT0
  obtain ⟨h1, h2, h3, h4⟩ := Rch_I hR
  have bb := I1_b h1
  have hz : aAg zr S 200 72 := fun j j0 j1 => hz0 j j0 j1 (fun h => absurd h (by decide))
  have k2 := iff1_t p2 rfl
  have kd2 : kd' = 2 := by omega
  obtain ⟨ew, hw, hk⟩ := g5 kd2
  have kn : kw = -1 := by
    by_cases g : kw = -1
    · exact g
    · exact absurd ((hk kw.toNat (by omega)).mp (by omega)) (k2.2 kw.toNat (by omega))
  have c0 := hz 0 (by decide) (by decide)
  change dcd (0 : Int).toNat zr = S 200 at c0
  have c1 := hz 1 (by decide) (by decide)
  change dcd (1 : Int).toNat zr = S 201 at c1
  have c2 := hz 2 (by decide) (by decide)
  change dcd (2 : Int).toNat zr = S 202 at c2
  have fi := fnd_r (s := S) (b := 13) (cnt := S 202) hm h4 ew hw (by decide) (by omega) (fun j a b => by unfold kslot; omega) c2 p3
  have b3 := I1_3 h1 (Or.inl e0)
  obtain ⟨b0, b1⟩ := fndF_pos (f := fun j => S (100 + 13 + j)) (by omega) fi
  subst e3
  have a3 := hz (54 + S 3) (by omega) (by omega)
  rw [show 200 + (54 + S 3) = 254 + S 3 by omega, show 54 + S 3 = S 3 + 54 by omega] at a3
  have ai := hz (54 + i) (by omega) (by omega)
  rw [show 200 + (54 + i) = 254 + i by omega, show 54 + i = i + 54 by omega] at ai
  obtain ⟨_, _, _, _, _, bb⟩ := p5
  rw [a3] at bb
  have cc : ¬ (i = S 3 ∨ bitI (S (254 + S 3)) i = 1) := by
    intro q
    rcases q with q | q
    · exact p12 q.symm
    · omega
  have ex : x = S (254 + S 3) := by rw [← p6.2, a3]
  subst ex
  have ex2 := p7.2.2.2.2
  rw [if_neg (by omega)] at ex2
  have ey : y = S (254 + i) := by
    obtain ⟨u1, u2, u3, u4⟩ := p8
    rw [← p9.2, u4, dcd_un u3 (by omega) (by omega), ai]
  subst ey
  have ey2 := p10.2.2.2.2
  have z3 := aAg_w (i' := 254 + i) (aAg_w (i' := 254 + S 3) hz p8 (by decide) (by omega) ex2) p11 (by decide) (by omega) ey2
  have g1' := g1 (by omega)
  clear g1
  try clear g0 g2 g3
  have st : stepA S kd' fr f' kw v' w' = .inl (adv (up (up (up S (254 + S 3) (S (254 + S 3) + 2 ^ i.toNat)) (254 + i) (S (254 + i) + @ite Int (bitI (S (254 + i)) (S 3) = 1) (Int.instDecidableEq _ _) 0 (2 ^ (S 3).toNat))) 3 0) 30 f') := by
    rw [sA_17 e0, stFnd_t ⟨kd2, kn⟩ fi (by omega)]
    show cI (i = S 3 ∨ bitI (S (254 + S 3)) i = 1) (hlt fr 3) (.inl _) = _
    rw [cI_f cc]
  have e_0 : (adv (up (up (up S (254 + S 3) (S (254 + S 3) + 2 ^ i.toNat)) (254 + i) (S (254 + i) + @ite Int (bitI (S (254 + i)) (S 3) = 1) (Int.instDecidableEq _ _) 0 (2 ^ (S 3).toNat))) 3 0) 30 f') 0 = 30 := by rw [adv_0]
  have e_200 : (adv (up (up (up S (254 + S 3) (S (254 + S 3) + 2 ^ i.toNat)) (254 + i) (S (254 + i) + @ite Int (bitI (S (254 + i)) (S 3) = 1) (Int.instDecidableEq _ _) 0 (2 ^ (S 3).toNat))) 3 0) 30 f') 200 = S 200 := by rw [adv_n (by omega) (by omega), up_n (by omega), up_n (by omega), up_n (by omega)]
  have e_201 : (adv (up (up (up S (254 + S 3) (S (254 + S 3) + 2 ^ i.toNat)) (254 + i) (S (254 + i) + @ite Int (bitI (S (254 + i)) (S 3) = 1) (Int.instDecidableEq _ _) 0 (2 ^ (S 3).toNat))) 3 0) 30 f') 201 = S 201 := by rw [adv_n (by omega) (by omega), up_n (by omega), up_n (by omega), up_n (by omega)]
  have e_202 : (adv (up (up (up S (254 + S 3) (S (254 + S 3) + 2 ^ i.toNat)) (254 + i) (S (254 + i) + @ite Int (bitI (S (254 + i)) (S 3) = 1) (Int.instDecidableEq _ _) 0 (2 ^ (S 3).toNat))) 3 0) 30 f') 202 = S 202 := by rw [adv_n (by omega) (by omega), up_n (by omega), up_n (by omega), up_n (by omega)]
  have hm' : ∀ j : Int, kslot (adv (up (up (up S (254 + S 3) (S (254 + S 3) + 2 ^ i.toNat)) (254 + i) (S (254 + i) + @ite Int (bitI (S (254 + i)) (S 3) = 1) (Int.instDecidableEq _ _) 0 (2 ^ (S 3).toNat))) 3 0) 30 f') j ∨ pend (adv (up (up (up S (254 + S 3) (S (254 + S 3) + 2 ^ i.toNat)) (254 + i) (S (254 + i) + @ite Int (bitI (S (254 + i)) (S 3) = 1) (Int.instDecidableEq _ _) 0 (2 ^ (S 3).toNat))) 3 0) 30 f') j → 0 ≤ j → j < 19 → dcd j.toNat zm = c27 8 ((adv (up (up (up S (254 + S 3) (S (254 + S 3) + 2 ^ i.toNat)) (254 + i) (S (254 + i) + @ite Int (bitI (S (254 + i)) (S 3) = 1) (Int.instDecidableEq _ _) 0 (2 ^ (S 3).toNat))) 3 0) 30 f') (100 + j)) := fun j jq j0 j1 => by
    unfold kslot pend at jq
    rw [e_0, e_200, e_201, e_202] at jq
    rw [adv_n (by omega) (by omega), up_n (by omega), up_n (by omega), up_n (by omega)]
    refine hm j ?_ j0 j1
    unfold kslot pend
    rw [e0]
    omega
  exact ⟨i0 + 1, _, ⟨S, kd', fr, f', kw, v', w', hR, hT, st⟩, adv_0, (by rw [adv_1]; exact g1'.symm), (by rw [adv_n (by omega) (by omega), up_n (by omega), up_n (by omega), up_n (by omega)]), (by rw [adv_n (by omega) (by omega), up_s]), (fun j j0 j1 _ => (aAg_a (aAg_o z3 (Or.inl (by decide))) (by decide)) j j0 j1), (fun h => absurd h (by decide)), hm', (by rw [adv_n (by omega) (by omega), up_n (by omega), up_n (by omega), up_n (by omega)]), (by rw [adv_n (by omega) (by omega), up_n (by omega), up_n (by omega), up_n (by omega)]), (by rw [adv_n (by omega) (by omega), up_n (by omega), up_n (by omega), up_n (by omega)]), (by rw [adv_n (by omega) (by omega), up_n (by omega), up_n (by omega), up_n (by omega)])⟩
theorem k_r17_bad1 {z n k zr zm o0 o1 o2 o3 u kd fr to nu sg w : Int} (p1 : pPRT z n 17 k zr zm o0 o1 o2 o3 u kd fr to nu sg w) (p2 : pNamr kd w 0) : pAns z n (-1 * fr + -1) 1 := by
  obtain ⟨p, ⟨i0, S, hR, e0, rfl, rfl, e3, hz0, hz20, hm, rfl, rfl, rfl, rfl⟩, hT0⟩ := p1
  obtain ⟨kd', f', kw, v', w', hT, g0, g1, g2, g3, g5, g6, g7, g8⟩ := TokR_p hT0
  obtain ⟨h1, h2, h3, h4⟩ := Rch_I hR
  have bb := I1_b h1
  have hz : aAg zr S 200 72 := fun j j0 j1 => hz0 j j0 j1 (fun h => absurd h (by decide))
  have kn : ¬ (kd' = 2 ∧ kw = -1) := fun ⟨q1, q2⟩ => iff1_f p2 rfl ⟨by omega, fun j hj e => by
    have := ((g5 q1).2.2 j hj).mpr e
    omega⟩
  exact ans_mk hR hT (F := _) (by
    rw [sA_17 e0]
    exact stFnd_k kn) (by omega) rfl
theorem k_r17_bad2 {z n k zr zm o0 o1 o2 o3 u kd fr to nu sg w : Int} (p1 : pPRT z n 17 k zr zm o0 o1 o2 o3 u kd fr to nu sg w) (p2 : pNamr kd w 1) (p3 : pFndr zm zr 13 2 w (-1)) : pAns z n (-1 * fr + -1) 3 := by
  obtain ⟨p, ⟨i0, S, hR, e0, rfl, rfl, e3, hz0, hz20, hm, rfl, rfl, rfl, rfl⟩, hT0⟩ := p1
  obtain ⟨kd', f', kw, v', w', hT, g0, g1, g2, g3, g5, g6, g7, g8⟩ := TokR_p hT0
  obtain ⟨h1, h2, h3, h4⟩ := Rch_I hR
  have bb := I1_b h1
  have hz : aAg zr S 200 72 := fun j j0 j1 => hz0 j j0 j1 (fun h => absurd h (by decide))
  have k2 := iff1_t p2 rfl
  have kd2 : kd' = 2 := by omega
  obtain ⟨ew, hw, hk⟩ := g5 kd2
  have kn : kw = -1 := by
    by_cases g : kw = -1
    · exact g
    · exact absurd ((hk kw.toNat (by omega)).mp (by omega)) (k2.2 kw.toNat (by omega))
  have c0 := hz 0 (by decide) (by decide)
  change dcd (0 : Int).toNat zr = S 200 at c0
  have c1 := hz 1 (by decide) (by decide)
  change dcd (1 : Int).toNat zr = S 201 at c1
  have c2 := hz 2 (by decide) (by decide)
  change dcd (2 : Int).toNat zr = S 202 at c2
  have fi := fnd_r (s := S) (b := 13) (cnt := S 202) hm h4 ew hw (by decide) (by omega) (fun j a b => by unfold kslot; omega) c2 p3
  exact ans_mk hR hT (F := _) (by
    rw [sA_17 e0]
    exact stFnd_b ⟨kd2, kn⟩ (by rw [← fi]; decide)) (by omega) rfl
theorem k_r17_bad3 {z n k zr zm o0 o1 o2 o3 u kd fr to nu sg w i : Int} (p1 : pPRT z n 17 k zr zm o0 o1 o2 o3 u kd fr to nu sg w) (p2 : pNamr kd w 1) (p3 : pFndr zm zr 13 2 w i) (p4 : u + -1 * i ≤ 0) (p5 : -1 * u + i ≤ 0) (p6 : -1 * i ≤ 0) : pAns z n (-1 * fr + -1) 3 := by
  obtain ⟨p, ⟨i0, S, hR, e0, rfl, rfl, e3, hz0, hz20, hm, rfl, rfl, rfl, rfl⟩, hT0⟩ := p1
  obtain ⟨kd', f', kw, v', w', hT, g0, g1, g2, g3, g5, g6, g7, g8⟩ := TokR_p hT0
  obtain ⟨h1, h2, h3, h4⟩ := Rch_I hR
  have bb := I1_b h1
  have hz : aAg zr S 200 72 := fun j j0 j1 => hz0 j j0 j1 (fun h => absurd h (by decide))
  have k2 := iff1_t p2 rfl
  have kd2 : kd' = 2 := by omega
  obtain ⟨ew, hw, hk⟩ := g5 kd2
  have kn : kw = -1 := by
    by_cases g : kw = -1
    · exact g
    · exact absurd ((hk kw.toNat (by omega)).mp (by omega)) (k2.2 kw.toNat (by omega))
  have c0 := hz 0 (by decide) (by decide)
  change dcd (0 : Int).toNat zr = S 200 at c0
  have c1 := hz 1 (by decide) (by decide)
  change dcd (1 : Int).toNat zr = S 201 at c1
  have c2 := hz 2 (by decide) (by decide)
  change dcd (2 : Int).toNat zr = S 202 at c2
  have fi := fnd_r (s := S) (b := 13) (cnt := S 202) hm h4 ew hw (by decide) (by omega) (fun j a b => by unfold kslot; omega) c2 p3
  have b3 := I1_3 h1 (Or.inl e0)
  obtain ⟨b0, b1⟩ := fndF_pos (f := fun j => S (100 + 13 + j)) (by omega) fi
  exact ans_mk hR hT (F := _) (by
    rw [sA_17 e0, stFnd_t ⟨kd2, kn⟩ fi (by omega)]
    show cI (i = S 3 ∨ bitI (S (254 + S 3)) i = 1) (hlt fr 3) (.inl _) = _
    rw [cI_t (Or.inl (by omega))]) (by omega) rfl
end
