noncomputable section
/-! T3: rules (printed by wip/v5/gen/rules4.py) -/
theorem k_c11_bad1 {z n p k zn zf zs zt h r g ev ri ml so t kd pl f kw v w : Int} (p1 : pPC z n 11 p k zn zf zs zt h r g ev ri ml so t 0) (p2 : pTokC z n 900 p kd pl f kw v w) (p3 : kd ≠ 3) : pAns z n (-1 * pl + -1) 1 := by
  obtain ⟨i0, S, hR, e0, rfl, rfl, e3, hn, hf, hs, ht, rfl, rfl, rfl, rfl, rfl, rfl, rfl, rfl⟩ := p1
  obtain ⟨f', v', w', hT, g1, g2, g3⟩ := p2
  obtain ⟨h1, h2, h3, h4⟩ := Rch_I hR
  have bb := I1_b h1
  exact ans_mk hR hT (F := _) (by
    rw [sA_11 e0]
    exact stNum_k p3) (by omega) rfl
theorem k_c11_bad3 {z n p k zn zf zs zt h r g ev ri ml so t kd pl f kw v w : Int} (p1 : pPC z n 11 p k zn zf zs zt h r g ev ri ml so t 0) (p2 : pTokC z n 900 p kd pl f kw v w) (p3 : 3 ≤ kd ∧ kd ≤ 3) (p4 : pWin v 0 99 0) : pAns z n (-1 * pl + -1) 2 := by
  obtain ⟨i0, S, hR, e0, rfl, rfl, e3, hn, hf, hs, ht, rfl, rfl, rfl, rfl, rfl, rfl, rfl, rfl⟩ := p1
  obtain ⟨f', v', w', hT, g1, g2, g3⟩ := p2
  obtain ⟨h1, h2, h3, h4⟩ := Rch_I hR
  have bb := I1_b h1
  exact ans_mk hR hT (F := _) (by
    rw [sA_11 e0]
    exact stNum_v (by omega) (by rw [← g2 (Or.inl (by omega))]; exact iff1_f p4 rfl)) (by omega) rfl
theorem k_c12_ok {z n p k zn zf zs zt h r g ev ri ml so t kd pl f kw v w : Int} (p1 : pPC z n 12 p k zn zf zs zt h r g ev ri ml so t 0) (p2 : pTokC z n 900 p kd pl f kw v w) (p3 : 3 ≤ kd ∧ kd ≤ 3) (p4 : 1 ≤ v ∧ v ≤ 30) : pPC z n 30 f k zn zf zs zt h (r + 1) g ev ri ml so t 0 := by
  obtain ⟨i0, S, hR, e0, rfl, rfl, e3, hn, hf, hs, ht, rfl, rfl, rfl, rfl, rfl, rfl, rfl, rfl⟩ := p1
  obtain ⟨f', v', w', hT, g1, g2, g3⟩ := p2
  obtain ⟨h1, h2, h3, h4⟩ := Rch_I hR
  have bb := I1_b h1
  have k3 : kd = 3 := by omega
  have ev := g2 (Or.inl k3)
  have b10 := I1_r h1 (by omega)
  have st : stepA S kd pl f' kw v' w' = .inl (adv (up (up S (234 + S 201) v') 201 (S 201 + 1)) 30 f') := by
    rw [sA_12 e0]
    exact stNum_t k3 (by omega) (by omega)
  have e201 : (adv (up (up S (234 + S 201) v') 201 (S 201 + 1)) 30 f') 201 = S 201 + 1 := by rw [adv_n (by omega) (by omega), up_s]
  exact ⟨i0 + 1, _, ⟨S, kd, pl, f', kw, v', w', hR, hT, st⟩, adv_0, (by rw [adv_1]; exact (g1 (by omega)).symm), (by rw [adv_n (by omega) (by omega), up_n (by omega), up_n (by omega)]), (by rw [adv_n (by omega) (by omega), up_n (by omega), up_n (by omega)]; exact e3), (fun j j0 j1 => by rw [adv_n (by omega) (by omega), up_n (by omega), up_n (by omega)]; exact hn j j0 j1), (fun j j0 j1 => by rw [adv_n (by omega) (by omega), up_n (by omega), up_n (by omega)]; exact hf j j0 j1), (fun j j0 j1 => by rw [adv_n (by omega) (by omega), up_n (by omega), up_n (by omega)]; exact hs j j0 j1), (fun j j0 j1 j2 => by rw [e201] at j1; rw [adv_n (by omega) (by omega), up_n (by omega), up_n (by omega)]; exact ht j j0 (by omega) j2), (by rw [adv_n (by omega) (by omega), up_n (by omega), up_n (by omega)]), (by rw [adv_n (by omega) (by omega), up_s]), (by rw [adv_n (by omega) (by omega), up_n (by omega), up_n (by omega)]), (by rw [adv_n (by omega) (by omega), up_n (by omega), up_n (by omega)]), (by rw [adv_n (by omega) (by omega), up_n (by omega), up_n (by omega)]), (by rw [adv_n (by omega) (by omega), up_n (by omega), up_n (by omega)]), (by rw [adv_n (by omega) (by omega), up_n (by omega), up_n (by omega)]), (by rw [adv_n (by omega) (by omega), up_n (by omega), up_n (by omega), adv_n (by omega) (by omega), up_n (by omega), up_n (by omega), adv_n (by omega) (by omega), up_n (by omega), up_n (by omega), adv_n (by omega) (by omega), up_n (by omega), up_n (by omega)])⟩
theorem k_c12_bad1 {z n p k zn zf zs zt h r g ev ri ml so t kd pl f kw v w : Int} (p1 : pPC z n 12 p k zn zf zs zt h r g ev ri ml so t 0) (p2 : pTokC z n 900 p kd pl f kw v w) (p3 : kd ≠ 3) : pAns z n (-1 * pl + -1) 1 := by
  obtain ⟨i0, S, hR, e0, rfl, rfl, e3, hn, hf, hs, ht, rfl, rfl, rfl, rfl, rfl, rfl, rfl, rfl⟩ := p1
  obtain ⟨f', v', w', hT, g1, g2, g3⟩ := p2
  obtain ⟨h1, h2, h3, h4⟩ := Rch_I hR
  have bb := I1_b h1
  exact ans_mk hR hT (F := _) (by
    rw [sA_12 e0]
    exact stNum_k p3) (by omega) rfl
theorem k_c12_bad3 {z n p k zn zf zs zt h r g ev ri ml so t kd pl f kw v w : Int} (p1 : pPC z n 12 p k zn zf zs zt h r g ev ri ml so t 0) (p2 : pTokC z n 900 p kd pl f kw v w) (p3 : 3 ≤ kd ∧ kd ≤ 3) (p4 : pWin v 1 30 0) : pAns z n (-1 * pl + -1) 2 := by
  obtain ⟨i0, S, hR, e0, rfl, rfl, e3, hn, hf, hs, ht, rfl, rfl, rfl, rfl, rfl, rfl, rfl, rfl⟩ := p1
  obtain ⟨f', v', w', hT, g1, g2, g3⟩ := p2
  obtain ⟨h1, h2, h3, h4⟩ := Rch_I hR
  have bb := I1_b h1
  exact ans_mk hR hT (F := _) (by
    rw [sA_12 e0]
    exact stNum_v (by omega) (by rw [← g2 (Or.inl (by omega))]; exact iff1_f p4 rfl)) (by omega) rfl
theorem k_c14_ok {z n p k zn zf zs zt h r g ev ri ml so t kd pl f kw v w : Int} (p1 : pPC z n 14 p k zn zf zs zt h r g ev ri ml so t 0) (p2 : pTokC z n 900 p kd pl f kw v w) (p3 : 3 ≤ kd ∧ kd ≤ 3) (p4 : 0 ≤ v ∧ v ≤ 99) : pPC z n 15 f k zn zf zs zt h r g ev ri ml so t 0 := by
  obtain ⟨i0, S, hR, e0, rfl, rfl, e3, hn, hf, hs, ht, rfl, rfl, rfl, rfl, rfl, rfl, rfl, rfl⟩ := p1
  obtain ⟨f', v', w', hT, g1, g2, g3⟩ := p2
  obtain ⟨h1, h2, h3, h4⟩ := Rch_I hR
  have bb := I1_b h1
  have k3 : kd = 3 := by omega
  have ev := g2 (Or.inl k3)
  have st : stepA S kd pl f' kw v' w' = .inl (adv (up S (242 + S 202) v') 15 f') := by
    rw [sA_14 e0]
    exact stNum_t k3 (by omega) (by omega)
  have e201 : (adv (up S (242 + S 202) v') 15 f') 201 = S 201 := by rw [adv_n (by omega) (by omega), up_n (by omega)]
  exact ⟨i0 + 1, _, ⟨S, kd, pl, f', kw, v', w', hR, hT, st⟩, adv_0, (by rw [adv_1]; exact (g1 (by omega)).symm), (by rw [adv_n (by omega) (by omega), up_n (by omega)]), (by rw [adv_n (by omega) (by omega), up_n (by omega)]; exact e3), (fun j j0 j1 => by rw [adv_n (by omega) (by omega), up_n (by omega)]; exact hn j j0 j1), (fun j j0 j1 => by rw [adv_n (by omega) (by omega), up_n (by omega)]; exact hf j j0 j1), (fun j j0 j1 => by rw [adv_n (by omega) (by omega), up_n (by omega)]; exact hs j j0 j1), (fun j j0 j1 j2 => by rw [e201] at j1; rw [adv_n (by omega) (by omega), up_n (by omega)]; exact ht j j0 (by omega) j2), (by rw [adv_n (by omega) (by omega), up_n (by omega)]), (by rw [adv_n (by omega) (by omega), up_n (by omega)]), (by rw [adv_n (by omega) (by omega), up_n (by omega)]), (by rw [adv_n (by omega) (by omega), up_n (by omega)]), (by rw [adv_n (by omega) (by omega), up_n (by omega)]), (by rw [adv_n (by omega) (by omega), up_n (by omega)]), (by rw [adv_n (by omega) (by omega), up_n (by omega)]), (by rw [adv_n (by omega) (by omega), up_n (by omega), adv_n (by omega) (by omega), up_n (by omega), adv_n (by omega) (by omega), up_n (by omega), adv_n (by omega) (by omega), up_n (by omega)])⟩
theorem k_c14_bad1 {z n p k zn zf zs zt h r g ev ri ml so t kd pl f kw v w : Int} (p1 : pPC z n 14 p k zn zf zs zt h r g ev ri ml so t 0) (p2 : pTokC z n 900 p kd pl f kw v w) (p3 : kd ≠ 3) : pAns z n (-1 * pl + -1) 1 := by
  obtain ⟨i0, S, hR, e0, rfl, rfl, e3, hn, hf, hs, ht, rfl, rfl, rfl, rfl, rfl, rfl, rfl, rfl⟩ := p1
  obtain ⟨f', v', w', hT, g1, g2, g3⟩ := p2
  obtain ⟨h1, h2, h3, h4⟩ := Rch_I hR
  have bb := I1_b h1
  exact ans_mk hR hT (F := _) (by
    rw [sA_14 e0]
    exact stNum_k p3) (by omega) rfl
theorem k_c14_bad3 {z n p k zn zf zs zt h r g ev ri ml so t kd pl f kw v w : Int} (p1 : pPC z n 14 p k zn zf zs zt h r g ev ri ml so t 0) (p2 : pTokC z n 900 p kd pl f kw v w) (p3 : 3 ≤ kd ∧ kd ≤ 3) (p4 : pWin v 0 99 0) : pAns z n (-1 * pl + -1) 2 := by
  obtain ⟨i0, S, hR, e0, rfl, rfl, e3, hn, hf, hs, ht, rfl, rfl, rfl, rfl, rfl, rfl, rfl, rfl⟩ := p1
  obtain ⟨f', v', w', hT, g1, g2, g3⟩ := p2
  obtain ⟨h1, h2, h3, h4⟩ := Rch_I hR
  have bb := I1_b h1
  exact ans_mk hR hT (F := _) (by
    rw [sA_14 e0]
    exact stNum_v (by omega) (by rw [← g2 (Or.inl (by omega))]; exact iff1_f p4 rfl)) (by omega) rfl
theorem k_c15_ok {z n p k zn zf zs zt h r g ev ri ml so t kd pl f kw v w : Int} (p1 : pPC z n 15 p k zn zf zs zt h r g ev ri ml so t 0) (p2 : pTokC z n 900 p kd pl f kw v w) (p3 : 3 ≤ kd ∧ kd ≤ 3) (p4 : 0 ≤ v ∧ v ≤ 20) : pPC z n 30 f k zn zf zs zt h r (g + 1) ev ri ml so t 0 := by
  obtain ⟨i0, S, hR, e0, rfl, rfl, e3, hn, hf, hs, ht, rfl, rfl, rfl, rfl, rfl, rfl, rfl, rfl⟩ := p1
  obtain ⟨f', v', w', hT, g1, g2, g3⟩ := p2
  obtain ⟨h1, h2, h3, h4⟩ := Rch_I hR
  have bb := I1_b h1
  have k3 : kd = 3 := by omega
  have ev := g2 (Or.inl k3)
  have b15 := I1_g h1 (by omega)
  have st : stepA S kd pl f' kw v' w' = .inl (adv (up (up S (248 + S 202) v') 202 (S 202 + 1)) 30 f') := by
    rw [sA_15 e0]
    exact stNum_t k3 (by omega) (by omega)
  have e201 : (adv (up (up S (248 + S 202) v') 202 (S 202 + 1)) 30 f') 201 = S 201 := by rw [adv_n (by omega) (by omega), up_n (by omega), up_n (by omega)]
  exact ⟨i0 + 1, _, ⟨S, kd, pl, f', kw, v', w', hR, hT, st⟩, adv_0, (by rw [adv_1]; exact (g1 (by omega)).symm), (by rw [adv_n (by omega) (by omega), up_n (by omega), up_n (by omega)]), (by rw [adv_n (by omega) (by omega), up_n (by omega), up_n (by omega)]; exact e3), (fun j j0 j1 => by rw [adv_n (by omega) (by omega), up_n (by omega), up_n (by omega)]; exact hn j j0 j1), (fun j j0 j1 => by rw [adv_n (by omega) (by omega), up_n (by omega), up_n (by omega)]; exact hf j j0 j1), (fun j j0 j1 => by rw [adv_n (by omega) (by omega), up_n (by omega), up_n (by omega)]; exact hs j j0 j1), (fun j j0 j1 j2 => by rw [e201] at j1; rw [adv_n (by omega) (by omega), up_n (by omega), up_n (by omega)]; exact ht j j0 (by omega) j2), (by rw [adv_n (by omega) (by omega), up_n (by omega), up_n (by omega)]), (by rw [adv_n (by omega) (by omega), up_n (by omega), up_n (by omega)]), (by rw [adv_n (by omega) (by omega), up_s]), (by rw [adv_n (by omega) (by omega), up_n (by omega), up_n (by omega)]), (by rw [adv_n (by omega) (by omega), up_n (by omega), up_n (by omega)]), (by rw [adv_n (by omega) (by omega), up_n (by omega), up_n (by omega)]), (by rw [adv_n (by omega) (by omega), up_n (by omega), up_n (by omega)]), (by rw [adv_n (by omega) (by omega), up_n (by omega), up_n (by omega), adv_n (by omega) (by omega), up_n (by omega), up_n (by omega), adv_n (by omega) (by omega), up_n (by omega), up_n (by omega), adv_n (by omega) (by omega), up_n (by omega), up_n (by omega)])⟩
theorem k_c15_bad1 {z n p k zn zf zs zt h r g ev ri ml so t kd pl f kw v w : Int} (p1 : pPC z n 15 p k zn zf zs zt h r g ev ri ml so t 0) (p2 : pTokC z n 900 p kd pl f kw v w) (p3 : kd ≠ 3) : pAns z n (-1 * pl + -1) 1 := by
  obtain ⟨i0, S, hR, e0, rfl, rfl, e3, hn, hf, hs, ht, rfl, rfl, rfl, rfl, rfl, rfl, rfl, rfl⟩ := p1
  obtain ⟨f', v', w', hT, g1, g2, g3⟩ := p2
  obtain ⟨h1, h2, h3, h4⟩ := Rch_I hR
  have bb := I1_b h1
  exact ans_mk hR hT (F := _) (by
    rw [sA_15 e0]
    exact stNum_k p3) (by omega) rfl
theorem k_c15_bad3 {z n p k zn zf zs zt h r g ev ri ml so t kd pl f kw v w : Int} (p1 : pPC z n 15 p k zn zf zs zt h r g ev ri ml so t 0) (p2 : pTokC z n 900 p kd pl f kw v w) (p3 : 3 ≤ kd ∧ kd ≤ 3) (p4 : pWin v 0 20 0) : pAns z n (-1 * pl + -1) 2 := by
  obtain ⟨i0, S, hR, e0, rfl, rfl, e3, hn, hf, hs, ht, rfl, rfl, rfl, rfl, rfl, rfl, rfl, rfl⟩ := p1
  obtain ⟨f', v', w', hT, g1, g2, g3⟩ := p2
  obtain ⟨h1, h2, h3, h4⟩ := Rch_I hR
  have bb := I1_b h1
  exact ans_mk hR hT (F := _) (by
    rw [sA_15 e0]
    exact stNum_v (by omega) (by rw [← g2 (Or.inl (by omega))]; exact iff1_f p4 rfl)) (by omega) rfl
theorem k_c6_ok {z n p k zn zf zs zt h r g ev ri ml so t kd pl f kw v w zn2 : Int} (p1 : pPC z n 6 p k zn zf zs zt h r g ev ri ml so t 0) (p2 : pTokC z n 900 p kd pl f kw v w) (p3 : pNam kd kw 1) (p4 : pFnd zn 0 19 w (-1)) (p5 : pUpd zn2 zn h w) : pPC z n 7 f k zn2 zf zs zt h r g ev ri ml so t 0 := by
  obtain ⟨i0, S, hR, e0, rfl, rfl, e3, hn, hf, hs, ht, rfl, rfl, rfl, rfl, rfl, rfl, rfl, rfl⟩ := p1
  obtain ⟨f', v', w', hT, g1, g2, g3⟩ := p2
  obtain ⟨h1, h2, h3, h4⟩ := Rch_I hR
  have bb := I1_b h1
  have k2 := iff1_t p3 rfl
  have ew := g3 k2.1
  have hw := (Tok_8 hT k2.1)
  have st : stepA S kd pl f' kw v' w' = .inl (adv (up S (100 + S 200) w') 7 f') := by
    rw [sA_6 e0]
    refine stNew_t k2 (fun ⟨j, j0, j1⟩ => ?_)
    have r := own_r h1 (Or.inl j0)
    have q := fndF_neg (f := fun j : Nat => dcd (0 + (j : Int)).toNat zn) (w := w) (n := (19 : Int).toNat) (by rw [← p4.2.2]; decide) (j := j.toNat) (by show j.toNat < 19; omega)
    refine q ?_
    show dcd (0 + ((j.toNat : Nat) : Int)).toNat zn = w
    rw [show 0 + ((j.toNat : Nat) : Int) = j by omega, hn j r.1 r.2, j1, ew]
  have e201 : (adv (up S (100 + S 200) w') 7 f') 201 = S 201 := by rw [adv_n (by omega) (by omega), up_n (by omega)]
  exact ⟨i0 + 1, _, ⟨S, kd, pl, f', kw, v', w', hR, hT, st⟩, adv_0, (by rw [adv_1]; exact (g1 (by omega)).symm), (by rw [adv_n (by omega) (by omega), up_n (by omega)]), (by rw [adv_n (by omega) (by omega), up_n (by omega)]; exact e3), (aAg_a (aAg_w (s := S) hn p5 (by decide) (by omega) ew) (by decide)), (fun j j0 j1 => by rw [adv_n (by omega) (by omega), up_n (by omega)]; exact hf j j0 j1), (fun j j0 j1 => by rw [adv_n (by omega) (by omega), up_n (by omega)]; exact hs j j0 j1), (fun j j0 j1 j2 => by rw [e201] at j1; rw [adv_n (by omega) (by omega), up_n (by omega)]; exact ht j j0 (by omega) j2), (by rw [adv_n (by omega) (by omega), up_n (by omega)]), (by rw [adv_n (by omega) (by omega), up_n (by omega)]), (by rw [adv_n (by omega) (by omega), up_n (by omega)]), (by rw [adv_n (by omega) (by omega), up_n (by omega)]), (by rw [adv_n (by omega) (by omega), up_n (by omega)]), (by rw [adv_n (by omega) (by omega), up_n (by omega)]), (by rw [adv_n (by omega) (by omega), up_n (by omega)]), (by rw [adv_n (by omega) (by omega), up_n (by omega), adv_n (by omega) (by omega), up_n (by omega), adv_n (by omega) (by omega), up_n (by omega), adv_n (by omega) (by omega), up_n (by omega)])⟩
theorem k_c6_bad1 {z n p k zn zf zs zt h r g ev ri ml so t kd pl f kw v w : Int} (p1 : pPC z n 6 p k zn zf zs zt h r g ev ri ml so t 0) (p2 : pTokC z n 900 p kd pl f kw v w) (p3 : pNam kd kw 0) : pAns z n (-1 * pl + -1) 1 := by
  obtain ⟨i0, S, hR, e0, rfl, rfl, e3, hn, hf, hs, ht, rfl, rfl, rfl, rfl, rfl, rfl, rfl, rfl⟩ := p1
  obtain ⟨f', v', w', hT, g1, g2, g3⟩ := p2
  obtain ⟨h1, h2, h3, h4⟩ := Rch_I hR
  have bb := I1_b h1
  exact ans_mk hR hT (F := _) (by
    rw [sA_6 e0]
    exact stNew_k (iff1_f p3 rfl)) (by omega) rfl
theorem k_c6_bad2 {z n p k zn zf zs zt h r g ev ri ml so t kd pl f kw v w : Int} (p1 : pPC z n 6 p k zn zf zs zt h r g ev ri ml so t 0) (p2 : pTokC z n 900 p kd pl f kw v w) (p3 : pNam kd kw 1) (p4 : pKnw zn w) : pAns z n (-1 * pl + -1) 3 := by
  obtain ⟨i0, S, hR, e0, rfl, rfl, e3, hn, hf, hs, ht, rfl, rfl, rfl, rfl, rfl, rfl, rfl, rfl⟩ := p1
  obtain ⟨f', v', w', hT, g1, g2, g3⟩ := p2
  obtain ⟨h1, h2, h3, h4⟩ := Rch_I hR
  have bb := I1_b h1
  exact ans_mk hR hT (F := _) (by
    rw [sA_6 e0]
    have k2 := iff1_t p3 rfl
    have ew := g3 k2.1
    have hw := vW_pos (Tok_8 hT k2.1)
    obtain ⟨i, i0', i1, i2⟩ := p4
    refine stNew_b k2 ⟨i, ?_, ?_⟩
    · by_cases o : own S i
      · rcases o with o | o
        · exact o
        · unfold pend at o
          omega
      · have z := h4.1 i i0' (by omega) o
        rw [hn i i0' (by omega), z] at i2
        omega
    · rw [← hn i i0' (by omega), i2]
      exact ew) (by omega) rfl
theorem k_c9_ok {z n p k zn zf zs zt h r g ev ri ml so t kd pl f kw v w zn2 : Int} (p1 : pPC z n 9 p k zn zf zs zt h r g ev ri ml so t 0) (p2 : pTokC z n 900 p kd pl f kw v w) (p3 : pNam kd kw 1) (p4 : pFnd zn 0 19 w (-1)) (p5 : pUpd zn2 zn (r + 5) w) : pPC z n 10 f k zn2 zf zs zt h r g ev ri ml so t 0 := by
  obtain ⟨i0, S, hR, e0, rfl, rfl, e3, hn, hf, hs, ht, rfl, rfl, rfl, rfl, rfl, rfl, rfl, rfl⟩ := p1
  obtain ⟨f', v', w', hT, g1, g2, g3⟩ := p2
  obtain ⟨h1, h2, h3, h4⟩ := Rch_I hR
  have bb := I1_b h1
  have k2 := iff1_t p3 rfl
  have ew := g3 k2.1
  have hw := (Tok_8 hT k2.1)
  have st : stepA S kd pl f' kw v' w' = .inl (adv (up S (100 + (5 + S 201)) w') 10 f') := by
    rw [sA_9 e0]
    refine stNew_t k2 (fun ⟨j, j0, j1⟩ => ?_)
    have r := own_r h1 (Or.inl j0)
    have q := fndF_neg (f := fun j : Nat => dcd (0 + (j : Int)).toNat zn) (w := w) (n := (19 : Int).toNat) (by rw [← p4.2.2]; decide) (j := j.toNat) (by show j.toNat < 19; omega)
    refine q ?_
    show dcd (0 + ((j.toNat : Nat) : Int)).toNat zn = w
    rw [show 0 + ((j.toNat : Nat) : Int) = j by omega, hn j r.1 r.2, j1, ew]
  have e201 : (adv (up S (100 + (5 + S 201)) w') 10 f') 201 = S 201 := by rw [adv_n (by omega) (by omega), up_n (by omega)]
  exact ⟨i0 + 1, _, ⟨S, kd, pl, f', kw, v', w', hR, hT, st⟩, adv_0, (by rw [adv_1]; exact (g1 (by omega)).symm), (by rw [adv_n (by omega) (by omega), up_n (by omega)]), (by rw [adv_n (by omega) (by omega), up_n (by omega)]; exact e3), (aAg_a (aAg_w (s := S) hn p5 (by decide) (by omega) ew) (by decide)), (fun j j0 j1 => by rw [adv_n (by omega) (by omega), up_n (by omega)]; exact hf j j0 j1), (fun j j0 j1 => by rw [adv_n (by omega) (by omega), up_n (by omega)]; exact hs j j0 j1), (fun j j0 j1 j2 => by rw [e201] at j1; rw [adv_n (by omega) (by omega), up_n (by omega)]; exact ht j j0 (by omega) j2), (by rw [adv_n (by omega) (by omega), up_n (by omega)]), (by rw [adv_n (by omega) (by omega), up_n (by omega)]), (by rw [adv_n (by omega) (by omega), up_n (by omega)]), (by rw [adv_n (by omega) (by omega), up_n (by omega)]), (by rw [adv_n (by omega) (by omega), up_n (by omega)]), (by rw [adv_n (by omega) (by omega), up_n (by omega)]), (by rw [adv_n (by omega) (by omega), up_n (by omega)]), (by rw [adv_n (by omega) (by omega), up_n (by omega), adv_n (by omega) (by omega), up_n (by omega), adv_n (by omega) (by omega), up_n (by omega), adv_n (by omega) (by omega), up_n (by omega)])⟩
theorem k_c9_bad1 {z n p k zn zf zs zt h r g ev ri ml so t kd pl f kw v w : Int} (p1 : pPC z n 9 p k zn zf zs zt h r g ev ri ml so t 0) (p2 : pTokC z n 900 p kd pl f kw v w) (p3 : pNam kd kw 0) : pAns z n (-1 * pl + -1) 1 := by
  obtain ⟨i0, S, hR, e0, rfl, rfl, e3, hn, hf, hs, ht, rfl, rfl, rfl, rfl, rfl, rfl, rfl, rfl⟩ := p1
  obtain ⟨f', v', w', hT, g1, g2, g3⟩ := p2
  obtain ⟨h1, h2, h3, h4⟩ := Rch_I hR
  have bb := I1_b h1
  exact ans_mk hR hT (F := _) (by
    rw [sA_9 e0]
    exact stNew_k (iff1_f p3 rfl)) (by omega) rfl
theorem k_c9_bad2 {z n p k zn zf zs zt h r g ev ri ml so t kd pl f kw v w : Int} (p1 : pPC z n 9 p k zn zf zs zt h r g ev ri ml so t 0) (p2 : pTokC z n 900 p kd pl f kw v w) (p3 : pNam kd kw 1) (p4 : pKnw zn w) : pAns z n (-1 * pl + -1) 3 := by
  obtain ⟨i0, S, hR, e0, rfl, rfl, e3, hn, hf, hs, ht, rfl, rfl, rfl, rfl, rfl, rfl, rfl, rfl⟩ := p1
  obtain ⟨f', v', w', hT, g1, g2, g3⟩ := p2
  obtain ⟨h1, h2, h3, h4⟩ := Rch_I hR
  have bb := I1_b h1
  exact ans_mk hR hT (F := _) (by
    rw [sA_9 e0]
    have k2 := iff1_t p3 rfl
    have ew := g3 k2.1
    have hw := vW_pos (Tok_8 hT k2.1)
    obtain ⟨i, i0', i1, i2⟩ := p4
    refine stNew_b k2 ⟨i, ?_, ?_⟩
    · by_cases o : own S i
      · rcases o with o | o
        · exact o
        · unfold pend at o
          omega
      · have z := h4.1 i i0' (by omega) o
        rw [hn i i0' (by omega), z] at i2
        omega
    · rw [← hn i i0' (by omega), i2]
      exact ew) (by omega) rfl
theorem k_c13_ok {z n p k zn zf zs zt h r g ev ri ml so t kd pl f kw v w zn2 : Int} (p1 : pPC z n 13 p k zn zf zs zt h r g ev ri ml so t 0) (p2 : pTokC z n 900 p kd pl f kw v w) (p3 : pNam kd kw 1) (p4 : pFnd zn 0 19 w (-1)) (p5 : pUpd zn2 zn (g + 13) w) : pPC z n 14 f k zn2 zf zs zt h r g ev ri ml so t 0 := by
  obtain ⟨i0, S, hR, e0, rfl, rfl, e3, hn, hf, hs, ht, rfl, rfl, rfl, rfl, rfl, rfl, rfl, rfl⟩ := p1
  obtain ⟨f', v', w', hT, g1, g2, g3⟩ := p2
  obtain ⟨h1, h2, h3, h4⟩ := Rch_I hR
  have bb := I1_b h1
  have k2 := iff1_t p3 rfl
  have ew := g3 k2.1
  have hw := (Tok_8 hT k2.1)
  have st : stepA S kd pl f' kw v' w' = .inl (adv (up S (100 + (13 + S 202)) w') 14 f') := by
    rw [sA_13 e0]
    refine stNew_t k2 (fun ⟨j, j0, j1⟩ => ?_)
    have r := own_r h1 (Or.inl j0)
    have q := fndF_neg (f := fun j : Nat => dcd (0 + (j : Int)).toNat zn) (w := w) (n := (19 : Int).toNat) (by rw [← p4.2.2]; decide) (j := j.toNat) (by show j.toNat < 19; omega)
    refine q ?_
    show dcd (0 + ((j.toNat : Nat) : Int)).toNat zn = w
    rw [show 0 + ((j.toNat : Nat) : Int) = j by omega, hn j r.1 r.2, j1, ew]
  have e201 : (adv (up S (100 + (13 + S 202)) w') 14 f') 201 = S 201 := by rw [adv_n (by omega) (by omega), up_n (by omega)]
  exact ⟨i0 + 1, _, ⟨S, kd, pl, f', kw, v', w', hR, hT, st⟩, adv_0, (by rw [adv_1]; exact (g1 (by omega)).symm), (by rw [adv_n (by omega) (by omega), up_n (by omega)]), (by rw [adv_n (by omega) (by omega), up_n (by omega)]; exact e3), (aAg_a (aAg_w (s := S) hn p5 (by decide) (by omega) ew) (by decide)), (fun j j0 j1 => by rw [adv_n (by omega) (by omega), up_n (by omega)]; exact hf j j0 j1), (fun j j0 j1 => by rw [adv_n (by omega) (by omega), up_n (by omega)]; exact hs j j0 j1), (fun j j0 j1 j2 => by rw [e201] at j1; rw [adv_n (by omega) (by omega), up_n (by omega)]; exact ht j j0 (by omega) j2), (by rw [adv_n (by omega) (by omega), up_n (by omega)]), (by rw [adv_n (by omega) (by omega), up_n (by omega)]), (by rw [adv_n (by omega) (by omega), up_n (by omega)]), (by rw [adv_n (by omega) (by omega), up_n (by omega)]), (by rw [adv_n (by omega) (by omega), up_n (by omega)]), (by rw [adv_n (by omega) (by omega), up_n (by omega)]), (by rw [adv_n (by omega) (by omega), up_n (by omega)]), (by rw [adv_n (by omega) (by omega), up_n (by omega), adv_n (by omega) (by omega), up_n (by omega), adv_n (by omega) (by omega), up_n (by omega), adv_n (by omega) (by omega), up_n (by omega)])⟩
theorem k_c13_bad1 {z n p k zn zf zs zt h r g ev ri ml so t kd pl f kw v w : Int} (p1 : pPC z n 13 p k zn zf zs zt h r g ev ri ml so t 0) (p2 : pTokC z n 900 p kd pl f kw v w) (p3 : pNam kd kw 0) : pAns z n (-1 * pl + -1) 1 := by
  obtain ⟨i0, S, hR, e0, rfl, rfl, e3, hn, hf, hs, ht, rfl, rfl, rfl, rfl, rfl, rfl, rfl, rfl⟩ := p1
  obtain ⟨f', v', w', hT, g1, g2, g3⟩ := p2
  obtain ⟨h1, h2, h3, h4⟩ := Rch_I hR
  have bb := I1_b h1
  exact ans_mk hR hT (F := _) (by
    rw [sA_13 e0]
    exact stNew_k (iff1_f p3 rfl)) (by omega) rfl
theorem k_c13_bad2 {z n p k zn zf zs zt h r g ev ri ml so t kd pl f kw v w : Int} (p1 : pPC z n 13 p k zn zf zs zt h r g ev ri ml so t 0) (p2 : pTokC z n 900 p kd pl f kw v w) (p3 : pNam kd kw 1) (p4 : pKnw zn w) : pAns z n (-1 * pl + -1) 3 := by
  obtain ⟨i0, S, hR, e0, rfl, rfl, e3, hn, hf, hs, ht, rfl, rfl, rfl, rfl, rfl, rfl, rfl, rfl⟩ := p1
  obtain ⟨f', v', w', hT, g1, g2, g3⟩ := p2
  obtain ⟨h1, h2, h3, h4⟩ := Rch_I hR
  have bb := I1_b h1
  exact ans_mk hR hT (F := _) (by
    rw [sA_13 e0]
    have k2 := iff1_t p3 rfl
    have ew := g3 k2.1
    have hw := vW_pos (Tok_8 hT k2.1)
    obtain ⟨i, i0', i1, i2⟩ := p4
    refine stNew_b k2 ⟨i, ?_, ?_⟩
    · by_cases o : own S i
      · rcases o with o | o
        · exact o
        · unfold pend at o
          omega
      · have z := h4.1 i i0' (by omega) o
        rw [hn i i0' (by omega), z] at i2
        omega
    · rw [← hn i i0' (by omega), i2]
      exact ew) (by omega) rfl
theorem k_c10_ok {z n p k zn zf zs zt h r g ev ri ml so t kd pl f kw v w i : Int} (p1 : pPC z n 10 p k zn zf zs zt h r g ev ri ml so t 0) (p2 : pTokC z n 900 p kd pl f kw v w) (p3 : pNam kd kw 1) (p4 : pFnd zn 0 h w i) (p5 : -1 * i ≤ 0) : pPC z n 11 f k zn zf zs zt h r g ev ri ml so t 0 := by
  obtain ⟨i0, S, hR, e0, rfl, rfl, e3, hn, hf, hs, ht, rfl, rfl, rfl, rfl, rfl, rfl, rfl, rfl⟩ := p1
  obtain ⟨f', v', w', hT, g1, g2, g3⟩ := p2
  obtain ⟨h1, h2, h3, h4⟩ := Rch_I hR
  have bb := I1_b h1
  have k2 := iff1_t p3 rfl
  have ew := g3 k2.1
  have fi := fnd_c (s := S) hn (by decide) (by omega) p4
  rw [ew] at fi
  have b10 := I1_r h1 (by omega)
  obtain ⟨b0, b1⟩ := fndF_pos (f := fun j => S (100 + 0 + j)) (by omega) fi
  have st : stepA S kd pl f' kw v' w' = .inl (adv (up S (218 + S 201) i) 11 f') := by
    rw [sA_10 e0, stFnd_t k2 fi (by omega)]
  have e201 : (adv (up S (218 + S 201) i) 11 f') 201 = S 201 := by rw [adv_n (by omega) (by omega), up_n (by omega)]
  exact ⟨i0 + 1, _, ⟨S, kd, pl, f', kw, v', w', hR, hT, st⟩, adv_0, (by rw [adv_1]; exact (g1 (by omega)).symm), (by rw [adv_n (by omega) (by omega), up_n (by omega)]), (by rw [adv_n (by omega) (by omega), up_n (by omega)]; exact e3), (fun j j0 j1 => by rw [adv_n (by omega) (by omega), up_n (by omega)]; exact hn j j0 j1), (fun j j0 j1 => by rw [adv_n (by omega) (by omega), up_n (by omega)]; exact hf j j0 j1), (fun j j0 j1 => by rw [adv_n (by omega) (by omega), up_n (by omega)]; exact hs j j0 j1), (fun j j0 j1 j2 => by rw [e201] at j1; rw [adv_n (by omega) (by omega), up_n (by omega)]; exact ht j j0 (by omega) j2), (by rw [adv_n (by omega) (by omega), up_n (by omega)]), (by rw [adv_n (by omega) (by omega), up_n (by omega)]), (by rw [adv_n (by omega) (by omega), up_n (by omega)]), (by rw [adv_n (by omega) (by omega), up_n (by omega)]), (by rw [adv_n (by omega) (by omega), up_n (by omega)]), (by rw [adv_n (by omega) (by omega), up_n (by omega)]), (by rw [adv_n (by omega) (by omega), up_n (by omega)]), (by rw [adv_n (by omega) (by omega), up_n (by omega), adv_n (by omega) (by omega), up_n (by omega), adv_n (by omega) (by omega), up_n (by omega), adv_n (by omega) (by omega), up_n (by omega)])⟩
theorem k_c10_bad1 {z n p k zn zf zs zt h r g ev ri ml so t kd pl f kw v w : Int} (p1 : pPC z n 10 p k zn zf zs zt h r g ev ri ml so t 0) (p2 : pTokC z n 900 p kd pl f kw v w) (p3 : pNam kd kw 0) : pAns z n (-1 * pl + -1) 1 := by
  obtain ⟨i0, S, hR, e0, rfl, rfl, e3, hn, hf, hs, ht, rfl, rfl, rfl, rfl, rfl, rfl, rfl, rfl⟩ := p1
  obtain ⟨f', v', w', hT, g1, g2, g3⟩ := p2
  obtain ⟨h1, h2, h3, h4⟩ := Rch_I hR
  have bb := I1_b h1
  exact ans_mk hR hT (F := _) (by
    rw [sA_10 e0]
    exact stFnd_k (iff1_f p3 rfl)) (by omega) rfl
theorem k_c10_bad2 {z n p k zn zf zs zt h r g ev ri ml so t kd pl f kw v w : Int} (p1 : pPC z n 10 p k zn zf zs zt h r g ev ri ml so t 0) (p2 : pTokC z n 900 p kd pl f kw v w) (p3 : pNam kd kw 1) (p4 : pFnd zn 0 h w (-1)) : pAns z n (-1 * pl + -1) 3 := by
  obtain ⟨i0, S, hR, e0, rfl, rfl, e3, hn, hf, hs, ht, rfl, rfl, rfl, rfl, rfl, rfl, rfl, rfl⟩ := p1
  obtain ⟨f', v', w', hT, g1, g2, g3⟩ := p2
  obtain ⟨h1, h2, h3, h4⟩ := Rch_I hR
  have bb := I1_b h1
  have k2 := iff1_t p3 rfl
  have ew := g3 k2.1
  have fi := fnd_c (s := S) hn (by decide) (by omega) p4
  rw [ew] at fi
  exact ans_mk hR hT (F := _) (by
    rw [sA_10 e0]
    exact stFnd_b k2 (by rw [← fi]; decide)) (by omega) rfl
theorem k_c16_ok {z n p k zn zf zs zt h r g ev ri ml so t kd pl f kw v w i : Int} (p1 : pPC z n 16 p k zn zf zs zt h r g ev ri ml so t 0) (p2 : pTokC z n 900 p kd pl f kw v w) (p3 : pNam kd kw 1) (p4 : pFnd zn 13 g w i) (p5 : -1 * i ≤ 0) : pPC z n 17 f k zn zf zs zt h r g ev ri ml so t i := by
  obtain ⟨i0, S, hR, e0, rfl, rfl, e3, hn, hf, hs, ht, rfl, rfl, rfl, rfl, rfl, rfl, rfl, rfl⟩ := p1
  obtain ⟨f', v', w', hT, g1, g2, g3⟩ := p2
  obtain ⟨h1, h2, h3, h4⟩ := Rch_I hR
  have bb := I1_b h1
  have k2 := iff1_t p3 rfl
  have ew := g3 k2.1
  have fi := fnd_c (s := S) hn (by decide) (by omega) p4
  rw [ew] at fi
  obtain ⟨b0, b1⟩ := fndF_pos (f := fun j => S (100 + 13 + j)) (by omega) fi
  have st : stepA S kd pl f' kw v' w' = .inl (adv (up S 3 i) 17 f') := by
    rw [sA_16 e0, stFnd_t k2 fi (by omega)]
  have e201 : (adv (up S 3 i) 17 f') 201 = S 201 := by rw [adv_n (by omega) (by omega), up_n (by omega)]
  exact ⟨i0 + 1, _, ⟨S, kd, pl, f', kw, v', w', hR, hT, st⟩, adv_0, (by rw [adv_1]; exact (g1 (by omega)).symm), (by rw [adv_n (by omega) (by omega), up_n (by omega)]), (by rw [adv_n (by omega) (by omega), up_s]), (fun j j0 j1 => by rw [adv_n (by omega) (by omega), up_n (by omega)]; exact hn j j0 j1), (fun j j0 j1 => by rw [adv_n (by omega) (by omega), up_n (by omega)]; exact hf j j0 j1), (fun j j0 j1 => by rw [adv_n (by omega) (by omega), up_n (by omega)]; exact hs j j0 j1), (fun j j0 j1 j2 => by rw [e201] at j1; rw [adv_n (by omega) (by omega), up_n (by omega)]; exact ht j j0 (by omega) j2), (by rw [adv_n (by omega) (by omega), up_n (by omega)]), (by rw [adv_n (by omega) (by omega), up_n (by omega)]), (by rw [adv_n (by omega) (by omega), up_n (by omega)]), (by rw [adv_n (by omega) (by omega), up_n (by omega)]), (by rw [adv_n (by omega) (by omega), up_n (by omega)]), (by rw [adv_n (by omega) (by omega), up_n (by omega)]), (by rw [adv_n (by omega) (by omega), up_n (by omega)]), (by rw [adv_n (by omega) (by omega), up_n (by omega), adv_n (by omega) (by omega), up_n (by omega), adv_n (by omega) (by omega), up_n (by omega), adv_n (by omega) (by omega), up_n (by omega)])⟩
theorem k_c16_bad1 {z n p k zn zf zs zt h r g ev ri ml so t kd pl f kw v w : Int} (p1 : pPC z n 16 p k zn zf zs zt h r g ev ri ml so t 0) (p2 : pTokC z n 900 p kd pl f kw v w) (p3 : pNam kd kw 0) : pAns z n (-1 * pl + -1) 1 := by
  obtain ⟨i0, S, hR, e0, rfl, rfl, e3, hn, hf, hs, ht, rfl, rfl, rfl, rfl, rfl, rfl, rfl, rfl⟩ := p1
  obtain ⟨f', v', w', hT, g1, g2, g3⟩ := p2
  obtain ⟨h1, h2, h3, h4⟩ := Rch_I hR
  have bb := I1_b h1
  exact ans_mk hR hT (F := _) (by
    rw [sA_16 e0]
    exact stFnd_k (iff1_f p3 rfl)) (by omega) rfl
theorem k_c16_bad2 {z n p k zn zf zs zt h r g ev ri ml so t kd pl f kw v w : Int} (p1 : pPC z n 16 p k zn zf zs zt h r g ev ri ml so t 0) (p2 : pTokC z n 900 p kd pl f kw v w) (p3 : pNam kd kw 1) (p4 : pFnd zn 13 g w (-1)) : pAns z n (-1 * pl + -1) 3 := by
  obtain ⟨i0, S, hR, e0, rfl, rfl, e3, hn, hf, hs, ht, rfl, rfl, rfl, rfl, rfl, rfl, rfl, rfl⟩ := p1
  obtain ⟨f', v', w', hT, g1, g2, g3⟩ := p2
  obtain ⟨h1, h2, h3, h4⟩ := Rch_I hR
  have bb := I1_b h1
  have k2 := iff1_t p3 rfl
  have ew := g3 k2.1
  have fi := fnd_c (s := S) hn (by decide) (by omega) p4
  rw [ew] at fi
  exact ans_mk hR hT (F := _) (by
    rw [sA_16 e0]
    exact stFnd_b k2 (by rw [← fi]; decide)) (by omega) rfl
theorem k_c17_ok {z n p k zn zf zs zt h r g ev ri ml so t u kd pl f kw v w i x x2 zf2 y y2 zf3 : Int} (p1 : pPC z n 17 p k zn zf zs zt h r g ev ri ml so t u) (p2 : pTokC z n 900 p kd pl f kw v w) (p3 : pNam kd kw 1) (p4 : pFnd zn 13 g w i) (p5 : -1 * i ≤ 0) (p6 : pBitf zf u i 0) (p7 : pDec x zf u) (p8 : pSetb x2 x i) (p9 : pUpd zf2 zf u x2) (p10 : pDec y zf2 i) (p11 : pSetb y2 y u) (p12 : pUpd zf3 zf2 i y2) (p13 : u ≠ i) : pPC z n 30 f k zn zf3 zs zt h r g ev ri ml so t 0 := by
  obtain ⟨i0, S, hR, e0, rfl, rfl, e3, hn, hf, hs, ht, rfl, rfl, rfl, rfl, rfl, rfl, rfl, rfl⟩ := p1
  obtain ⟨f', v', w', hT, g1, g2, g3⟩ := p2
  obtain ⟨h1, h2, h3, h4⟩ := Rch_I hR
  have bb := I1_b h1
  have k2 := iff1_t p3 rfl
  have ew := g3 k2.1
  have fi := fnd_c (s := S) hn (by decide) (by omega) p4
  rw [ew] at fi
  have b3 := I1_3 h1 (Or.inl e0)
  obtain ⟨b0, b1⟩ := fndF_pos (f := fun j => S (100 + 13 + j)) (by omega) fi
  subst e3
  obtain ⟨_, _, _, _, _, bb⟩ := p6
  rw [hf (S 3) (by omega) (by omega)] at bb
  have cc : ¬ (i = S 3 ∨ bitI (S (254 + S 3)) i = 1) := by
    intro q
    rcases q with q | q
    · exact p13 q.symm
    · omega
  have ex : x = S (254 + S 3) := by rw [← p7.2, hf (S 3) (by omega) (by omega)]
  subst ex
  have ex2 := p8.2.2.2.2
  rw [if_neg (by omega)] at ex2
  have ey : y = S (254 + i) := by
    obtain ⟨u1, u2, u3, u4⟩ := p9
    rw [← p10.2, u4, dcd_un u3 (by omega) (by omega), hf i (by omega) (by omega)]
  subst ey
  have ey2 := p11.2.2.2.2
  have st : stepA S kd pl f' kw v' w' = .inl (adv (up (up (up S (254 + S 3) (S (254 + S 3) + 2 ^ i.toNat)) (254 + i) (S (254 + i) + @ite Int (bitI (S (254 + i)) (S 3) = 1) (Int.instDecidableEq _ _) 0 (2 ^ (S 3).toNat))) 3 0) 30 f') := by
    rw [sA_17 e0, stFnd_t k2 fi (by omega)]
    show cI (i = S 3 ∨ bitI (S (254 + S 3)) i = 1) (hlt pl 3) (.inl _) = _
    rw [cI_f cc]
  have e201 : (adv (up (up (up S (254 + S 3) (S (254 + S 3) + 2 ^ i.toNat)) (254 + i) (S (254 + i) + @ite Int (bitI (S (254 + i)) (S 3) = 1) (Int.instDecidableEq _ _) 0 (2 ^ (S 3).toNat))) 3 0) 30 f') 201 = S 201 := by rw [adv_n (by omega) (by omega), up_n (by omega), up_n (by omega), up_n (by omega)]
  exact ⟨i0 + 1, _, ⟨S, kd, pl, f', kw, v', w', hR, hT, st⟩, adv_0, (by rw [adv_1]; exact (g1 (by omega)).symm), (by rw [adv_n (by omega) (by omega), up_n (by omega), up_n (by omega), up_n (by omega)]), (by rw [adv_n (by omega) (by omega), up_s]), (fun j j0 j1 => by rw [adv_n (by omega) (by omega), up_n (by omega), up_n (by omega), up_n (by omega)]; exact hn j j0 j1), (aAg_a (aAg_o (aAg_w (aAg_w (s := S) hf p9 (by decide) rfl ex2) p12 (by decide) rfl ey2) (Or.inl (by decide))) (by decide)), (fun j j0 j1 => by rw [adv_n (by omega) (by omega), up_n (by omega), up_n (by omega), up_n (by omega)]; exact hs j j0 j1), (fun j j0 j1 j2 => by rw [e201] at j1; rw [adv_n (by omega) (by omega), up_n (by omega), up_n (by omega), up_n (by omega)]; exact ht j j0 (by omega) j2), (by rw [adv_n (by omega) (by omega), up_n (by omega), up_n (by omega), up_n (by omega)]), (by rw [adv_n (by omega) (by omega), up_n (by omega), up_n (by omega), up_n (by omega)]), (by rw [adv_n (by omega) (by omega), up_n (by omega), up_n (by omega), up_n (by omega)]), (by rw [adv_n (by omega) (by omega), up_n (by omega), up_n (by omega), up_n (by omega)]), (by rw [adv_n (by omega) (by omega), up_n (by omega), up_n (by omega), up_n (by omega)]), (by rw [adv_n (by omega) (by omega), up_n (by omega), up_n (by omega), up_n (by omega)]), (by rw [adv_n (by omega) (by omega), up_n (by omega), up_n (by omega), up_n (by omega)]), (by rw [adv_n (by omega) (by omega), up_n (by omega), up_n (by omega), up_n (by omega), adv_n (by omega) (by omega), up_n (by omega), up_n (by omega), up_n (by omega), adv_n (by omega) (by omega), up_n (by omega), up_n (by omega), up_n (by omega), adv_n (by omega) (by omega), up_n (by omega), up_n (by omega), up_n (by omega)])⟩
theorem k_c17_bad1 {z n p k zn zf zs zt h r g ev ri ml so t u kd pl f kw v w : Int} (p1 : pPC z n 17 p k zn zf zs zt h r g ev ri ml so t u) (p2 : pTokC z n 900 p kd pl f kw v w) (p3 : pNam kd kw 0) : pAns z n (-1 * pl + -1) 1 := by
  obtain ⟨i0, S, hR, e0, rfl, rfl, e3, hn, hf, hs, ht, rfl, rfl, rfl, rfl, rfl, rfl, rfl, rfl⟩ := p1
  obtain ⟨f', v', w', hT, g1, g2, g3⟩ := p2
  obtain ⟨h1, h2, h3, h4⟩ := Rch_I hR
  have bb := I1_b h1
  exact ans_mk hR hT (F := _) (by
    rw [sA_17 e0]
    exact stFnd_k (iff1_f p3 rfl)) (by omega) rfl
theorem k_c17_bad2 {z n p k zn zf zs zt h r g ev ri ml so t u kd pl f kw v w : Int} (p1 : pPC z n 17 p k zn zf zs zt h r g ev ri ml so t u) (p2 : pTokC z n 900 p kd pl f kw v w) (p3 : pNam kd kw 1) (p4 : pFnd zn 13 g w (-1)) : pAns z n (-1 * pl + -1) 3 := by
  obtain ⟨i0, S, hR, e0, rfl, rfl, e3, hn, hf, hs, ht, rfl, rfl, rfl, rfl, rfl, rfl, rfl, rfl⟩ := p1
  obtain ⟨f', v', w', hT, g1, g2, g3⟩ := p2
  obtain ⟨h1, h2, h3, h4⟩ := Rch_I hR
  have bb := I1_b h1
  have k2 := iff1_t p3 rfl
  have ew := g3 k2.1
  have fi := fnd_c (s := S) hn (by decide) (by omega) p4
  rw [ew] at fi
  exact ans_mk hR hT (F := _) (by
    rw [sA_17 e0]
    exact stFnd_b k2 (by rw [← fi]; decide)) (by omega) rfl
theorem k_c17_bad3 {z n p k zn zf zs zt h r g ev ri ml so t u kd pl f kw v w i : Int} (p1 : pPC z n 17 p k zn zf zs zt h r g ev ri ml so t u) (p2 : pTokC z n 900 p kd pl f kw v w) (p3 : pNam kd kw 1) (p4 : pFnd zn 13 g w i) (p5 : u + -1 * i ≤ 0) (p6 : -1 * u + i ≤ 0) (p7 : -1 * i ≤ 0) : pAns z n (-1 * pl + -1) 3 := by
  obtain ⟨i0, S, hR, e0, rfl, rfl, e3, hn, hf, hs, ht, rfl, rfl, rfl, rfl, rfl, rfl, rfl, rfl⟩ := p1
  obtain ⟨f', v', w', hT, g1, g2, g3⟩ := p2
  obtain ⟨h1, h2, h3, h4⟩ := Rch_I hR
  have bb := I1_b h1
  have k2 := iff1_t p3 rfl
  have ew := g3 k2.1
  have fi := fnd_c (s := S) hn (by decide) (by omega) p4
  rw [ew] at fi
  have b3 := I1_3 h1 (Or.inl e0)
  obtain ⟨b0, b1⟩ := fndF_pos (f := fun j => S (100 + 13 + j)) (by omega) fi
  exact ans_mk hR hT (F := _) (by
    rw [sA_17 e0, stFnd_t k2 fi (by omega)]
    show cI (i = S 3 ∨ bitI (S (254 + S 3)) i = 1) (hlt pl 3) (.inl _) = _
    rw [cI_t (Or.inl (by omega))]) (by omega) rfl
theorem k_c17_bad4 {z n p k zn zf zs zt h r g ev ri ml so t u kd pl f kw v w i : Int} (p1 : pPC z n 17 p k zn zf zs zt h r g ev ri ml so t u) (p2 : pTokC z n 900 p kd pl f kw v w) (p3 : pNam kd kw 1) (p4 : pFnd zn 13 g w i) (p5 : -1 * i ≤ 0) (p6 : pBitf zf u i 1) : pAns z n (-1 * pl + -1) 3 := by
  obtain ⟨i0, S, hR, e0, rfl, rfl, e3, hn, hf, hs, ht, rfl, rfl, rfl, rfl, rfl, rfl, rfl, rfl⟩ := p1
  obtain ⟨f', v', w', hT, g1, g2, g3⟩ := p2
  obtain ⟨h1, h2, h3, h4⟩ := Rch_I hR
  have bb := I1_b h1
  have k2 := iff1_t p3 rfl
  have ew := g3 k2.1
  have fi := fnd_c (s := S) hn (by decide) (by omega) p4
  rw [ew] at fi
  have b3 := I1_3 h1 (Or.inl e0)
  obtain ⟨b0, b1⟩ := fndF_pos (f := fun j => S (100 + 13 + j)) (by omega) fi
  subst e3
  obtain ⟨_, _, _, _, _, bb⟩ := p6
  rw [hf (S 3) (by omega) (by omega)] at bb
  exact ans_mk hR hT (F := _) (by
    rw [sA_17 e0, stFnd_t k2 fi (by omega)]
    show cI (i = S 3 ∨ bitI (S (254 + S 3)) i = 1) (hlt pl 3) (.inl _) = _
    rw [cI_t (Or.inr bb.symm)]) (by omega) rfl
theorem k_c18_ok {z n p k zn zf zs zt h r g ev ri ml so t kd pl f kw v w i x : Int} (p1 : pPC z n 18 p k zn zf zs zt h r g ev ri ml so t 0) (p2 : pTokC z n 900 p kd pl f kw v w) (p3 : pNam kd kw 1) (p4 : pFnd zn 13 g w i) (p5 : -1 * i ≤ 0) (p6 : pDec x zs i) (p7 : -1 ≤ x ∧ x ≤ -1) : pPC z n 19 f k zn zf zs zt h r g ev ri ml so t i := by
  obtain ⟨i0, S, hR, e0, rfl, rfl, e3, hn, hf, hs, ht, rfl, rfl, rfl, rfl, rfl, rfl, rfl, rfl⟩ := p1
  obtain ⟨f', v', w', hT, g1, g2, g3⟩ := p2
  obtain ⟨h1, h2, h3, h4⟩ := Rch_I hR
  have bb := I1_b h1
  have k2 := iff1_t p3 rfl
  have ew := g3 k2.1
  have fi := fnd_c (s := S) hn (by decide) (by omega) p4
  rw [ew] at fi
  obtain ⟨b0, b1⟩ := fndF_pos (f := fun j => S (100 + 13 + j)) (by omega) fi
  have ex := p6.2
  rw [hs i (by omega) (by omega)] at ex
  have st : stepA S kd pl f' kw v' w' = .inl (adv (up S 3 i) 19 f') := by
    rw [sA_18 e0, stFnd_t k2 fi (by omega)]
    show cI (S (260 + i) = -1) (.inl _) (hlt pl 3) = _
    rw [cI_t (by omega)]
  have e201 : (adv (up S 3 i) 19 f') 201 = S 201 := by rw [adv_n (by omega) (by omega), up_n (by omega)]
  exact ⟨i0 + 1, _, ⟨S, kd, pl, f', kw, v', w', hR, hT, st⟩, adv_0, (by rw [adv_1]; exact (g1 (by omega)).symm), (by rw [adv_n (by omega) (by omega), up_n (by omega)]), (by rw [adv_n (by omega) (by omega), up_s]), (fun j j0 j1 => by rw [adv_n (by omega) (by omega), up_n (by omega)]; exact hn j j0 j1), (fun j j0 j1 => by rw [adv_n (by omega) (by omega), up_n (by omega)]; exact hf j j0 j1), (fun j j0 j1 => by rw [adv_n (by omega) (by omega), up_n (by omega)]; exact hs j j0 j1), (fun j j0 j1 j2 => by rw [e201] at j1; rw [adv_n (by omega) (by omega), up_n (by omega)]; exact ht j j0 (by omega) j2), (by rw [adv_n (by omega) (by omega), up_n (by omega)]), (by rw [adv_n (by omega) (by omega), up_n (by omega)]), (by rw [adv_n (by omega) (by omega), up_n (by omega)]), (by rw [adv_n (by omega) (by omega), up_n (by omega)]), (by rw [adv_n (by omega) (by omega), up_n (by omega)]), (by rw [adv_n (by omega) (by omega), up_n (by omega)]), (by rw [adv_n (by omega) (by omega), up_n (by omega)]), (by rw [adv_n (by omega) (by omega), up_n (by omega), adv_n (by omega) (by omega), up_n (by omega), adv_n (by omega) (by omega), up_n (by omega), adv_n (by omega) (by omega), up_n (by omega)])⟩
theorem k_c18_bad1 {z n p k zn zf zs zt h r g ev ri ml so t kd pl f kw v w : Int} (p1 : pPC z n 18 p k zn zf zs zt h r g ev ri ml so t 0) (p2 : pTokC z n 900 p kd pl f kw v w) (p3 : pNam kd kw 0) : pAns z n (-1 * pl + -1) 1 := by
  obtain ⟨i0, S, hR, e0, rfl, rfl, e3, hn, hf, hs, ht, rfl, rfl, rfl, rfl, rfl, rfl, rfl, rfl⟩ := p1
  obtain ⟨f', v', w', hT, g1, g2, g3⟩ := p2
  obtain ⟨h1, h2, h3, h4⟩ := Rch_I hR
  have bb := I1_b h1
  exact ans_mk hR hT (F := _) (by
    rw [sA_18 e0]
    exact stFnd_k (iff1_f p3 rfl)) (by omega) rfl
theorem k_c18_bad2 {z n p k zn zf zs zt h r g ev ri ml so t kd pl f kw v w : Int} (p1 : pPC z n 18 p k zn zf zs zt h r g ev ri ml so t 0) (p2 : pTokC z n 900 p kd pl f kw v w) (p3 : pNam kd kw 1) (p4 : pFnd zn 13 g w (-1)) : pAns z n (-1 * pl + -1) 3 := by
  obtain ⟨i0, S, hR, e0, rfl, rfl, e3, hn, hf, hs, ht, rfl, rfl, rfl, rfl, rfl, rfl, rfl, rfl⟩ := p1
  obtain ⟨f', v', w', hT, g1, g2, g3⟩ := p2
  obtain ⟨h1, h2, h3, h4⟩ := Rch_I hR
  have bb := I1_b h1
  have k2 := iff1_t p3 rfl
  have ew := g3 k2.1
  have fi := fnd_c (s := S) hn (by decide) (by omega) p4
  rw [ew] at fi
  exact ans_mk hR hT (F := _) (by
    rw [sA_18 e0]
    exact stFnd_b k2 (by rw [← fi]; decide)) (by omega) rfl
theorem k_c18_bad3 {z n p k zn zf zs zt h r g ev ri ml so t kd pl f kw v w i x : Int} (p1 : pPC z n 18 p k zn zf zs zt h r g ev ri ml so t 0) (p2 : pTokC z n 900 p kd pl f kw v w) (p3 : pNam kd kw 1) (p4 : pFnd zn 13 g w i) (p5 : -1 * i ≤ 0) (p6 : pDec x zs i) (p7 : 0 ≤ x ∧ x ≤ 1000) : pAns z n (-1 * pl + -1) 3 := by
  obtain ⟨i0, S, hR, e0, rfl, rfl, e3, hn, hf, hs, ht, rfl, rfl, rfl, rfl, rfl, rfl, rfl, rfl⟩ := p1
  obtain ⟨f', v', w', hT, g1, g2, g3⟩ := p2
  obtain ⟨h1, h2, h3, h4⟩ := Rch_I hR
  have bb := I1_b h1
  have k2 := iff1_t p3 rfl
  have ew := g3 k2.1
  have fi := fnd_c (s := S) hn (by decide) (by omega) p4
  rw [ew] at fi
  obtain ⟨b0, b1⟩ := fndF_pos (f := fun j => S (100 + 13 + j)) (by omega) fi
  have ex := p6.2
  rw [hs i (by omega) (by omega)] at ex
  exact ans_mk hR hT (F := _) (by
    rw [sA_18 e0, stFnd_t k2 fi (by omega)]
    show cI (S (260 + i) = -1) (.inl _) (hlt pl 3) = _
    rw [cI_f (by omega)]) (by omega) rfl
theorem k_c19_ok {z n p k zn zf zs zt h r g ev ri ml so t u kd pl f kw v w i : Int} (p1 : pPC z n 19 p k zn zf zs zt h r g ev ri ml so t u) (p2 : pTokC z n 900 p kd pl f kw v w) (p3 : pNam kd kw 1) (p4 : pFnd zn 5 r w i) (p5 : -1 * i ≤ 0) (p6 : pSlp zs 0 g i 0) : pPC z n 20 f k zn zf zs zt h r g ev ri ml so t (u + 8 * i) := by
  obtain ⟨i0, S, hR, e0, rfl, rfl, e3, hn, hf, hs, ht, rfl, rfl, rfl, rfl, rfl, rfl, rfl, rfl⟩ := p1
  obtain ⟨f', v', w', hT, g1, g2, g3⟩ := p2
  obtain ⟨h1, h2, h3, h4⟩ := Rch_I hR
  have bb := I1_b h1
  have k2 := iff1_t p3 rfl
  have ew := g3 k2.1
  have fi := fnd_c (s := S) hn (by decide) (by omega) p4
  rw [ew] at fi
  have b3 := I1_3 h1 (Or.inr e0)
  obtain ⟨b0, b1⟩ := fndF_pos (f := fun j => S (100 + 5 + j)) (by omega) fi
  subst e3
  have cc : ¬ ∃ j : Int, 0 ≤ j ∧ j < S 202 ∧ S (260 + j) = i := fun ⟨j, j0, j1, j2⟩ => iff1_f p6 rfl ⟨j, j0, j1, by rw [show (0 : Int) + j = j by omega, hs j j0 (by omega)]; exact j2⟩
  have st : stepA S kd pl f' kw v' w' = .inl (adv (up S 3 (S 3 + 8 * i)) 20 f') := by
    rw [sA_19 e0, stFnd_t k2 fi (by omega)]
    show cI (∃ j : Int, 0 ≤ j ∧ j < S 202 ∧ S (260 + j) = i) (hlt pl 3) (.inl _) = _
    rw [cI_f cc]
  have e201 : (adv (up S 3 (S 3 + 8 * i)) 20 f') 201 = S 201 := by rw [adv_n (by omega) (by omega), up_n (by omega)]
  exact ⟨i0 + 1, _, ⟨S, kd, pl, f', kw, v', w', hR, hT, st⟩, adv_0, (by rw [adv_1]; exact (g1 (by omega)).symm), (by rw [adv_n (by omega) (by omega), up_n (by omega)]), (by rw [adv_n (by omega) (by omega), up_s]), (fun j j0 j1 => by rw [adv_n (by omega) (by omega), up_n (by omega)]; exact hn j j0 j1), (fun j j0 j1 => by rw [adv_n (by omega) (by omega), up_n (by omega)]; exact hf j j0 j1), (fun j j0 j1 => by rw [adv_n (by omega) (by omega), up_n (by omega)]; exact hs j j0 j1), (fun j j0 j1 j2 => by rw [e201] at j1; rw [adv_n (by omega) (by omega), up_n (by omega)]; exact ht j j0 (by omega) j2), (by rw [adv_n (by omega) (by omega), up_n (by omega)]), (by rw [adv_n (by omega) (by omega), up_n (by omega)]), (by rw [adv_n (by omega) (by omega), up_n (by omega)]), (by rw [adv_n (by omega) (by omega), up_n (by omega)]), (by rw [adv_n (by omega) (by omega), up_n (by omega)]), (by rw [adv_n (by omega) (by omega), up_n (by omega)]), (by rw [adv_n (by omega) (by omega), up_n (by omega)]), (by rw [adv_n (by omega) (by omega), up_n (by omega), adv_n (by omega) (by omega), up_n (by omega), adv_n (by omega) (by omega), up_n (by omega), adv_n (by omega) (by omega), up_n (by omega)])⟩
theorem k_c19_bad1 {z n p k zn zf zs zt h r g ev ri ml so t u kd pl f kw v w : Int} (p1 : pPC z n 19 p k zn zf zs zt h r g ev ri ml so t u) (p2 : pTokC z n 900 p kd pl f kw v w) (p3 : pNam kd kw 0) : pAns z n (-1 * pl + -1) 1 := by
  obtain ⟨i0, S, hR, e0, rfl, rfl, e3, hn, hf, hs, ht, rfl, rfl, rfl, rfl, rfl, rfl, rfl, rfl⟩ := p1
  obtain ⟨f', v', w', hT, g1, g2, g3⟩ := p2
  obtain ⟨h1, h2, h3, h4⟩ := Rch_I hR
  have bb := I1_b h1
  exact ans_mk hR hT (F := _) (by
    rw [sA_19 e0]
    exact stFnd_k (iff1_f p3 rfl)) (by omega) rfl
theorem k_c19_bad2 {z n p k zn zf zs zt h r g ev ri ml so t u kd pl f kw v w : Int} (p1 : pPC z n 19 p k zn zf zs zt h r g ev ri ml so t u) (p2 : pTokC z n 900 p kd pl f kw v w) (p3 : pNam kd kw 1) (p4 : pFnd zn 5 r w (-1)) : pAns z n (-1 * pl + -1) 3 := by
  obtain ⟨i0, S, hR, e0, rfl, rfl, e3, hn, hf, hs, ht, rfl, rfl, rfl, rfl, rfl, rfl, rfl, rfl⟩ := p1
  obtain ⟨f', v', w', hT, g1, g2, g3⟩ := p2
  obtain ⟨h1, h2, h3, h4⟩ := Rch_I hR
  have bb := I1_b h1
  have k2 := iff1_t p3 rfl
  have ew := g3 k2.1
  have fi := fnd_c (s := S) hn (by decide) (by omega) p4
  rw [ew] at fi
  exact ans_mk hR hT (F := _) (by
    rw [sA_19 e0]
    exact stFnd_b k2 (by rw [← fi]; decide)) (by omega) rfl
theorem k_c19_bad3 {z n p k zn zf zs zt h r g ev ri ml so t u kd pl f kw v w i : Int} (p1 : pPC z n 19 p k zn zf zs zt h r g ev ri ml so t u) (p2 : pTokC z n 900 p kd pl f kw v w) (p3 : pNam kd kw 1) (p4 : pFnd zn 5 r w i) (p5 : -1 * i ≤ 0) (p6 : pSlp zs 0 g i 1) : pAns z n (-1 * pl + -1) 3 := by
  obtain ⟨i0, S, hR, e0, rfl, rfl, e3, hn, hf, hs, ht, rfl, rfl, rfl, rfl, rfl, rfl, rfl, rfl⟩ := p1
  obtain ⟨f', v', w', hT, g1, g2, g3⟩ := p2
  obtain ⟨h1, h2, h3, h4⟩ := Rch_I hR
  have bb := I1_b h1
  have k2 := iff1_t p3 rfl
  have ew := g3 k2.1
  have fi := fnd_c (s := S) hn (by decide) (by omega) p4
  rw [ew] at fi
  have b3 := I1_3 h1 (Or.inr e0)
  obtain ⟨b0, b1⟩ := fndF_pos (f := fun j => S (100 + 5 + j)) (by omega) fi
  have cc : ∃ j : Int, 0 ≤ j ∧ j < S 202 ∧ S (260 + j) = i := by
    obtain ⟨j, j0, j1, j2⟩ := iff1_t p6 rfl
    rw [show (0 : Int) + j = j by omega, hs j j0 (by omega)] at j2
    exact ⟨j, j0, j1, j2⟩
  exact ans_mk hR hT (F := _) (by
    rw [sA_19 e0, stFnd_t k2 fi (by omega)]
    show cI (∃ j : Int, 0 ≤ j ∧ j < S 202 ∧ S (260 + j) = i) (hlt pl 3) (.inl _) = _
    rw [cI_t cc]) (by omega) rfl
theorem k_c20_ok {z n p k zn zf zs zt h r g ev ri ml so t a i kd pl f kw v w zs2 : Int} (p1 : pPC z n 20 p k zn zf zs zt h r g ev ri ml so t (a + 8 * i)) (p2 : pTokC z n 900 p kd pl f kw v w) (p3 : 3 ≤ kd ∧ kd ≤ 3) (p4 : 1 ≤ v ∧ v ≤ 30) (p5 : 0 ≤ a ∧ a ≤ 5) (p6 : -1 * i ≤ 0) (p7 : pUpd zs2 zs a i) : pPC z n 30 f k zn zf zs2 zt h r g ev ri ml so t 0 := by
  obtain ⟨i0, S, hR, e0, rfl, rfl, e3, hn, hf, hs, ht, rfl, rfl, rfl, rfl, rfl, rfl, rfl, rfl⟩ := p1
  obtain ⟨f', v', w', hT, g1, g2, g3⟩ := p2
  obtain ⟨h1, h2, h3, h4⟩ := Rch_I hR
  have bb := I1_b h1
  have k3 : kd = 3 := by omega
  have ev := g2 (Or.inl k3)
  have st : stepA S kd pl f' kw v' w' = .inl (adv (up (up (up S (260 + S 3 % 8) (S 3 / 8)) (266 + S 3 % 8) v') 3 0) 30 f') := by
    rw [sA_20 e0]
    exact stNum_t k3 (by omega) (by omega)
  have e201 : (adv (up (up (up S (260 + S 3 % 8) (S 3 / 8)) (266 + S 3 % 8) v') 3 0) 30 f') 201 = S 201 := by rw [adv_n (by omega) (by omega), up_n (by omega), up_n (by omega), up_n (by omega)]
  exact ⟨i0 + 1, _, ⟨S, kd, pl, f', kw, v', w', hR, hT, st⟩, adv_0, (by rw [adv_1]; exact (g1 (by omega)).symm), (by rw [adv_n (by omega) (by omega), up_n (by omega), up_n (by omega), up_n (by omega)]), (by rw [adv_n (by omega) (by omega), up_s]), (fun j j0 j1 => by rw [adv_n (by omega) (by omega), up_n (by omega), up_n (by omega), up_n (by omega)]; exact hn j j0 j1), (fun j j0 j1 => by rw [adv_n (by omega) (by omega), up_n (by omega), up_n (by omega), up_n (by omega)]; exact hf j j0 j1), (aAg_a (aAg_o (aAg_o (aAg_w (s := S) hs p7 (by decide) (by omega) (by omega)) (Or.inr (by omega))) (Or.inl (by decide))) (by decide)), (fun j j0 j1 j2 => by rw [e201] at j1; rw [adv_n (by omega) (by omega), up_n (by omega), up_n (by omega), up_n (by omega)]; exact ht j j0 (by omega) j2), (by rw [adv_n (by omega) (by omega), up_n (by omega), up_n (by omega), up_n (by omega)]), (by rw [adv_n (by omega) (by omega), up_n (by omega), up_n (by omega), up_n (by omega)]), (by rw [adv_n (by omega) (by omega), up_n (by omega), up_n (by omega), up_n (by omega)]), (by rw [adv_n (by omega) (by omega), up_n (by omega), up_n (by omega), up_n (by omega)]), (by rw [adv_n (by omega) (by omega), up_n (by omega), up_n (by omega), up_n (by omega)]), (by rw [adv_n (by omega) (by omega), up_n (by omega), up_n (by omega), up_n (by omega)]), (by rw [adv_n (by omega) (by omega), up_n (by omega), up_n (by omega), up_n (by omega)]), (by rw [adv_n (by omega) (by omega), up_n (by omega), up_n (by omega), up_n (by omega), adv_n (by omega) (by omega), up_n (by omega), up_n (by omega), up_n (by omega), adv_n (by omega) (by omega), up_n (by omega), up_n (by omega), up_n (by omega), adv_n (by omega) (by omega), up_n (by omega), up_n (by omega), up_n (by omega)])⟩
theorem k_c20_bad1 {z n p k zn zf zs zt h r g ev ri ml so t u kd pl f kw v w : Int} (p1 : pPC z n 20 p k zn zf zs zt h r g ev ri ml so t u) (p2 : pTokC z n 900 p kd pl f kw v w) (p3 : kd ≠ 3) : pAns z n (-1 * pl + -1) 1 := by
  obtain ⟨i0, S, hR, e0, rfl, rfl, e3, hn, hf, hs, ht, rfl, rfl, rfl, rfl, rfl, rfl, rfl, rfl⟩ := p1
  obtain ⟨f', v', w', hT, g1, g2, g3⟩ := p2
  obtain ⟨h1, h2, h3, h4⟩ := Rch_I hR
  have bb := I1_b h1
  exact ans_mk hR hT (F := _) (by
    rw [sA_20 e0]
    exact stNum_k p3) (by omega) rfl
theorem k_c20_bad3 {z n p k zn zf zs zt h r g ev ri ml so t u kd pl f kw v w : Int} (p1 : pPC z n 20 p k zn zf zs zt h r g ev ri ml so t u) (p2 : pTokC z n 900 p kd pl f kw v w) (p3 : 3 ≤ kd ∧ kd ≤ 3) (p4 : pWin v 1 30 0) : pAns z n (-1 * pl + -1) 2 := by
  obtain ⟨i0, S, hR, e0, rfl, rfl, e3, hn, hf, hs, ht, rfl, rfl, rfl, rfl, rfl, rfl, rfl, rfl⟩ := p1
  obtain ⟨f', v', w', hT, g1, g2, g3⟩ := p2
  obtain ⟨h1, h2, h3, h4⟩ := Rch_I hR
  have bb := I1_b h1
  exact ans_mk hR hT (F := _) (by
    rw [sA_20 e0]
    exact stNum_v (by omega) (by rw [← g2 (Or.inl (by omega))]; exact iff1_f p4 rfl)) (by omega) rfl
theorem k_c30_ok {z n p k zn zf zs zt h r g ev ri ml so t kd pl f kw v w : Int} (p1 : pPC z n 30 p k zn zf zs zt h r g ev ri ml so t 0) (p2 : pTokC z n 900 p kd pl f kw v w) (p3 : pSgn kd v 59 1) : pPC z n 0 f (k + 1) zn zf zs zt h r g ev ri ml so t 0 := by
  obtain ⟨i0, S, hR, e0, rfl, rfl, e3, hn, hf, hs, ht, rfl, rfl, rfl, rfl, rfl, rfl, rfl, rfl⟩ := p1
  obtain ⟨f', v', w', hT, g1, g2, g3⟩ := p2
  obtain ⟨h1, h2, h3, h4⟩ := Rch_I hR
  have bb := I1_b h1
  have k4 := iff1_t p3 rfl
  have ev := g2 (Or.inr k4.1)
  have st : stepA S kd pl f' kw v' w' = .inl (adv (up S 2 (S 2 + 1)) 0 f') := by
    rw [sA_30 e0, cI_t ⟨k4.1, by omega⟩]
  have e201 : (adv (up S 2 (S 2 + 1)) 0 f') 201 = S 201 := by rw [adv_n (by omega) (by omega), up_n (by omega)]
  exact ⟨i0 + 1, _, ⟨S, kd, pl, f', kw, v', w', hR, hT, st⟩, adv_0, (by rw [adv_1]; exact (g1 (by omega)).symm), (by rw [adv_n (by omega) (by omega), up_s]), (by rw [adv_n (by omega) (by omega), up_n (by omega)]; exact e3), (fun j j0 j1 => by rw [adv_n (by omega) (by omega), up_n (by omega)]; exact hn j j0 j1), (fun j j0 j1 => by rw [adv_n (by omega) (by omega), up_n (by omega)]; exact hf j j0 j1), (fun j j0 j1 => by rw [adv_n (by omega) (by omega), up_n (by omega)]; exact hs j j0 j1), (fun j j0 j1 j2 => by rw [e201] at j1; rw [adv_n (by omega) (by omega), up_n (by omega)]; exact ht j j0 (by omega) j2), (by rw [adv_n (by omega) (by omega), up_n (by omega)]), (by rw [adv_n (by omega) (by omega), up_n (by omega)]), (by rw [adv_n (by omega) (by omega), up_n (by omega)]), (by rw [adv_n (by omega) (by omega), up_n (by omega)]), (by rw [adv_n (by omega) (by omega), up_n (by omega)]), (by rw [adv_n (by omega) (by omega), up_n (by omega)]), (by rw [adv_n (by omega) (by omega), up_n (by omega)]), (by rw [adv_n (by omega) (by omega), up_n (by omega), adv_n (by omega) (by omega), up_n (by omega), adv_n (by omega) (by omega), up_n (by omega), adv_n (by omega) (by omega), up_n (by omega)])⟩
theorem k_c30_bad {z n p k zn zf zs zt h r g ev ri ml so t kd pl f kw v w : Int} (p1 : pPC z n 30 p k zn zf zs zt h r g ev ri ml so t 0) (p2 : pTokC z n 900 p kd pl f kw v w) (p3 : pSgn kd v 59 0) : pAns z n (-1 * pl + -1) 1 := by
  obtain ⟨i0, S, hR, e0, rfl, rfl, e3, hn, hf, hs, ht, rfl, rfl, rfl, rfl, rfl, rfl, rfl, rfl⟩ := p1
  obtain ⟨f', v', w', hT, g1, g2, g3⟩ := p2
  obtain ⟨h1, h2, h3, h4⟩ := Rch_I hR
  have bb := I1_b h1
  exact ans_mk hR hT (F := _) (by
    rw [sA_30 e0, cI_f (fun q => iff1_f p3 rfl ⟨q.1, by rw [g2 (Or.inr q.1)]; exact q.2⟩)]) (by omega) rfl
end
