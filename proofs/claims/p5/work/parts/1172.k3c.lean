noncomputable section
/-! T3: rules (printed by wip/v5/gen/rules4.py) -/
theorem k_c_init {zn zf zs n z zt : Int} (p1 : pRg zn 0 19 0 0) (p2 : pRg zf 0 6 0 0) (p3 : pRg zs 0 6 (-1) (-1)) (p4 : 0 ≤ n ∧ n ≤ 940) : pPC z n 0 0 0 zn zf zs zt 0 0 0 7 3 15 0 0 0 := ⟨0, sI, rfl, rfl, rfl, rfl, rfl, (fun j j0 j1 => by
  have q := p1 j j0 j0 j1 (by omega)
  have q2 := (Inv_0 (n := n)).2.2.2.1 j j0 j1 (by unfold own kslot pend; rw [show sI 0 = 0 from rfl, show sI 200 = 0 from rfl, show sI 201 = 0 from rfl, show sI 202 = 0 from rfl]; omega)
  rw [q2]
  omega), (fun j j0 j1 => by
  have q := p2 j j0 j0 j1 (by omega)
  have hj : j = 0 ∨ j = 1 ∨ j = 2 ∨ j = 3 ∨ j = 4 ∨ j = 5 := by omega
  have e : sI (254 + j) = 0 := by rcases hj with rfl | rfl | rfl | rfl | rfl | rfl <;> rfl
  omega), (fun j j0 j1 => by
  have q := p3 j j0 j0 j1 (by omega)
  have e : sI (260 + j) = -1 := (Inv_0 (n := n)).2.2.1 j j0 j1
  omega), (fun j j0 j1 j2 => by
  rw [show sI 201 = 0 from rfl] at j1
  omega), rfl, rfl, rfl, rfl, rfl, rfl, rfl, rfl⟩
theorem k_c_lx {z n p k zn zf zs zt h r g ev ri ml so t : Int} (p1 : pPC z n 0 p k zn zf zs zt h r g ev ri ml so t 0) (p2 : 0 ≤ n ∧ n ≤ 940) (p3 : -1 * k + 901 ≤ 0) : False := by
  obtain ⟨i0, S, hR, e0, rfl, rfl, e3, hn, hf, hs, ht, rfl, rfl, rfl, rfl, rfl, rfl, rfl, rfl⟩ := p1
  obtain ⟨h1, h2, h3, h4⟩ := Rch_I hR
  have bb := I1_b h1
  unfold I1 at h1
  omega
theorem k_c_le {z n p k zn zf zs zt h r g ev ri ml so t : Int} (p1 : pPC z n 0 p k zn zf zs zt h r g ev ri ml so t 0) (p2 : 0 ≤ n ∧ n ≤ 940) : (-1000000000000 ≤ 2 * k + -940) ∧ (2 * k + -940 ≤ 0) ∧ (-1000000000000 ≤ -1 * k) ∧ (-1 * k ≤ 0) := by
  obtain ⟨i0, S, hR, e0, rfl, rfl, e3, hn, hf, hs, ht, rfl, rfl, rfl, rfl, rfl, rfl, rfl, rfl⟩ := p1
  obtain ⟨h1, h2, h3, h4⟩ := Rch_I hR
  have bb := I1_b h1
  unfold I1 at h1
  omega
theorem k_c0_end {z n p k zn zf zs zt h r g ev ri ml so t kd pl f kw v w : Int} (p1 : pPC z n 0 p k zn zf zs zt h r g ev ri ml so t 0) (p2 : pTokC z n 900 p kd pl f kw v w) (p3 : 1 ≤ kd ∧ kd ≤ 1) : pAns z n k 0 := by
  obtain ⟨i0, S, hR, e0, rfl, rfl, e3, hn, hf, hs, ht, rfl, rfl, rfl, rfl, rfl, rfl, rfl, rfl⟩ := p1
  obtain ⟨f', v', w', hT, g1, g2, g3⟩ := p2
  obtain ⟨h1, h2, h3, h4⟩ := Rch_I hR
  have bb := I1_b h1
  exact ⟨i0, S, kd, pl, f', kw, v', w', hR, hT, by rw [sA_0 e0, st0_1 (by omega)]⟩
theorem k_c0_bad1 {z n p k zn zf zs zt h r g ev ri ml so t kd pl f kw v w : Int} (p1 : pPC z n 0 p k zn zf zs zt h r g ev ri ml so t 0) (p2 : pTokC z n 900 p kd pl f kw v w) (p3 : kd ≠ 1) (p4 : kw + 1 ≤ 0) : pAns z n (-1 * pl + -1) 1 := by
  obtain ⟨i0, S, hR, e0, rfl, rfl, e3, hn, hf, hs, ht, rfl, rfl, rfl, rfl, rfl, rfl, rfl, rfl⟩ := p1
  obtain ⟨f', v', w', hT, g1, g2, g3⟩ := p2
  obtain ⟨h1, h2, h3, h4⟩ := Rch_I hR
  have bb := I1_b h1
  exact ans_mk hR hT (F := _) (by
    rw [sA_0 e0]
    exact st0_z p3 (Or.inl (by omega))) (by omega) rfl
theorem k_c0_bad2 {z n p k zn zf zs zt h r g ev ri ml so t kd pl f kw v w : Int} (p1 : pPC z n 0 p k zn zf zs zt h r g ev ri ml so t 0) (p2 : pTokC z n 900 p kd pl f kw v w) (p3 : -1 * kw + 9 ≤ 0) : pAns z n (-1 * pl + -1) 1 := by
  obtain ⟨i0, S, hR, e0, rfl, rfl, e3, hn, hf, hs, ht, rfl, rfl, rfl, rfl, rfl, rfl, rfl, rfl⟩ := p1
  obtain ⟨f', v', w', hT, g1, g2, g3⟩ := p2
  obtain ⟨h1, h2, h3, h4⟩ := Rch_I hR
  have bb := I1_b h1
  exact ans_mk hR hT (F := _) (by
    rw [sA_0 e0]
    exact st0_z (by intro k1; have := Tok_6 hT (by omega); omega) (Or.inr (by omega))) (by omega) rfl
theorem k_c0_first0 {z n p k zn zf zs zt h r g ev ri ml so t kd pl f kw v w t2 : Int} (p1 : pPC z n 0 p k zn zf zs zt h r g ev ri ml so t 0) (p2 : pTokC z n 900 p kd pl f kw v w) (p3 : 0 ≤ kw ∧ kw ≤ 0) (p4 : pBit t kw 0) (p5 : pSetb t2 t kw) : pPC z n 1 f k zn zf zs zt h r g ev ri ml so t2 0 := by
  obtain ⟨i0, S, hR, e0, rfl, rfl, e3, hn, hf, hs, ht, rfl, rfl, rfl, rfl, rfl, rfl, rfl, rfl⟩ := p1
  obtain ⟨f', v', w', hT, g1, g2, g3⟩ := p2
  obtain ⟨h1, h2, h3, h4⟩ := Rch_I hR
  have bb := I1_b h1
  have k2 := Tok_k hT (by omega)
  obtain ⟨o10, o11, o12, o13⟩ := I1_o h1
  have kk : kw = 0 := by omega
  rw [kk] at p4 p5
  have hb := p4.2.2.2.2
  rw [show bitI (S 10 + 2 * S 11 + 4 * S 12 + 8 * S 13) 0 = S 10 by exact bit_sum0 o10 o11 o12 o13] at hb
  have ht2 := p5.2.2.2.2
  rw [show bitI (S 10 + 2 * S 11 + 4 * S 12 + 8 * S 13) 0 = S 10 by exact bit_sum0 o10 o11 o12 o13, if_neg (by omega), show (2 : Int) ^ ((0 : Int)).toNat = 1 by decide] at ht2
  have st : stepA S kd pl f' kw v' w' = .inl (adv (up S 10 1) 1 f') := by
    rw [sA_0 e0]
    exact st0_t0 (by intro k1; have := Tok_6 hT (by omega); omega) kk (by omega)
  have e201 : (adv (up S 10 1) 1 f') 201 = S 201 := by rw [adv_n (by omega) (by omega), up_n (by omega)]
  exact ⟨i0 + 1, _, ⟨S, kd, pl, f', kw, v', w', hR, hT, st⟩, adv_0, (by rw [adv_1]; exact (g1 (by omega)).symm), (by rw [adv_n (by omega) (by omega), up_n (by omega)]), (by rw [adv_n (by omega) (by omega), up_n (by omega)]; exact e3), (fun j j0 j1 => by rw [adv_n (by omega) (by omega), up_n (by omega)]; exact hn j j0 j1), (fun j j0 j1 => by rw [adv_n (by omega) (by omega), up_n (by omega)]; exact hf j j0 j1), (fun j j0 j1 => by rw [adv_n (by omega) (by omega), up_n (by omega)]; exact hs j j0 j1), (fun j j0 j1 j2 => by rw [e201] at j1; rw [adv_n (by omega) (by omega), up_n (by omega)]; exact ht j j0 (by omega) j2), (by rw [adv_n (by omega) (by omega), up_n (by omega)]), (by rw [adv_n (by omega) (by omega), up_n (by omega)]), (by rw [adv_n (by omega) (by omega), up_n (by omega)]), (by rw [adv_n (by omega) (by omega), up_n (by omega)]), (by rw [adv_n (by omega) (by omega), up_n (by omega)]), (by rw [adv_n (by omega) (by omega), up_n (by omega)]), (by rw [adv_n (by omega) (by omega), up_n (by omega)]), (by rw [adv_n (by omega) (by omega), up_s, adv_n (by omega) (by omega), up_n (by omega), adv_n (by omega) (by omega), up_n (by omega), adv_n (by omega) (by omega), up_n (by omega)]; omega)⟩
theorem k_c0_again0 {z n p k zn zf zs zt h r g ev ri ml so t kd pl f kw v w : Int} (p1 : pPC z n 0 p k zn zf zs zt h r g ev ri ml so t 0) (p2 : pTokC z n 900 p kd pl f kw v w) (p3 : 0 ≤ kw ∧ kw ≤ 0) (p4 : pBit t kw 1) : pAns z n (-1 * pl + -1) 3 := by
  obtain ⟨i0, S, hR, e0, rfl, rfl, e3, hn, hf, hs, ht, rfl, rfl, rfl, rfl, rfl, rfl, rfl, rfl⟩ := p1
  obtain ⟨f', v', w', hT, g1, g2, g3⟩ := p2
  obtain ⟨h1, h2, h3, h4⟩ := Rch_I hR
  have bb := I1_b h1
  exact ans_mk hR hT (F := _) (by
    rw [sA_0 e0]
    exact st0_f0 (by intro k1; have := Tok_6 hT (by omega); omega) (by omega) (by
      obtain ⟨o10, o11, o12, o13⟩ := I1_o h1
      have hb := p4.2.2.2.2
      have kk : kw = 0 := by omega
      rw [kk, show bitI (S 10 + 2 * S 11 + 4 * S 12 + 8 * S 13) 0 = S 10 by exact bit_sum0 o10 o11 o12 o13] at hb
      exact hb.symm)) (by omega) rfl
theorem k_c0_first1 {z n p k zn zf zs zt h r g ev ri ml so t kd pl f kw v w t2 : Int} (p1 : pPC z n 0 p k zn zf zs zt h r g ev ri ml so t 0) (p2 : pTokC z n 900 p kd pl f kw v w) (p3 : 1 ≤ kw ∧ kw ≤ 1) (p4 : pBit t kw 0) (p5 : pSetb t2 t kw) : pPC z n 2 f k zn zf zs zt h r g ev ri ml so t2 0 := by
  obtain ⟨i0, S, hR, e0, rfl, rfl, e3, hn, hf, hs, ht, rfl, rfl, rfl, rfl, rfl, rfl, rfl, rfl⟩ := p1
  obtain ⟨f', v', w', hT, g1, g2, g3⟩ := p2
  obtain ⟨h1, h2, h3, h4⟩ := Rch_I hR
  have bb := I1_b h1
  have k2 := Tok_k hT (by omega)
  obtain ⟨o10, o11, o12, o13⟩ := I1_o h1
  have kk : kw = 1 := by omega
  rw [kk] at p4 p5
  have hb := p4.2.2.2.2
  rw [show bitI (S 10 + 2 * S 11 + 4 * S 12 + 8 * S 13) 1 = S 11 by exact bit_sum1 o10 o11 o12 o13] at hb
  have ht2 := p5.2.2.2.2
  rw [show bitI (S 10 + 2 * S 11 + 4 * S 12 + 8 * S 13) 1 = S 11 by exact bit_sum1 o10 o11 o12 o13, if_neg (by omega), show (2 : Int) ^ ((1 : Int)).toNat = 2 by decide] at ht2
  have st : stepA S kd pl f' kw v' w' = .inl (adv (up S 11 1) 2 f') := by
    rw [sA_0 e0]
    exact st0_t1 (by intro k1; have := Tok_6 hT (by omega); omega) kk (by omega)
  have e201 : (adv (up S 11 1) 2 f') 201 = S 201 := by rw [adv_n (by omega) (by omega), up_n (by omega)]
  exact ⟨i0 + 1, _, ⟨S, kd, pl, f', kw, v', w', hR, hT, st⟩, adv_0, (by rw [adv_1]; exact (g1 (by omega)).symm), (by rw [adv_n (by omega) (by omega), up_n (by omega)]), (by rw [adv_n (by omega) (by omega), up_n (by omega)]; exact e3), (fun j j0 j1 => by rw [adv_n (by omega) (by omega), up_n (by omega)]; exact hn j j0 j1), (fun j j0 j1 => by rw [adv_n (by omega) (by omega), up_n (by omega)]; exact hf j j0 j1), (fun j j0 j1 => by rw [adv_n (by omega) (by omega), up_n (by omega)]; exact hs j j0 j1), (fun j j0 j1 j2 => by rw [e201] at j1; rw [adv_n (by omega) (by omega), up_n (by omega)]; exact ht j j0 (by omega) j2), (by rw [adv_n (by omega) (by omega), up_n (by omega)]), (by rw [adv_n (by omega) (by omega), up_n (by omega)]), (by rw [adv_n (by omega) (by omega), up_n (by omega)]), (by rw [adv_n (by omega) (by omega), up_n (by omega)]), (by rw [adv_n (by omega) (by omega), up_n (by omega)]), (by rw [adv_n (by omega) (by omega), up_n (by omega)]), (by rw [adv_n (by omega) (by omega), up_n (by omega)]), (by rw [adv_n (by omega) (by omega), up_n (by omega), adv_n (by omega) (by omega), up_s, adv_n (by omega) (by omega), up_n (by omega), adv_n (by omega) (by omega), up_n (by omega)]; omega)⟩
theorem k_c0_again1 {z n p k zn zf zs zt h r g ev ri ml so t kd pl f kw v w : Int} (p1 : pPC z n 0 p k zn zf zs zt h r g ev ri ml so t 0) (p2 : pTokC z n 900 p kd pl f kw v w) (p3 : 1 ≤ kw ∧ kw ≤ 1) (p4 : pBit t kw 1) : pAns z n (-1 * pl + -1) 3 := by
  obtain ⟨i0, S, hR, e0, rfl, rfl, e3, hn, hf, hs, ht, rfl, rfl, rfl, rfl, rfl, rfl, rfl, rfl⟩ := p1
  obtain ⟨f', v', w', hT, g1, g2, g3⟩ := p2
  obtain ⟨h1, h2, h3, h4⟩ := Rch_I hR
  have bb := I1_b h1
  exact ans_mk hR hT (F := _) (by
    rw [sA_0 e0]
    exact st0_f1 (by intro k1; have := Tok_6 hT (by omega); omega) (by omega) (by
      obtain ⟨o10, o11, o12, o13⟩ := I1_o h1
      have hb := p4.2.2.2.2
      have kk : kw = 1 := by omega
      rw [kk, show bitI (S 10 + 2 * S 11 + 4 * S 12 + 8 * S 13) 1 = S 11 by exact bit_sum1 o10 o11 o12 o13] at hb
      exact hb.symm)) (by omega) rfl
theorem k_c0_first2 {z n p k zn zf zs zt h r g ev ri ml so t kd pl f kw v w t2 : Int} (p1 : pPC z n 0 p k zn zf zs zt h r g ev ri ml so t 0) (p2 : pTokC z n 900 p kd pl f kw v w) (p3 : 2 ≤ kw ∧ kw ≤ 2) (p4 : pBit t kw 0) (p5 : pSetb t2 t kw) : pPC z n 4 f k zn zf zs zt h r g ev ri ml so t2 0 := by
  obtain ⟨i0, S, hR, e0, rfl, rfl, e3, hn, hf, hs, ht, rfl, rfl, rfl, rfl, rfl, rfl, rfl, rfl⟩ := p1
  obtain ⟨f', v', w', hT, g1, g2, g3⟩ := p2
  obtain ⟨h1, h2, h3, h4⟩ := Rch_I hR
  have bb := I1_b h1
  have k2 := Tok_k hT (by omega)
  obtain ⟨o10, o11, o12, o13⟩ := I1_o h1
  have kk : kw = 2 := by omega
  rw [kk] at p4 p5
  have hb := p4.2.2.2.2
  rw [show bitI (S 10 + 2 * S 11 + 4 * S 12 + 8 * S 13) 2 = S 12 by exact bit_sum2 o10 o11 o12 o13] at hb
  have ht2 := p5.2.2.2.2
  rw [show bitI (S 10 + 2 * S 11 + 4 * S 12 + 8 * S 13) 2 = S 12 by exact bit_sum2 o10 o11 o12 o13, if_neg (by omega), show (2 : Int) ^ ((2 : Int)).toNat = 4 by decide] at ht2
  have st : stepA S kd pl f' kw v' w' = .inl (adv (up S 12 1) 4 f') := by
    rw [sA_0 e0]
    exact st0_t2 (by intro k1; have := Tok_6 hT (by omega); omega) kk (by omega)
  have e201 : (adv (up S 12 1) 4 f') 201 = S 201 := by rw [adv_n (by omega) (by omega), up_n (by omega)]
  exact ⟨i0 + 1, _, ⟨S, kd, pl, f', kw, v', w', hR, hT, st⟩, adv_0, (by rw [adv_1]; exact (g1 (by omega)).symm), (by rw [adv_n (by omega) (by omega), up_n (by omega)]), (by rw [adv_n (by omega) (by omega), up_n (by omega)]; exact e3), (fun j j0 j1 => by rw [adv_n (by omega) (by omega), up_n (by omega)]; exact hn j j0 j1), (fun j j0 j1 => by rw [adv_n (by omega) (by omega), up_n (by omega)]; exact hf j j0 j1), (fun j j0 j1 => by rw [adv_n (by omega) (by omega), up_n (by omega)]; exact hs j j0 j1), (fun j j0 j1 j2 => by rw [e201] at j1; rw [adv_n (by omega) (by omega), up_n (by omega)]; exact ht j j0 (by omega) j2), (by rw [adv_n (by omega) (by omega), up_n (by omega)]), (by rw [adv_n (by omega) (by omega), up_n (by omega)]), (by rw [adv_n (by omega) (by omega), up_n (by omega)]), (by rw [adv_n (by omega) (by omega), up_n (by omega)]), (by rw [adv_n (by omega) (by omega), up_n (by omega)]), (by rw [adv_n (by omega) (by omega), up_n (by omega)]), (by rw [adv_n (by omega) (by omega), up_n (by omega)]), (by rw [adv_n (by omega) (by omega), up_n (by omega), adv_n (by omega) (by omega), up_n (by omega), adv_n (by omega) (by omega), up_s, adv_n (by omega) (by omega), up_n (by omega)]; omega)⟩
theorem k_c0_again2 {z n p k zn zf zs zt h r g ev ri ml so t kd pl f kw v w : Int} (p1 : pPC z n 0 p k zn zf zs zt h r g ev ri ml so t 0) (p2 : pTokC z n 900 p kd pl f kw v w) (p3 : 2 ≤ kw ∧ kw ≤ 2) (p4 : pBit t kw 1) : pAns z n (-1 * pl + -1) 3 := by
  obtain ⟨i0, S, hR, e0, rfl, rfl, e3, hn, hf, hs, ht, rfl, rfl, rfl, rfl, rfl, rfl, rfl, rfl⟩ := p1
  obtain ⟨f', v', w', hT, g1, g2, g3⟩ := p2
  obtain ⟨h1, h2, h3, h4⟩ := Rch_I hR
  have bb := I1_b h1
  exact ans_mk hR hT (F := _) (by
    rw [sA_0 e0]
    exact st0_f2 (by intro k1; have := Tok_6 hT (by omega); omega) (by omega) (by
      obtain ⟨o10, o11, o12, o13⟩ := I1_o h1
      have hb := p4.2.2.2.2
      have kk : kw = 2 := by omega
      rw [kk, show bitI (S 10 + 2 * S 11 + 4 * S 12 + 8 * S 13) 2 = S 12 by exact bit_sum2 o10 o11 o12 o13] at hb
      exact hb.symm)) (by omega) rfl
theorem k_c0_first3 {z n p k zn zf zs zt h r g ev ri ml so t kd pl f kw v w t2 : Int} (p1 : pPC z n 0 p k zn zf zs zt h r g ev ri ml so t 0) (p2 : pTokC z n 900 p kd pl f kw v w) (p3 : 3 ≤ kw ∧ kw ≤ 3) (p4 : pBit t kw 0) (p5 : pSetb t2 t kw) : pPC z n 5 f k zn zf zs zt h r g ev ri ml so t2 0 := by
  obtain ⟨i0, S, hR, e0, rfl, rfl, e3, hn, hf, hs, ht, rfl, rfl, rfl, rfl, rfl, rfl, rfl, rfl⟩ := p1
  obtain ⟨f', v', w', hT, g1, g2, g3⟩ := p2
  obtain ⟨h1, h2, h3, h4⟩ := Rch_I hR
  have bb := I1_b h1
  have k2 := Tok_k hT (by omega)
  obtain ⟨o10, o11, o12, o13⟩ := I1_o h1
  have kk : kw = 3 := by omega
  rw [kk] at p4 p5
  have hb := p4.2.2.2.2
  rw [show bitI (S 10 + 2 * S 11 + 4 * S 12 + 8 * S 13) 3 = S 13 by exact bit_sum3 o10 o11 o12 o13] at hb
  have ht2 := p5.2.2.2.2
  rw [show bitI (S 10 + 2 * S 11 + 4 * S 12 + 8 * S 13) 3 = S 13 by exact bit_sum3 o10 o11 o12 o13, if_neg (by omega), show (2 : Int) ^ ((3 : Int)).toNat = 8 by decide] at ht2
  have st : stepA S kd pl f' kw v' w' = .inl (adv (up S 13 1) 5 f') := by
    rw [sA_0 e0]
    exact st0_t3 (by intro k1; have := Tok_6 hT (by omega); omega) kk (by omega)
  have e201 : (adv (up S 13 1) 5 f') 201 = S 201 := by rw [adv_n (by omega) (by omega), up_n (by omega)]
  exact ⟨i0 + 1, _, ⟨S, kd, pl, f', kw, v', w', hR, hT, st⟩, adv_0, (by rw [adv_1]; exact (g1 (by omega)).symm), (by rw [adv_n (by omega) (by omega), up_n (by omega)]), (by rw [adv_n (by omega) (by omega), up_n (by omega)]; exact e3), (fun j j0 j1 => by rw [adv_n (by omega) (by omega), up_n (by omega)]; exact hn j j0 j1), (fun j j0 j1 => by rw [adv_n (by omega) (by omega), up_n (by omega)]; exact hf j j0 j1), (fun j j0 j1 => by rw [adv_n (by omega) (by omega), up_n (by omega)]; exact hs j j0 j1), (fun j j0 j1 j2 => by rw [e201] at j1; rw [adv_n (by omega) (by omega), up_n (by omega)]; exact ht j j0 (by omega) j2), (by rw [adv_n (by omega) (by omega), up_n (by omega)]), (by rw [adv_n (by omega) (by omega), up_n (by omega)]), (by rw [adv_n (by omega) (by omega), up_n (by omega)]), (by rw [adv_n (by omega) (by omega), up_n (by omega)]), (by rw [adv_n (by omega) (by omega), up_n (by omega)]), (by rw [adv_n (by omega) (by omega), up_n (by omega)]), (by rw [adv_n (by omega) (by omega), up_n (by omega)]), (by rw [adv_n (by omega) (by omega), up_n (by omega), adv_n (by omega) (by omega), up_n (by omega), adv_n (by omega) (by omega), up_n (by omega), adv_n (by omega) (by omega), up_s]; omega)⟩
theorem k_c0_again3 {z n p k zn zf zs zt h r g ev ri ml so t kd pl f kw v w : Int} (p1 : pPC z n 0 p k zn zf zs zt h r g ev ri ml so t 0) (p2 : pTokC z n 900 p kd pl f kw v w) (p3 : 3 ≤ kw ∧ kw ≤ 3) (p4 : pBit t kw 1) : pAns z n (-1 * pl + -1) 3 := by
  obtain ⟨i0, S, hR, e0, rfl, rfl, e3, hn, hf, hs, ht, rfl, rfl, rfl, rfl, rfl, rfl, rfl, rfl⟩ := p1
  obtain ⟨f', v', w', hT, g1, g2, g3⟩ := p2
  obtain ⟨h1, h2, h3, h4⟩ := Rch_I hR
  have bb := I1_b h1
  exact ans_mk hR hT (F := _) (by
    rw [sA_0 e0]
    exact st0_f3 (by intro k1; have := Tok_6 hT (by omega); omega) (by omega) (by
      obtain ⟨o10, o11, o12, o13⟩ := I1_o h1
      have hb := p4.2.2.2.2
      have kk : kw = 3 := by omega
      rw [kk, show bitI (S 10 + 2 * S 11 + 4 * S 12 + 8 * S 13) 3 = S 13 by exact bit_sum3 o10 o11 o12 o13] at hb
      exact hb.symm)) (by omega) rfl
theorem k_c0_h {z n p k zn zf zs zt h r g ev ri ml so t kd pl f kw v w : Int} (p1 : pPC z n 0 p k zn zf zs zt h r g ev ri ml so t 0) (p2 : pTokC z n 900 p kd pl f kw v w) (p3 : 4 ≤ kw ∧ kw ≤ 4) (p4 : h + -4 ≤ 0) : pPC z n 6 f k zn zf zs zt h r g ev ri ml so t 0 := by
  obtain ⟨i0, S, hR, e0, rfl, rfl, e3, hn, hf, hs, ht, rfl, rfl, rfl, rfl, rfl, rfl, rfl, rfl⟩ := p1
  obtain ⟨f', v', w', hT, g1, g2, g3⟩ := p2
  obtain ⟨h1, h2, h3, h4⟩ := Rch_I hR
  have bb := I1_b h1
  have k2 := Tok_k hT (by omega)
  have st : stepA S kd pl f' kw v' w' = .inl (adv S 6 f') := by
    rw [sA_0 e0]
    exact st0_t4 (by intro k1; have := Tok_6 hT (by omega); omega) (by omega) (by omega)
  have e201 : (adv S 6 f') 201 = S 201 := by rw [adv_n (by omega) (by omega)]
  exact ⟨i0 + 1, _, ⟨S, kd, pl, f', kw, v', w', hR, hT, st⟩, adv_0, (by rw [adv_1]; exact (g1 (by omega)).symm), (by rw [adv_n (by omega) (by omega)]), (by rw [adv_n (by omega) (by omega)]; exact e3), (fun j j0 j1 => by rw [adv_n (by omega) (by omega)]; exact hn j j0 j1), (fun j j0 j1 => by rw [adv_n (by omega) (by omega)]; exact hf j j0 j1), (fun j j0 j1 => by rw [adv_n (by omega) (by omega)]; exact hs j j0 j1), (fun j j0 j1 j2 => by rw [e201] at j1; rw [adv_n (by omega) (by omega)]; exact ht j j0 (by omega) j2), (by rw [adv_n (by omega) (by omega)]), (by rw [adv_n (by omega) (by omega)]), (by rw [adv_n (by omega) (by omega)]), (by rw [adv_n (by omega) (by omega)]), (by rw [adv_n (by omega) (by omega)]), (by rw [adv_n (by omega) (by omega)]), (by rw [adv_n (by omega) (by omega)]), (by rw [adv_n (by omega) (by omega), adv_n (by omega) (by omega), adv_n (by omega) (by omega), adv_n (by omega) (by omega)])⟩
theorem k_c0_many_h {z n p k zn zf zs zt h r g ev ri ml so t kd pl f kw v w : Int} (p1 : pPC z n 0 p k zn zf zs zt h r g ev ri ml so t 0) (p2 : pTokC z n 900 p kd pl f kw v w) (p3 : 4 ≤ kw ∧ kw ≤ 4) (p4 : -1 * h + 5 ≤ 0) : pAns z n (-1 * pl + -1) 4 := by
  obtain ⟨i0, S, hR, e0, rfl, rfl, e3, hn, hf, hs, ht, rfl, rfl, rfl, rfl, rfl, rfl, rfl, rfl⟩ := p1
  obtain ⟨f', v', w', hT, g1, g2, g3⟩ := p2
  obtain ⟨h1, h2, h3, h4⟩ := Rch_I hR
  have bb := I1_b h1
  exact ans_mk hR hT (F := _) (by
    rw [sA_0 e0]
    exact st0_f4 (by intro k1; have := Tok_6 hT (by omega); omega) (by omega) (by omega)) (by omega) rfl
theorem k_c0_r {z n p k zn zf zs zt h r g ev ri ml so t kd pl f kw v w : Int} (p1 : pPC z n 0 p k zn zf zs zt h r g ev ri ml so t 0) (p2 : pTokC z n 900 p kd pl f kw v w) (p3 : 5 ≤ kw ∧ kw ≤ 5) (p4 : r + -7 ≤ 0) : pPC z n 9 f k zn zf zs zt h r g ev ri ml so t 0 := by
  obtain ⟨i0, S, hR, e0, rfl, rfl, e3, hn, hf, hs, ht, rfl, rfl, rfl, rfl, rfl, rfl, rfl, rfl⟩ := p1
  obtain ⟨f', v', w', hT, g1, g2, g3⟩ := p2
  obtain ⟨h1, h2, h3, h4⟩ := Rch_I hR
  have bb := I1_b h1
  have k2 := Tok_k hT (by omega)
  have st : stepA S kd pl f' kw v' w' = .inl (adv S 9 f') := by
    rw [sA_0 e0]
    exact st0_t5 (by intro k1; have := Tok_6 hT (by omega); omega) (by omega) (by omega)
  have e201 : (adv S 9 f') 201 = S 201 := by rw [adv_n (by omega) (by omega)]
  exact ⟨i0 + 1, _, ⟨S, kd, pl, f', kw, v', w', hR, hT, st⟩, adv_0, (by rw [adv_1]; exact (g1 (by omega)).symm), (by rw [adv_n (by omega) (by omega)]), (by rw [adv_n (by omega) (by omega)]; exact e3), (fun j j0 j1 => by rw [adv_n (by omega) (by omega)]; exact hn j j0 j1), (fun j j0 j1 => by rw [adv_n (by omega) (by omega)]; exact hf j j0 j1), (fun j j0 j1 => by rw [adv_n (by omega) (by omega)]; exact hs j j0 j1), (fun j j0 j1 j2 => by rw [e201] at j1; rw [adv_n (by omega) (by omega)]; exact ht j j0 (by omega) j2), (by rw [adv_n (by omega) (by omega)]), (by rw [adv_n (by omega) (by omega)]), (by rw [adv_n (by omega) (by omega)]), (by rw [adv_n (by omega) (by omega)]), (by rw [adv_n (by omega) (by omega)]), (by rw [adv_n (by omega) (by omega)]), (by rw [adv_n (by omega) (by omega)]), (by rw [adv_n (by omega) (by omega), adv_n (by omega) (by omega), adv_n (by omega) (by omega), adv_n (by omega) (by omega)])⟩
theorem k_c0_many_r {z n p k zn zf zs zt h r g ev ri ml so t kd pl f kw v w : Int} (p1 : pPC z n 0 p k zn zf zs zt h r g ev ri ml so t 0) (p2 : pTokC z n 900 p kd pl f kw v w) (p3 : 5 ≤ kw ∧ kw ≤ 5) (p4 : -1 * r + 8 ≤ 0) : pAns z n (-1 * pl + -1) 4 := by
  obtain ⟨i0, S, hR, e0, rfl, rfl, e3, hn, hf, hs, ht, rfl, rfl, rfl, rfl, rfl, rfl, rfl, rfl⟩ := p1
  obtain ⟨f', v', w', hT, g1, g2, g3⟩ := p2
  obtain ⟨h1, h2, h3, h4⟩ := Rch_I hR
  have bb := I1_b h1
  exact ans_mk hR hT (F := _) (by
    rw [sA_0 e0]
    exact st0_f5 (by intro k1; have := Tok_6 hT (by omega); omega) (by omega) (by omega)) (by omega) rfl
theorem k_c0_g {z n p k zn zf zs zt h r g ev ri ml so t kd pl f kw v w : Int} (p1 : pPC z n 0 p k zn zf zs zt h r g ev ri ml so t 0) (p2 : pTokC z n 900 p kd pl f kw v w) (p3 : 6 ≤ kw ∧ kw ≤ 6) (p4 : g + -5 ≤ 0) : pPC z n 13 f k zn zf zs zt h r g ev ri ml so t 0 := by
  obtain ⟨i0, S, hR, e0, rfl, rfl, e3, hn, hf, hs, ht, rfl, rfl, rfl, rfl, rfl, rfl, rfl, rfl⟩ := p1
  obtain ⟨f', v', w', hT, g1, g2, g3⟩ := p2
  obtain ⟨h1, h2, h3, h4⟩ := Rch_I hR
  have bb := I1_b h1
  have k2 := Tok_k hT (by omega)
  have st : stepA S kd pl f' kw v' w' = .inl (adv S 13 f') := by
    rw [sA_0 e0]
    exact st0_t6 (by intro k1; have := Tok_6 hT (by omega); omega) (by omega) (by omega)
  have e201 : (adv S 13 f') 201 = S 201 := by rw [adv_n (by omega) (by omega)]
  exact ⟨i0 + 1, _, ⟨S, kd, pl, f', kw, v', w', hR, hT, st⟩, adv_0, (by rw [adv_1]; exact (g1 (by omega)).symm), (by rw [adv_n (by omega) (by omega)]), (by rw [adv_n (by omega) (by omega)]; exact e3), (fun j j0 j1 => by rw [adv_n (by omega) (by omega)]; exact hn j j0 j1), (fun j j0 j1 => by rw [adv_n (by omega) (by omega)]; exact hf j j0 j1), (fun j j0 j1 => by rw [adv_n (by omega) (by omega)]; exact hs j j0 j1), (fun j j0 j1 j2 => by rw [e201] at j1; rw [adv_n (by omega) (by omega)]; exact ht j j0 (by omega) j2), (by rw [adv_n (by omega) (by omega)]), (by rw [adv_n (by omega) (by omega)]), (by rw [adv_n (by omega) (by omega)]), (by rw [adv_n (by omega) (by omega)]), (by rw [adv_n (by omega) (by omega)]), (by rw [adv_n (by omega) (by omega)]), (by rw [adv_n (by omega) (by omega)]), (by rw [adv_n (by omega) (by omega), adv_n (by omega) (by omega), adv_n (by omega) (by omega), adv_n (by omega) (by omega)])⟩
theorem k_c0_many_g {z n p k zn zf zs zt h r g ev ri ml so t kd pl f kw v w : Int} (p1 : pPC z n 0 p k zn zf zs zt h r g ev ri ml so t 0) (p2 : pTokC z n 900 p kd pl f kw v w) (p3 : 6 ≤ kw ∧ kw ≤ 6) (p4 : -1 * g + 6 ≤ 0) : pAns z n (-1 * pl + -1) 4 := by
  obtain ⟨i0, S, hR, e0, rfl, rfl, e3, hn, hf, hs, ht, rfl, rfl, rfl, rfl, rfl, rfl, rfl, rfl⟩ := p1
  obtain ⟨f', v', w', hT, g1, g2, g3⟩ := p2
  obtain ⟨h1, h2, h3, h4⟩ := Rch_I hR
  have bb := I1_b h1
  exact ans_mk hR hT (F := _) (by
    rw [sA_0 e0]
    exact st0_f6 (by intro k1; have := Tok_6 hT (by omega); omega) (by omega) (by omega)) (by omega) rfl
theorem k_c0_k7 {z n p k zn zf zs zt h r g ev ri ml so t kd pl f kw v w : Int} (p1 : pPC z n 0 p k zn zf zs zt h r g ev ri ml so t 0) (p2 : pTokC z n 900 p kd pl f kw v w) (p3 : 7 ≤ kw ∧ kw ≤ 7) : pPC z n 16 f k zn zf zs zt h r g ev ri ml so t 0 := by
  obtain ⟨i0, S, hR, e0, rfl, rfl, e3, hn, hf, hs, ht, rfl, rfl, rfl, rfl, rfl, rfl, rfl, rfl⟩ := p1
  obtain ⟨f', v', w', hT, g1, g2, g3⟩ := p2
  obtain ⟨h1, h2, h3, h4⟩ := Rch_I hR
  have bb := I1_b h1
  have k2 := Tok_k hT (by omega)
  have st : stepA S kd pl f' kw v' w' = .inl (adv S 16 f') := by
    rw [sA_0 e0]
    exact st0_t7 (by intro k1; have := Tok_6 hT (by omega); omega) (by omega)
  have e201 : (adv S 16 f') 201 = S 201 := by rw [adv_n (by omega) (by omega)]
  exact ⟨i0 + 1, _, ⟨S, kd, pl, f', kw, v', w', hR, hT, st⟩, adv_0, (by rw [adv_1]; exact (g1 (by omega)).symm), (by rw [adv_n (by omega) (by omega)]), (by rw [adv_n (by omega) (by omega)]; exact e3), (fun j j0 j1 => by rw [adv_n (by omega) (by omega)]; exact hn j j0 j1), (fun j j0 j1 => by rw [adv_n (by omega) (by omega)]; exact hf j j0 j1), (fun j j0 j1 => by rw [adv_n (by omega) (by omega)]; exact hs j j0 j1), (fun j j0 j1 j2 => by rw [e201] at j1; rw [adv_n (by omega) (by omega)]; exact ht j j0 (by omega) j2), (by rw [adv_n (by omega) (by omega)]), (by rw [adv_n (by omega) (by omega)]), (by rw [adv_n (by omega) (by omega)]), (by rw [adv_n (by omega) (by omega)]), (by rw [adv_n (by omega) (by omega)]), (by rw [adv_n (by omega) (by omega)]), (by rw [adv_n (by omega) (by omega)]), (by rw [adv_n (by omega) (by omega), adv_n (by omega) (by omega), adv_n (by omega) (by omega), adv_n (by omega) (by omega)])⟩
theorem k_c0_k8 {z n p k zn zf zs zt h r g ev ri ml so t kd pl f kw v w : Int} (p1 : pPC z n 0 p k zn zf zs zt h r g ev ri ml so t 0) (p2 : pTokC z n 900 p kd pl f kw v w) (p3 : 8 ≤ kw ∧ kw ≤ 8) : pPC z n 18 f k zn zf zs zt h r g ev ri ml so t 0 := by
  obtain ⟨i0, S, hR, e0, rfl, rfl, e3, hn, hf, hs, ht, rfl, rfl, rfl, rfl, rfl, rfl, rfl, rfl⟩ := p1
  obtain ⟨f', v', w', hT, g1, g2, g3⟩ := p2
  obtain ⟨h1, h2, h3, h4⟩ := Rch_I hR
  have bb := I1_b h1
  have k2 := Tok_k hT (by omega)
  have st : stepA S kd pl f' kw v' w' = .inl (adv S 18 f') := by
    rw [sA_0 e0]
    exact st0_t8 (by intro k1; have := Tok_6 hT (by omega); omega) (by omega)
  have e201 : (adv S 18 f') 201 = S 201 := by rw [adv_n (by omega) (by omega)]
  exact ⟨i0 + 1, _, ⟨S, kd, pl, f', kw, v', w', hR, hT, st⟩, adv_0, (by rw [adv_1]; exact (g1 (by omega)).symm), (by rw [adv_n (by omega) (by omega)]), (by rw [adv_n (by omega) (by omega)]; exact e3), (fun j j0 j1 => by rw [adv_n (by omega) (by omega)]; exact hn j j0 j1), (fun j j0 j1 => by rw [adv_n (by omega) (by omega)]; exact hf j j0 j1), (fun j j0 j1 => by rw [adv_n (by omega) (by omega)]; exact hs j j0 j1), (fun j j0 j1 j2 => by rw [e201] at j1; rw [adv_n (by omega) (by omega)]; exact ht j j0 (by omega) j2), (by rw [adv_n (by omega) (by omega)]), (by rw [adv_n (by omega) (by omega)]), (by rw [adv_n (by omega) (by omega)]), (by rw [adv_n (by omega) (by omega)]), (by rw [adv_n (by omega) (by omega)]), (by rw [adv_n (by omega) (by omega)]), (by rw [adv_n (by omega) (by omega)]), (by rw [adv_n (by omega) (by omega), adv_n (by omega) (by omega), adv_n (by omega) (by omega), adv_n (by omega) (by omega)])⟩
theorem k_c1_ok {z n p k zn zf zs zt h r g ev ri ml so t kd pl f kw v w : Int} (p1 : pPC z n 1 p k zn zf zs zt h r g ev ri ml so t 0) (p2 : pTokC z n 900 p kd pl f kw v w) (p3 : 3 ≤ kd ∧ kd ≤ 3) (p4 : 0 ≤ v ∧ v ≤ 99) : pPC z n 30 f k zn zf zs zt h r g ev ri ml so t 0 := by
  obtain ⟨i0, S, hR, e0, rfl, rfl, e3, hn, hf, hs, ht, rfl, rfl, rfl, rfl, rfl, rfl, rfl, rfl⟩ := p1
  obtain ⟨f', v', w', hT, g1, g2, g3⟩ := p2
  obtain ⟨h1, h2, h3, h4⟩ := Rch_I hR
  have bb := I1_b h1
  have k3 : kd = 3 := by omega
  have ev := g2 (Or.inl k3)
  have st : stepA S kd pl f' kw v' w' = .inl (adv (up S 207 v') 30 f') := by
    rw [sA_1 e0]
    exact stNum_t k3 (by omega) (by omega)
  have e201 : (adv (up S 207 v') 30 f') 201 = S 201 := by rw [adv_n (by omega) (by omega), up_n (by omega)]
  exact ⟨i0 + 1, _, ⟨S, kd, pl, f', kw, v', w', hR, hT, st⟩, adv_0, (by rw [adv_1]; exact (g1 (by omega)).symm), (by rw [adv_n (by omega) (by omega), up_n (by omega)]), (by rw [adv_n (by omega) (by omega), up_n (by omega)]; exact e3), (fun j j0 j1 => by rw [adv_n (by omega) (by omega), up_n (by omega)]; exact hn j j0 j1), (fun j j0 j1 => by rw [adv_n (by omega) (by omega), up_n (by omega)]; exact hf j j0 j1), (fun j j0 j1 => by rw [adv_n (by omega) (by omega), up_n (by omega)]; exact hs j j0 j1), (fun j j0 j1 j2 => by rw [e201] at j1; rw [adv_n (by omega) (by omega), up_n (by omega)]; exact ht j j0 (by omega) j2), (by rw [adv_n (by omega) (by omega), up_n (by omega)]), (by rw [adv_n (by omega) (by omega), up_n (by omega)]), (by rw [adv_n (by omega) (by omega), up_n (by omega)]), (by rw [adv_n (by omega) (by omega), up_n (by omega)]), (by rw [adv_n (by omega) (by omega), up_n (by omega)]), (by rw [adv_n (by omega) (by omega), up_n (by omega)]), (by rw [adv_n (by omega) (by omega), up_n (by omega)]), (by rw [adv_n (by omega) (by omega), up_n (by omega), adv_n (by omega) (by omega), up_n (by omega), adv_n (by omega) (by omega), up_n (by omega), adv_n (by omega) (by omega), up_n (by omega)])⟩
theorem k_c1_bad1 {z n p k zn zf zs zt h r g ev ri ml so t kd pl f kw v w : Int} (p1 : pPC z n 1 p k zn zf zs zt h r g ev ri ml so t 0) (p2 : pTokC z n 900 p kd pl f kw v w) (p3 : kd ≠ 3) : pAns z n (-1 * pl + -1) 1 := by
  obtain ⟨i0, S, hR, e0, rfl, rfl, e3, hn, hf, hs, ht, rfl, rfl, rfl, rfl, rfl, rfl, rfl, rfl⟩ := p1
  obtain ⟨f', v', w', hT, g1, g2, g3⟩ := p2
  obtain ⟨h1, h2, h3, h4⟩ := Rch_I hR
  have bb := I1_b h1
  exact ans_mk hR hT (F := _) (by
    rw [sA_1 e0]
    exact stNum_k p3) (by omega) rfl
theorem k_c1_bad3 {z n p k zn zf zs zt h r g ev ri ml so t kd pl f kw v w : Int} (p1 : pPC z n 1 p k zn zf zs zt h r g ev ri ml so t 0) (p2 : pTokC z n 900 p kd pl f kw v w) (p3 : 3 ≤ kd ∧ kd ≤ 3) (p4 : pWin v 0 99 0) : pAns z n (-1 * pl + -1) 2 := by
  obtain ⟨i0, S, hR, e0, rfl, rfl, e3, hn, hf, hs, ht, rfl, rfl, rfl, rfl, rfl, rfl, rfl, rfl⟩ := p1
  obtain ⟨f', v', w', hT, g1, g2, g3⟩ := p2
  obtain ⟨h1, h2, h3, h4⟩ := Rch_I hR
  have bb := I1_b h1
  exact ans_mk hR hT (F := _) (by
    rw [sA_1 e0]
    exact stNum_v (by omega) (by rw [← g2 (Or.inl (by omega))]; exact iff1_f p4 rfl)) (by omega) rfl
theorem k_c2_ok {z n p k zn zf zs zt h r g ev ri ml so t kd pl f kw v w : Int} (p1 : pPC z n 2 p k zn zf zs zt h r g ev ri ml so t 0) (p2 : pTokC z n 900 p kd pl f kw v w) (p3 : 3 ≤ kd ∧ kd ≤ 3) (p4 : 1 ≤ v ∧ v ≤ 30) : pPC z n 3 f k zn zf zs zt h r g v ri ml so t 0 := by
  obtain ⟨i0, S, hR, e0, rfl, rfl, e3, hn, hf, hs, ht, rfl, rfl, rfl, rfl, rfl, rfl, rfl, rfl⟩ := p1
  obtain ⟨f', v', w', hT, g1, g2, g3⟩ := p2
  obtain ⟨h1, h2, h3, h4⟩ := Rch_I hR
  have bb := I1_b h1
  have k3 : kd = 3 := by omega
  have ev := g2 (Or.inl k3)
  have st : stepA S kd pl f' kw v' w' = .inl (adv (up S 203 v') 3 f') := by
    rw [sA_2 e0]
    exact stNum_t k3 (by omega) (by omega)
  have e201 : (adv (up S 203 v') 3 f') 201 = S 201 := by rw [adv_n (by omega) (by omega), up_n (by omega)]
  exact ⟨i0 + 1, _, ⟨S, kd, pl, f', kw, v', w', hR, hT, st⟩, adv_0, (by rw [adv_1]; exact (g1 (by omega)).symm), (by rw [adv_n (by omega) (by omega), up_n (by omega)]), (by rw [adv_n (by omega) (by omega), up_n (by omega)]; exact e3), (fun j j0 j1 => by rw [adv_n (by omega) (by omega), up_n (by omega)]; exact hn j j0 j1), (fun j j0 j1 => by rw [adv_n (by omega) (by omega), up_n (by omega)]; exact hf j j0 j1), (fun j j0 j1 => by rw [adv_n (by omega) (by omega), up_n (by omega)]; exact hs j j0 j1), (fun j j0 j1 j2 => by rw [e201] at j1; rw [adv_n (by omega) (by omega), up_n (by omega)]; exact ht j j0 (by omega) j2), (by rw [adv_n (by omega) (by omega), up_n (by omega)]), (by rw [adv_n (by omega) (by omega), up_n (by omega)]), (by rw [adv_n (by omega) (by omega), up_n (by omega)]), (by rw [adv_n (by omega) (by omega), up_s]; exact ev), (by rw [adv_n (by omega) (by omega), up_n (by omega)]), (by rw [adv_n (by omega) (by omega), up_n (by omega)]), (by rw [adv_n (by omega) (by omega), up_n (by omega)]), (by rw [adv_n (by omega) (by omega), up_n (by omega), adv_n (by omega) (by omega), up_n (by omega), adv_n (by omega) (by omega), up_n (by omega), adv_n (by omega) (by omega), up_n (by omega)])⟩
theorem k_c2_bad1 {z n p k zn zf zs zt h r g ev ri ml so t kd pl f kw v w : Int} (p1 : pPC z n 2 p k zn zf zs zt h r g ev ri ml so t 0) (p2 : pTokC z n 900 p kd pl f kw v w) (p3 : kd ≠ 3) : pAns z n (-1 * pl + -1) 1 := by
  obtain ⟨i0, S, hR, e0, rfl, rfl, e3, hn, hf, hs, ht, rfl, rfl, rfl, rfl, rfl, rfl, rfl, rfl⟩ := p1
  obtain ⟨f', v', w', hT, g1, g2, g3⟩ := p2
  obtain ⟨h1, h2, h3, h4⟩ := Rch_I hR
  have bb := I1_b h1
  exact ans_mk hR hT (F := _) (by
    rw [sA_2 e0]
    exact stNum_k p3) (by omega) rfl
theorem k_c2_bad3 {z n p k zn zf zs zt h r g ev ri ml so t kd pl f kw v w : Int} (p1 : pPC z n 2 p k zn zf zs zt h r g ev ri ml so t 0) (p2 : pTokC z n 900 p kd pl f kw v w) (p3 : 3 ≤ kd ∧ kd ≤ 3) (p4 : pWin v 1 30 0) : pAns z n (-1 * pl + -1) 2 := by
  obtain ⟨i0, S, hR, e0, rfl, rfl, e3, hn, hf, hs, ht, rfl, rfl, rfl, rfl, rfl, rfl, rfl, rfl⟩ := p1
  obtain ⟨f', v', w', hT, g1, g2, g3⟩ := p2
  obtain ⟨h1, h2, h3, h4⟩ := Rch_I hR
  have bb := I1_b h1
  exact ans_mk hR hT (F := _) (by
    rw [sA_2 e0]
    exact stNum_v (by omega) (by rw [← g2 (Or.inl (by omega))]; exact iff1_f p4 rfl)) (by omega) rfl
theorem k_c3_ok {z n p k zn zf zs zt h r g ev ri ml so t kd pl f kw v w : Int} (p1 : pPC z n 3 p k zn zf zs zt h r g ev ri ml so t 0) (p2 : pTokC z n 900 p kd pl f kw v w) (p3 : 3 ≤ kd ∧ kd ≤ 3) (p4 : 0 ≤ v ∧ v ≤ 9) : pPC z n 30 f k zn zf zs zt h r g ev v ml so t 0 := by
  obtain ⟨i0, S, hR, e0, rfl, rfl, e3, hn, hf, hs, ht, rfl, rfl, rfl, rfl, rfl, rfl, rfl, rfl⟩ := p1
  obtain ⟨f', v', w', hT, g1, g2, g3⟩ := p2
  obtain ⟨h1, h2, h3, h4⟩ := Rch_I hR
  have bb := I1_b h1
  have k3 : kd = 3 := by omega
  have ev := g2 (Or.inl k3)
  have st : stepA S kd pl f' kw v' w' = .inl (adv (up S 204 v') 30 f') := by
    rw [sA_3 e0]
    exact stNum_t k3 (by omega) (by omega)
  have e201 : (adv (up S 204 v') 30 f') 201 = S 201 := by rw [adv_n (by omega) (by omega), up_n (by omega)]
  exact ⟨i0 + 1, _, ⟨S, kd, pl, f', kw, v', w', hR, hT, st⟩, adv_0, (by rw [adv_1]; exact (g1 (by omega)).symm), (by rw [adv_n (by omega) (by omega), up_n (by omega)]), (by rw [adv_n (by omega) (by omega), up_n (by omega)]; exact e3), (fun j j0 j1 => by rw [adv_n (by omega) (by omega), up_n (by omega)]; exact hn j j0 j1), (fun j j0 j1 => by rw [adv_n (by omega) (by omega), up_n (by omega)]; exact hf j j0 j1), (fun j j0 j1 => by rw [adv_n (by omega) (by omega), up_n (by omega)]; exact hs j j0 j1), (fun j j0 j1 j2 => by rw [e201] at j1; rw [adv_n (by omega) (by omega), up_n (by omega)]; exact ht j j0 (by omega) j2), (by rw [adv_n (by omega) (by omega), up_n (by omega)]), (by rw [adv_n (by omega) (by omega), up_n (by omega)]), (by rw [adv_n (by omega) (by omega), up_n (by omega)]), (by rw [adv_n (by omega) (by omega), up_n (by omega)]), (by rw [adv_n (by omega) (by omega), up_s]; exact ev), (by rw [adv_n (by omega) (by omega), up_n (by omega)]), (by rw [adv_n (by omega) (by omega), up_n (by omega)]), (by rw [adv_n (by omega) (by omega), up_n (by omega), adv_n (by omega) (by omega), up_n (by omega), adv_n (by omega) (by omega), up_n (by omega), adv_n (by omega) (by omega), up_n (by omega)])⟩
theorem k_c3_bad1 {z n p k zn zf zs zt h r g ev ri ml so t kd pl f kw v w : Int} (p1 : pPC z n 3 p k zn zf zs zt h r g ev ri ml so t 0) (p2 : pTokC z n 900 p kd pl f kw v w) (p3 : kd ≠ 3) : pAns z n (-1 * pl + -1) 1 := by
  obtain ⟨i0, S, hR, e0, rfl, rfl, e3, hn, hf, hs, ht, rfl, rfl, rfl, rfl, rfl, rfl, rfl, rfl⟩ := p1
  obtain ⟨f', v', w', hT, g1, g2, g3⟩ := p2
  obtain ⟨h1, h2, h3, h4⟩ := Rch_I hR
  have bb := I1_b h1
  exact ans_mk hR hT (F := _) (by
    rw [sA_3 e0]
    exact stNum_k p3) (by omega) rfl
theorem k_c3_bad3 {z n p k zn zf zs zt h r g ev ri ml so t kd pl f kw v w : Int} (p1 : pPC z n 3 p k zn zf zs zt h r g ev ri ml so t 0) (p2 : pTokC z n 900 p kd pl f kw v w) (p3 : 3 ≤ kd ∧ kd ≤ 3) (p4 : pWin v 0 9 0) : pAns z n (-1 * pl + -1) 2 := by
  obtain ⟨i0, S, hR, e0, rfl, rfl, e3, hn, hf, hs, ht, rfl, rfl, rfl, rfl, rfl, rfl, rfl, rfl⟩ := p1
  obtain ⟨f', v', w', hT, g1, g2, g3⟩ := p2
  obtain ⟨h1, h2, h3, h4⟩ := Rch_I hR
  have bb := I1_b h1
  exact ans_mk hR hT (F := _) (by
    rw [sA_3 e0]
    exact stNum_v (by omega) (by rw [← g2 (Or.inl (by omega))]; exact iff1_f p4 rfl)) (by omega) rfl
theorem k_c4_ok {z n p k zn zf zs zt h r g ev ri ml so t kd pl f kw v w : Int} (p1 : pPC z n 4 p k zn zf zs zt h r g ev ri ml so t 0) (p2 : pTokC z n 900 p kd pl f kw v w) (p3 : 3 ≤ kd ∧ kd ≤ 3) (p4 : 0 ≤ v ∧ v ≤ 99) : pPC z n 30 f k zn zf zs zt h r g ev ri v so t 0 := by
  obtain ⟨i0, S, hR, e0, rfl, rfl, e3, hn, hf, hs, ht, rfl, rfl, rfl, rfl, rfl, rfl, rfl, rfl⟩ := p1
  obtain ⟨f', v', w', hT, g1, g2, g3⟩ := p2
  obtain ⟨h1, h2, h3, h4⟩ := Rch_I hR
  have bb := I1_b h1
  have k3 : kd = 3 := by omega
  have ev := g2 (Or.inl k3)
  have st : stepA S kd pl f' kw v' w' = .inl (adv (up S 205 v') 30 f') := by
    rw [sA_4 e0]
    exact stNum_t k3 (by omega) (by omega)
  have e201 : (adv (up S 205 v') 30 f') 201 = S 201 := by rw [adv_n (by omega) (by omega), up_n (by omega)]
  exact ⟨i0 + 1, _, ⟨S, kd, pl, f', kw, v', w', hR, hT, st⟩, adv_0, (by rw [adv_1]; exact (g1 (by omega)).symm), (by rw [adv_n (by omega) (by omega), up_n (by omega)]), (by rw [adv_n (by omega) (by omega), up_n (by omega)]; exact e3), (fun j j0 j1 => by rw [adv_n (by omega) (by omega), up_n (by omega)]; exact hn j j0 j1), (fun j j0 j1 => by rw [adv_n (by omega) (by omega), up_n (by omega)]; exact hf j j0 j1), (fun j j0 j1 => by rw [adv_n (by omega) (by omega), up_n (by omega)]; exact hs j j0 j1), (fun j j0 j1 j2 => by rw [e201] at j1; rw [adv_n (by omega) (by omega), up_n (by omega)]; exact ht j j0 (by omega) j2), (by rw [adv_n (by omega) (by omega), up_n (by omega)]), (by rw [adv_n (by omega) (by omega), up_n (by omega)]), (by rw [adv_n (by omega) (by omega), up_n (by omega)]), (by rw [adv_n (by omega) (by omega), up_n (by omega)]), (by rw [adv_n (by omega) (by omega), up_n (by omega)]), (by rw [adv_n (by omega) (by omega), up_s]; exact ev), (by rw [adv_n (by omega) (by omega), up_n (by omega)]), (by rw [adv_n (by omega) (by omega), up_n (by omega), adv_n (by omega) (by omega), up_n (by omega), adv_n (by omega) (by omega), up_n (by omega), adv_n (by omega) (by omega), up_n (by omega)])⟩
theorem k_c4_bad1 {z n p k zn zf zs zt h r g ev ri ml so t kd pl f kw v w : Int} (p1 : pPC z n 4 p k zn zf zs zt h r g ev ri ml so t 0) (p2 : pTokC z n 900 p kd pl f kw v w) (p3 : kd ≠ 3) : pAns z n (-1 * pl + -1) 1 := by
  obtain ⟨i0, S, hR, e0, rfl, rfl, e3, hn, hf, hs, ht, rfl, rfl, rfl, rfl, rfl, rfl, rfl, rfl⟩ := p1
  obtain ⟨f', v', w', hT, g1, g2, g3⟩ := p2
  obtain ⟨h1, h2, h3, h4⟩ := Rch_I hR
  have bb := I1_b h1
  exact ans_mk hR hT (F := _) (by
    rw [sA_4 e0]
    exact stNum_k p3) (by omega) rfl
theorem k_c4_bad3 {z n p k zn zf zs zt h r g ev ri ml so t kd pl f kw v w : Int} (p1 : pPC z n 4 p k zn zf zs zt h r g ev ri ml so t 0) (p2 : pTokC z n 900 p kd pl f kw v w) (p3 : 3 ≤ kd ∧ kd ≤ 3) (p4 : pWin v 0 99 0) : pAns z n (-1 * pl + -1) 2 := by
  obtain ⟨i0, S, hR, e0, rfl, rfl, e3, hn, hf, hs, ht, rfl, rfl, rfl, rfl, rfl, rfl, rfl, rfl⟩ := p1
  obtain ⟨f', v', w', hT, g1, g2, g3⟩ := p2
  obtain ⟨h1, h2, h3, h4⟩ := Rch_I hR
  have bb := I1_b h1
  exact ans_mk hR hT (F := _) (by
    rw [sA_4 e0]
    exact stNum_v (by omega) (by rw [← g2 (Or.inl (by omega))]; exact iff1_f p4 rfl)) (by omega) rfl
theorem k_c5_ok {z n p k zn zf zs zt h r g ev ri ml so t kd pl f kw v w : Int} (p1 : pPC z n 5 p k zn zf zs zt h r g ev ri ml so t 0) (p2 : pTokC z n 900 p kd pl f kw v w) (p3 : 3 ≤ kd ∧ kd ≤ 3) (p4 : 0 ≤ v ∧ v ≤ 12) : pPC z n 30 f k zn zf zs zt h r g ev ri ml v t 0 := by
  obtain ⟨i0, S, hR, e0, rfl, rfl, e3, hn, hf, hs, ht, rfl, rfl, rfl, rfl, rfl, rfl, rfl, rfl⟩ := p1
  obtain ⟨f', v', w', hT, g1, g2, g3⟩ := p2
  obtain ⟨h1, h2, h3, h4⟩ := Rch_I hR
  have bb := I1_b h1
  have k3 : kd = 3 := by omega
  have ev := g2 (Or.inl k3)
  have st : stepA S kd pl f' kw v' w' = .inl (adv (up S 206 v') 30 f') := by
    rw [sA_5 e0]
    exact stNum_t k3 (by omega) (by omega)
  have e201 : (adv (up S 206 v') 30 f') 201 = S 201 := by rw [adv_n (by omega) (by omega), up_n (by omega)]
  exact ⟨i0 + 1, _, ⟨S, kd, pl, f', kw, v', w', hR, hT, st⟩, adv_0, (by rw [adv_1]; exact (g1 (by omega)).symm), (by rw [adv_n (by omega) (by omega), up_n (by omega)]), (by rw [adv_n (by omega) (by omega), up_n (by omega)]; exact e3), (fun j j0 j1 => by rw [adv_n (by omega) (by omega), up_n (by omega)]; exact hn j j0 j1), (fun j j0 j1 => by rw [adv_n (by omega) (by omega), up_n (by omega)]; exact hf j j0 j1), (fun j j0 j1 => by rw [adv_n (by omega) (by omega), up_n (by omega)]; exact hs j j0 j1), (fun j j0 j1 j2 => by rw [e201] at j1; rw [adv_n (by omega) (by omega), up_n (by omega)]; exact ht j j0 (by omega) j2), (by rw [adv_n (by omega) (by omega), up_n (by omega)]), (by rw [adv_n (by omega) (by omega), up_n (by omega)]), (by rw [adv_n (by omega) (by omega), up_n (by omega)]), (by rw [adv_n (by omega) (by omega), up_n (by omega)]), (by rw [adv_n (by omega) (by omega), up_n (by omega)]), (by rw [adv_n (by omega) (by omega), up_n (by omega)]), (by rw [adv_n (by omega) (by omega), up_s]; exact ev), (by rw [adv_n (by omega) (by omega), up_n (by omega), adv_n (by omega) (by omega), up_n (by omega), adv_n (by omega) (by omega), up_n (by omega), adv_n (by omega) (by omega), up_n (by omega)])⟩
theorem k_c5_bad1 {z n p k zn zf zs zt h r g ev ri ml so t kd pl f kw v w : Int} (p1 : pPC z n 5 p k zn zf zs zt h r g ev ri ml so t 0) (p2 : pTokC z n 900 p kd pl f kw v w) (p3 : kd ≠ 3) : pAns z n (-1 * pl + -1) 1 := by
  obtain ⟨i0, S, hR, e0, rfl, rfl, e3, hn, hf, hs, ht, rfl, rfl, rfl, rfl, rfl, rfl, rfl, rfl⟩ := p1
  obtain ⟨f', v', w', hT, g1, g2, g3⟩ := p2
  obtain ⟨h1, h2, h3, h4⟩ := Rch_I hR
  have bb := I1_b h1
  exact ans_mk hR hT (F := _) (by
    rw [sA_5 e0]
    exact stNum_k p3) (by omega) rfl
theorem k_c5_bad3 {z n p k zn zf zs zt h r g ev ri ml so t kd pl f kw v w : Int} (p1 : pPC z n 5 p k zn zf zs zt h r g ev ri ml so t 0) (p2 : pTokC z n 900 p kd pl f kw v w) (p3 : 3 ≤ kd ∧ kd ≤ 3) (p4 : pWin v 0 12 0) : pAns z n (-1 * pl + -1) 2 := by
  obtain ⟨i0, S, hR, e0, rfl, rfl, e3, hn, hf, hs, ht, rfl, rfl, rfl, rfl, rfl, rfl, rfl, rfl⟩ := p1
  obtain ⟨f', v', w', hT, g1, g2, g3⟩ := p2
  obtain ⟨h1, h2, h3, h4⟩ := Rch_I hR
  have bb := I1_b h1
  exact ans_mk hR hT (F := _) (by
    rw [sA_5 e0]
    exact stNum_v (by omega) (by rw [← g2 (Or.inl (by omega))]; exact iff1_f p4 rfl)) (by omega) rfl
theorem k_c7_ok {z n p k zn zf zs zt h r g ev ri ml so t kd pl f kw v w : Int} (p1 : pPC z n 7 p k zn zf zs zt h r g ev ri ml so t 0) (p2 : pTokC z n 900 p kd pl f kw v w) (p3 : 3 ≤ kd ∧ kd ≤ 3) (p4 : 0 ≤ v ∧ v ≤ 20) : pPC z n 8 f k zn zf zs zt h r g ev ri ml so t 0 := by
  obtain ⟨i0, S, hR, e0, rfl, rfl, e3, hn, hf, hs, ht, rfl, rfl, rfl, rfl, rfl, rfl, rfl, rfl⟩ := p1
  obtain ⟨f', v', w', hT, g1, g2, g3⟩ := p2
  obtain ⟨h1, h2, h3, h4⟩ := Rch_I hR
  have bb := I1_b h1
  have k3 : kd = 3 := by omega
  have ev := g2 (Or.inl k3)
  have st : stepA S kd pl f' kw v' w' = .inl (adv (up S (208 + S 200) v') 8 f') := by
    rw [sA_7 e0]
    exact stNum_t k3 (by omega) (by omega)
  have e201 : (adv (up S (208 + S 200) v') 8 f') 201 = S 201 := by rw [adv_n (by omega) (by omega), up_n (by omega)]
  exact ⟨i0 + 1, _, ⟨S, kd, pl, f', kw, v', w', hR, hT, st⟩, adv_0, (by rw [adv_1]; exact (g1 (by omega)).symm), (by rw [adv_n (by omega) (by omega), up_n (by omega)]), (by rw [adv_n (by omega) (by omega), up_n (by omega)]; exact e3), (fun j j0 j1 => by rw [adv_n (by omega) (by omega), up_n (by omega)]; exact hn j j0 j1), (fun j j0 j1 => by rw [adv_n (by omega) (by omega), up_n (by omega)]; exact hf j j0 j1), (fun j j0 j1 => by rw [adv_n (by omega) (by omega), up_n (by omega)]; exact hs j j0 j1), (fun j j0 j1 j2 => by rw [e201] at j1; rw [adv_n (by omega) (by omega), up_n (by omega)]; exact ht j j0 (by omega) j2), (by rw [adv_n (by omega) (by omega), up_n (by omega)]), (by rw [adv_n (by omega) (by omega), up_n (by omega)]), (by rw [adv_n (by omega) (by omega), up_n (by omega)]), (by rw [adv_n (by omega) (by omega), up_n (by omega)]), (by rw [adv_n (by omega) (by omega), up_n (by omega)]), (by rw [adv_n (by omega) (by omega), up_n (by omega)]), (by rw [adv_n (by omega) (by omega), up_n (by omega)]), (by rw [adv_n (by omega) (by omega), up_n (by omega), adv_n (by omega) (by omega), up_n (by omega), adv_n (by omega) (by omega), up_n (by omega), adv_n (by omega) (by omega), up_n (by omega)])⟩
theorem k_c7_bad1 {z n p k zn zf zs zt h r g ev ri ml so t kd pl f kw v w : Int} (p1 : pPC z n 7 p k zn zf zs zt h r g ev ri ml so t 0) (p2 : pTokC z n 900 p kd pl f kw v w) (p3 : kd ≠ 3) : pAns z n (-1 * pl + -1) 1 := by
  obtain ⟨i0, S, hR, e0, rfl, rfl, e3, hn, hf, hs, ht, rfl, rfl, rfl, rfl, rfl, rfl, rfl, rfl⟩ := p1
  obtain ⟨f', v', w', hT, g1, g2, g3⟩ := p2
  obtain ⟨h1, h2, h3, h4⟩ := Rch_I hR
  have bb := I1_b h1
  exact ans_mk hR hT (F := _) (by
    rw [sA_7 e0]
    exact stNum_k p3) (by omega) rfl
theorem k_c7_bad3 {z n p k zn zf zs zt h r g ev ri ml so t kd pl f kw v w : Int} (p1 : pPC z n 7 p k zn zf zs zt h r g ev ri ml so t 0) (p2 : pTokC z n 900 p kd pl f kw v w) (p3 : 3 ≤ kd ∧ kd ≤ 3) (p4 : pWin v 0 20 0) : pAns z n (-1 * pl + -1) 2 := by
  obtain ⟨i0, S, hR, e0, rfl, rfl, e3, hn, hf, hs, ht, rfl, rfl, rfl, rfl, rfl, rfl, rfl, rfl⟩ := p1
  obtain ⟨f', v', w', hT, g1, g2, g3⟩ := p2
  obtain ⟨h1, h2, h3, h4⟩ := Rch_I hR
  have bb := I1_b h1
  exact ans_mk hR hT (F := _) (by
    rw [sA_7 e0]
    exact stNum_v (by omega) (by rw [← g2 (Or.inl (by omega))]; exact iff1_f p4 rfl)) (by omega) rfl
theorem k_c8_ok {z n p k zn zf zs zt h r g ev ri ml so t kd pl f kw v w : Int} (p1 : pPC z n 8 p k zn zf zs zt h r g ev ri ml so t 0) (p2 : pTokC z n 900 p kd pl f kw v w) (p3 : 3 ≤ kd ∧ kd ≤ 3) (p4 : 0 ≤ v ∧ v ≤ 20) : pPC z n 30 f k zn zf zs zt (h + 1) r g ev ri ml so t 0 := by
  obtain ⟨i0, S, hR, e0, rfl, rfl, e3, hn, hf, hs, ht, rfl, rfl, rfl, rfl, rfl, rfl, rfl, rfl⟩ := p1
  obtain ⟨f', v', w', hT, g1, g2, g3⟩ := p2
  obtain ⟨h1, h2, h3, h4⟩ := Rch_I hR
  have bb := I1_b h1
  have k3 : kd = 3 := by omega
  have ev := g2 (Or.inl k3)
  have st : stepA S kd pl f' kw v' w' = .inl (adv (up (up S (213 + S 200) v') 200 (S 200 + 1)) 30 f') := by
    rw [sA_8 e0]
    exact stNum_t k3 (by omega) (by omega)
  have e201 : (adv (up (up S (213 + S 200) v') 200 (S 200 + 1)) 30 f') 201 = S 201 := by rw [adv_n (by omega) (by omega), up_n (by omega), up_n (by omega)]
  exact ⟨i0 + 1, _, ⟨S, kd, pl, f', kw, v', w', hR, hT, st⟩, adv_0, (by rw [adv_1]; exact (g1 (by omega)).symm), (by rw [adv_n (by omega) (by omega), up_n (by omega), up_n (by omega)]), (by rw [adv_n (by omega) (by omega), up_n (by omega), up_n (by omega)]; exact e3), (fun j j0 j1 => by rw [adv_n (by omega) (by omega), up_n (by omega), up_n (by omega)]; exact hn j j0 j1), (fun j j0 j1 => by rw [adv_n (by omega) (by omega), up_n (by omega), up_n (by omega)]; exact hf j j0 j1), (fun j j0 j1 => by rw [adv_n (by omega) (by omega), up_n (by omega), up_n (by omega)]; exact hs j j0 j1), (fun j j0 j1 j2 => by rw [e201] at j1; rw [adv_n (by omega) (by omega), up_n (by omega), up_n (by omega)]; exact ht j j0 (by omega) j2), (by rw [adv_n (by omega) (by omega), up_s]), (by rw [adv_n (by omega) (by omega), up_n (by omega), up_n (by omega)]), (by rw [adv_n (by omega) (by omega), up_n (by omega), up_n (by omega)]), (by rw [adv_n (by omega) (by omega), up_n (by omega), up_n (by omega)]), (by rw [adv_n (by omega) (by omega), up_n (by omega), up_n (by omega)]), (by rw [adv_n (by omega) (by omega), up_n (by omega), up_n (by omega)]), (by rw [adv_n (by omega) (by omega), up_n (by omega), up_n (by omega)]), (by rw [adv_n (by omega) (by omega), up_n (by omega), up_n (by omega), adv_n (by omega) (by omega), up_n (by omega), up_n (by omega), adv_n (by omega) (by omega), up_n (by omega), up_n (by omega), adv_n (by omega) (by omega), up_n (by omega), up_n (by omega)])⟩
theorem k_c8_bad1 {z n p k zn zf zs zt h r g ev ri ml so t kd pl f kw v w : Int} (p1 : pPC z n 8 p k zn zf zs zt h r g ev ri ml so t 0) (p2 : pTokC z n 900 p kd pl f kw v w) (p3 : kd ≠ 3) : pAns z n (-1 * pl + -1) 1 := by
  obtain ⟨i0, S, hR, e0, rfl, rfl, e3, hn, hf, hs, ht, rfl, rfl, rfl, rfl, rfl, rfl, rfl, rfl⟩ := p1
  obtain ⟨f', v', w', hT, g1, g2, g3⟩ := p2
  obtain ⟨h1, h2, h3, h4⟩ := Rch_I hR
  have bb := I1_b h1
  exact ans_mk hR hT (F := _) (by
    rw [sA_8 e0]
    exact stNum_k p3) (by omega) rfl
theorem k_c8_bad3 {z n p k zn zf zs zt h r g ev ri ml so t kd pl f kw v w : Int} (p1 : pPC z n 8 p k zn zf zs zt h r g ev ri ml so t 0) (p2 : pTokC z n 900 p kd pl f kw v w) (p3 : 3 ≤ kd ∧ kd ≤ 3) (p4 : pWin v 0 20 0) : pAns z n (-1 * pl + -1) 2 := by
  obtain ⟨i0, S, hR, e0, rfl, rfl, e3, hn, hf, hs, ht, rfl, rfl, rfl, rfl, rfl, rfl, rfl, rfl⟩ := p1
  obtain ⟨f', v', w', hT, g1, g2, g3⟩ := p2
  obtain ⟨h1, h2, h3, h4⟩ := Rch_I hR
  have bb := I1_b h1
  exact ans_mk hR hT (F := _) (by
    rw [sA_8 e0]
    exact stNum_v (by omega) (by rw [← g2 (Or.inl (by omega))]; exact iff1_f p4 rfl)) (by omega) rfl
theorem k_c11_ok {z n p k zn zf zs zt h r g ev ri ml so t kd pl f kw v w zt2 : Int} (p1 : pPC z n 11 p k zn zf zs zt h r g ev ri ml so t 0) (p2 : pTokC z n 900 p kd pl f kw v w) (p3 : 3 ≤ kd ∧ kd ≤ 3) (p4 : 0 ≤ v ∧ v ≤ 99) (p5 : pUpd zt2 zt r v) : pPC z n 12 f k zn zf zs zt2 h r g ev ri ml so t 0 := by
  obtain ⟨i0, S, hR, e0, rfl, rfl, e3, hn, hf, hs, ht, rfl, rfl, rfl, rfl, rfl, rfl, rfl, rfl⟩ := p1
  obtain ⟨f', v', w', hT, g1, g2, g3⟩ := p2
  obtain ⟨h1, h2, h3, h4⟩ := Rch_I hR
  have bb := I1_b h1
  have k3 : kd = 3 := by omega
  have ev := g2 (Or.inl k3)
  have b10 := I1_r h1 (by omega)
  have st : stepA S kd pl f' kw v' w' = .inl (adv (up S (226 + S 201) v') 12 f') := by
    rw [sA_11 e0]
    exact stNum_t k3 (by omega) (by omega)
  have e201 : (adv (up S (226 + S 201) v') 12 f') 201 = S 201 := by rw [adv_n (by omega) (by omega), up_n (by omega)]
  exact ⟨i0 + 1, _, ⟨S, kd, pl, f', kw, v', w', hR, hT, st⟩, adv_0, (by rw [adv_1]; exact (g1 (by omega)).symm), (by rw [adv_n (by omega) (by omega), up_n (by omega)]), (by rw [adv_n (by omega) (by omega), up_n (by omega)]; exact e3), (fun j j0 j1 => by rw [adv_n (by omega) (by omega), up_n (by omega)]; exact hn j j0 j1), (fun j j0 j1 => by rw [adv_n (by omega) (by omega), up_n (by omega)]; exact hf j j0 j1), (fun j j0 j1 => by rw [adv_n (by omega) (by omega), up_n (by omega)]; exact hs j j0 j1), (by
    have ag : ∀ j : Int, 0 ≤ j → (j < S 201 ∨ j = S 201) → j < 8 → dcd j.toNat zt2 = (adv (up S (226 + S 201) v') 12 f') (226 + j) := fun j j0 j1 j2 => by
      obtain ⟨u1, u2, u3, u4⟩ := p5
      rw [u4]
      by_cases q : j = S 201
      · rw [q, dcd_us u3 (by omega), adv_n (by omega) (by omega), up_s]
        exact ev
      · rw [dcd_un u3 (by omega) (by omega), adv_n (by omega) (by omega), up_n (by omega)]
        exact ht j j0 (by omega) j2
    intro j j0 j1 j2
    rw [e201] at j1
    exact ag j j0 (by omega) j2), (by rw [adv_n (by omega) (by omega), up_n (by omega)]), (by rw [adv_n (by omega) (by omega), up_n (by omega)]), (by rw [adv_n (by omega) (by omega), up_n (by omega)]), (by rw [adv_n (by omega) (by omega), up_n (by omega)]), (by rw [adv_n (by omega) (by omega), up_n (by omega)]), (by rw [adv_n (by omega) (by omega), up_n (by omega)]), (by rw [adv_n (by omega) (by omega), up_n (by omega)]), (by rw [adv_n (by omega) (by omega), up_n (by omega), adv_n (by omega) (by omega), up_n (by omega), adv_n (by omega) (by omega), up_n (by omega), adv_n (by omega) (by omega), up_n (by omega)])⟩
end
