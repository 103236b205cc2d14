noncomputable section
/-! T3: runs, words, keywords -/
theorem rc_0 {z s : Int} (h : 0 ≤ s) : aRc z s s 0 0 := ⟨h, by omega, aAll_0, by omega, by omega, by omega, ⟨fun _ => aAll_0, fun _ => rfl⟩, ⟨fun _ => aAll_0, fun _ => rfl⟩⟩
theorem rc_l {z s i l d : Int} (h : aRc z s i l d) (hb : bLt (tB z i)) : aRc z s (i + 1) (l + 1) d := by
  obtain ⟨h1, h2, h3, h4, h5, h6, h7, h8⟩ := h
  refine ⟨h1, by omega, aAll_s h3 (Or.inl hb), by omega, h5, by omega, ⟨fun e => aAll_s (h7.mp e) hb, fun a => h7.mpr (aAll_i a h2).1⟩, ⟨fun e => by omega, fun a => absurd (aAll_i a h2).2 (fun q => lt_dg hb q)⟩⟩
theorem rc_d {z s i l d : Int} (h : aRc z s i l d) (hb : bDg (tB z i)) : aRc z s (i + 1) l (d + 1) := by
  obtain ⟨h1, h2, h3, h4, h5, h6, h7, h8⟩ := h
  refine ⟨h1, by omega, aAll_s h3 (Or.inr hb), h4, by omega, by omega, ⟨fun e => by omega, fun a => absurd (aAll_i a h2).2 (fun q => lt_dg q hb)⟩, ⟨fun e => aAll_s (h8.mp e) hb, fun a => h8.mpr (aAll_i a h2).1⟩⟩
theorem rg_s {z s i t g h : Int} (p : aRg z s i t g) (hb : bRn (tB z i)) (c : (t = 1 ∧ bLt (tB z i) ∨ t = 0 ∧ bDg (tB z i)) ∧ h = g ∨ (t = 1 ∧ bDg (tB z i) ∨ t = 0 ∧ bLt (tB z i)) ∧ h = 0) : aRg z s (i + 1) t h := by
  obtain ⟨h1, h2, h3, h4, h5, h6, h7⟩ := p
  refine ⟨h1, by omega, aAll_s h3 hb, h4, by omega, fun e => ⟨fun e1 => ?_, fun e0 => ?_⟩, fun e => ⟨by omega, fun e1 a => ?_, fun e0 a => ?_⟩⟩
  · rcases c with ⟨c | c, c'⟩ | ⟨c, c'⟩
    · exact aAll_s ((h6 (by omega)).1 e1) c.2
    · omega
    · omega
  · rcases c with ⟨c | c, c'⟩ | ⟨c, c'⟩
    · omega
    · exact aAll_s ((h6 (by omega)).2 e0) c.2
    · omega
  · obtain ⟨a1, a2⟩ := aAll_i a h2
    rcases c with ⟨c | c, c'⟩ | ⟨c | c, c'⟩
    · exact (h7 (by omega)).2.1 e1 a1
    · omega
    · exact lt_dg a2 c.2
    · omega
  · obtain ⟨a1, a2⟩ := aAll_i a h2
    rcases c with ⟨c | c, c'⟩ | ⟨c | c, c'⟩
    · omega
    · exact (h7 (by omega)).2.2 e0 a1
    · omega
    · exact lt_dg c.2 a2
theorem val_0 {z s : Int} (h : 0 ≤ s) : aVal z s s 0 := ⟨h, by omega, fun _ => rfl, fun _ => by omega, fun _ => by omega, fun _ => by omega, fun _ _ => by rw [Int.sub_self]; rfl⟩
theorem val_d {z s i v b : Int} (h : aVal z s i v) (hb : tB z i = b) (h0 : 48 ≤ b) (h1 : b ≤ 122) (hi : i ≤ s + 2) : aVal z s (i + 1) (10 * v + b - 48) := by
  obtain ⟨q1, q2, q3, q4, q5, q6, q7⟩ := h
  refine ⟨q1, by omega, fun e => by omega, fun e => ?_, fun e => ?_, fun e => ?_, fun e a => ?_⟩
  · have := q3 (by omega); omega
  · have := q4 (by omega); omega
  · have := q5 (by omega); omega
  · obtain ⟨a1, a2⟩ := aAll_i a q2
    rw [(toN_s q2).1]
    show _ = 10 * numF z s _ + tB z (s + ((i - s).toNat : Int)) - 48
    rw [(toN_s q2).2, ← q7 (by omega) a1, hb]
theorem val_l {z s i v : Int} (h : aVal z s i v) (hb : bLt (tB z i)) : aVal z s (i + 1) v := by
  obtain ⟨q1, q2, q3, q4, q5, q6, q7⟩ := h
  refine ⟨q1, by omega, fun e => by omega, fun e => ?_, fun e => ?_, fun e => ?_, fun e a => ?_⟩
  · have := q3 (by omega); omega
  · have := q4 (by omega); omega
  · have := q5 (by omega); omega
  · exact absurd (aAll_i a q2).2 (fun q => lt_dg hb q)
theorem val_x {z s i u v : Int} (h : aVal z s i u) (hi : s + 3 ≤ i) : aVal z s (i + 1) v := ⟨h.1, by have := h.2.1; omega, fun e => by omega, fun e => by omega, fun e => by omega, fun e => by omega, fun e => by omega⟩
theorem wd_0 {z s : Int} (h : 0 ≤ s) : aWd z s s 0 := ⟨h, by omega, fun _ => by rw [Int.sub_self]; exact ⟨by omega, by decide, fun _ => rfl⟩⟩
theorem wd_l {z s i w b : Int} (h : aWd z s i w) (hb : tB z i = b) (hl : bLt b) (hi : i ≤ s + 6) : aWd z s (i + 1) (32 * w + b - 96) := by
  obtain ⟨q1, q2, q3⟩ := h
  obtain ⟨u1, u2, u3⟩ := q3 (by omega)
  unfold bLt at hl
  refine ⟨q1, by omega, fun _ => ?_⟩
  rw [(toN_s q2).1]
  refine ⟨by omega, ?_, fun a => ?_⟩
  · show _ < 32 * p32 _
    omega
  · obtain ⟨a1, a2⟩ := aAll_i a q2
    show _ = 32 * wF z s _ + tB z (s + ((i - s).toNat : Int)) - 96
    rw [(toN_s q2).2, ← u3 a1, hb]
theorem wd_d {z s i w : Int} (h : aWd z s i w) (hb : bDg (tB z i)) : aWd z s (i + 1) w := by
  obtain ⟨q1, q2, q3⟩ := h
  refine ⟨q1, by omega, fun e => ?_⟩
  obtain ⟨u1, u2, u3⟩ := q3 (by omega)
  rw [(toN_s q2).1]
  refine ⟨u1, ?_, fun a => absurd (aAll_i a q2).2 (fun q => lt_dg q hb)⟩
  show _ < 32 * p32 _
  omega
theorem wd_x {z s i u w : Int} (h : aWd z s i u) (hi : s + 7 ≤ i) : aWd z s (i + 1) w := ⟨h.1, by have := h.2.1; omega, fun e => by omega⟩
theorem wr_0 {z s : Int} (h : 0 ≤ s) : aWr z s s 0 := ⟨h, by omega, fun _ => by rw [Int.sub_self]; exact ⟨by decide, by decide, fun _ => rfl⟩⟩
theorem wr_s {z s i w b : Int} (h : aWr z s i w) (hb : tB z i = b) (h0 : 48 ≤ b) (h1 : b ≤ 122) (hi : i ≤ s + 6) : aWr z s (i + 1) (27 * w + b - 96) := by
  obtain ⟨q1, q2, q3⟩ := h
  obtain ⟨u1, u2, u3⟩ := q3 (by omega)
  refine ⟨q1, by omega, fun _ => ?_⟩
  rw [(toN_s q2).1]
  refine ⟨?_, ?_, fun a => ?_⟩
  · show -(27 * bW _ + 48) ≤ _
    omega
  · show _ ≤ 27 * bW _ + 48
    omega
  · obtain ⟨a1, a2⟩ := aAll_i a q2
    show _ = 27 * vF z s _ + tB z (s + ((i - s).toNat : Int)) - 96
    rw [(toN_s q2).2, ← u3 a1, hb]
theorem wr_x {z s i u w : Int} (h : aWr z s i u) (hi : s + 7 ≤ i) : aWr z s (i + 1) w := ⟨h.1, by have := h.2.1; omega, fun e => by omega⟩
/-! keywords -/
theorem kw_tab : ∀ i : Nat, i < 126 → kwI i < 24 ∧ kwS' (kwI i) ≤ i ∧ (kwB i = 32 → i = kwS' (kwI i) + kwL' (kwI i) ∧ kwI (i + 1) = kwI i + 1 ∧ (i + 1 < 126 → kwS' (kwI i + 1) = i + 1)) ∧ (kwB i ≠ 32 → kwI (i + 1) = kwI i ∧ i < kwS' (kwI i) + kwL' (kwI i)) := by decide +kernel
theorem kw_126 : kwI 126 = 24 := by decide +kernel
theorem kw_le {i : Nat} (h : i ≤ 126) : kwI i ≤ 24 := by
  by_cases e : i = 126
  · rw [e, kw_126]; omega
  · have := (kw_tab i (by omega)).1
    omega
theorem km_0 {z s e : Int} (h : 0 ≤ s) (h' : s ≤ e) : aKm z s e 0 0 s 1 := ⟨h, h', by omega, by omega, rfl, fun k' h => absurd h (Nat.not_lt_zero _), fun _ => Or.inl ⟨rfl, by show s = s + 0; omega, h', fun j hj => absurd hj (Nat.not_lt_zero _)⟩⟩
/-- place i of the text: what stands there -/
theorem cb_B {i c : Int} (h : pCb 0 i c) : c = kwB i.toNat := (h rfl).2
theorem km_hit {z s e i k a c : Int} (h : aKm z s e i k a 1) (hc : pCb 0 i c) (h32 : c = 32) (he : a = e) (hi : i ≤ 125) : aKw z s e k := by
  obtain ⟨q1, q2, q3, q4, q5, q6, q7⟩ := h
  obtain ⟨t1, t2, t3, t4⟩ := kw_tab i.toNat (by omega)
  have t5 := (t3 (by rw [← cb_B hc]; exact h32)).1
  rcases q7 (by omega) with ⟨_, u1, u2, u3⟩ | ⟨u1, _⟩
  · have e1 : i.toNat - kwS' (kwI i.toNat) = kwL' (kwI i.toNat) := by omega
    rw [e1] at u1 u3
    exact Or.inl ⟨kwI i.toNat, t1, q5, by omega, u3⟩
  · omega
theorem km_s {z s e i k a b c : Int} (h : aKm z s e i k a b) (hc : pCb 0 i c) (h32 : c = 32) (hi : i ≤ 125) (hb : b = 0 ∨ b = 1 ∧ a ≠ e) : aKm z s e (i + 1) (k + 1) s 1 := by
  obtain ⟨q1, q2, q3, q4, q5, q6, q7⟩ := h
  obtain ⟨t1, t2, t3, t4⟩ := kw_tab i.toNat (by omega)
  obtain ⟨t5, t6, t7⟩ := t3 (by rw [← cb_B hc]; exact h32)
  have en : (i + 1).toNat = i.toNat + 1 := by omega
  have e1 : i.toNat - kwS' (kwI i.toNat) = kwL' (kwI i.toNat) := by omega
  refine ⟨q1, q2, by omega, by omega, by rw [en, t6]; omega, ?_, fun h' => Or.inl ⟨rfl, ?_, q2, ?_⟩⟩
  · rw [en, t6]
    intro k' hk
    by_cases ek : k' = kwI i.toNat
    · rw [ek]
      intro hE
      rcases q7 (by omega) with ⟨u0, u1, u2, u3⟩ | ⟨u1, u2⟩
      · rw [e1] at u1
        have := hE.1
        rcases hb with hb | hb
        · omega
        · exact hb.2 (by omega)
      · rw [e1] at u2
        exact u2 ⟨by have := hE.1; omega, hE.2⟩
    · exact q6 k' (by omega)
  · rw [en, t6, t7 (by omega), Nat.sub_self]
    show s = s + 0
    omega
  · rw [en, t6, t7 (by omega), Nat.sub_self]
    exact fun j hj => absurd hj (Nat.not_lt_zero _)
theorem km_n {z s e i k a b c a' b' : Int} (h : aKm z s e i k a b) (hc : pCb 0 i c) (h32 : c ≠ 32) (hi : i ≤ 125) (hb : b = 0 ∧ b' = 0 ∨ b = 1 ∧ b' = 0 ∧ (e ≤ a ∨ tB z a ≠ c) ∨ b = 1 ∧ b' = 1 ∧ a' = a + 1 ∧ a < e ∧ tB z a = c) : aKm z s e (i + 1) k a' b' := by
  obtain ⟨q1, q2, q3, q4, q5, q6, q7⟩ := h
  obtain ⟨t1, t2, t3, t4⟩ := kw_tab i.toNat (by omega)
  obtain ⟨t5, t6⟩ := t4 (by rw [← cb_B hc]; exact h32)
  have en : (i + 1).toNat = i.toNat + 1 := by omega
  have hcB := cb_B hc
  have e1 : i.toNat + 1 - kwS' (kwI i.toNat) = i.toNat - kwS' (kwI i.toNat) + 1 := by omega
  have e2 : kwS' (kwI i.toNat) + (i.toNat - kwS' (kwI i.toNat)) = i.toNat := by omega
  refine ⟨q1, q2, by omega, by omega, by rw [en, t5]; exact q5, by rw [en, t5]; exact q6, fun h' => ?_⟩
  rw [en, t5, e1]
  generalize hg : i.toNat - kwS' (kwI i.toNat) = m at *
  rcases q7 (by omega) with ⟨u0, u1, u2, u3⟩ | ⟨u1, u2⟩
  · rcases hb with hb | ⟨_, hb, hx⟩ | ⟨_, hb, hx, hy, hz⟩
    · omega
    · refine Or.inr ⟨hb, fun hE => ?_⟩
      obtain ⟨w1, w2⟩ := hE
      rcases hx with hx | hx
      · omega
      · have := w2 m (by omega)
        rw [e2, ← hcB, ← u1] at this
        exact hx this
    · refine Or.inl ⟨hb, by omega, by omega, fun j hj => ?_⟩
      by_cases ej : j = m
      · rw [ej, e2, ← hcB, ← u1]; exact hz
      · exact u3 j (by omega)
  · rcases hb with ⟨_, hb⟩ | ⟨hb, _⟩ | ⟨hb, _⟩
    · exact Or.inr ⟨hb, fun hE => u2 ⟨by omega, fun j hj => hE.2 j (by omega)⟩⟩
    · omega
    · omega
theorem km_end {z s e i k a b r : Int} (h : aKm z s e i k a b) (hi : 126 ≤ i) (hr : r = -1) : aKw z s e r := by
  obtain ⟨q1, q2, q3, q4, q5, q6, q7⟩ := h
  have e1 : i.toNat = 126 := by omega
  rw [e1, kw_126] at q6
  exact Or.inr ⟨hr, q6⟩
theorem kw_dif : ∀ k : Nat, k < 24 → ∀ k' : Nat, k' < 24 → (k = k' ∨ kwL' k ≠ kwL' k' ∨ ∃ j : Nat, j < kwL' k ∧ kwB (kwS' k + j) ≠ kwB (kwS' k' + j)) := by decide +kernel
theorem kwE_u {z s e : Int} {k k' : Nat} (hk : k < 24) (hk' : k' < 24) (h : kwE z s e k) (h' : kwE z s e k') : k = k' := by
  rcases kw_dif k hk k' hk' with q | q | ⟨j, q1, q2⟩
  · exact q
  · have a := h.1
    have b := h'.1
    omega
  · have a := h.1
    have b := h'.1
    have := h.2 j q1
    rw [h'.2 j (by omega)] at this
    exact absurd this.symm q2
theorem aKw_u {z s e k k' : Int} (h : aKw z s e k) (h' : aKw z s e k') : k = k' := by
  rcases h with ⟨m, h1, h2, h3⟩ | ⟨h1, h2⟩ <;> rcases h' with ⟨m', g1, g2, g3⟩ | ⟨g1, g2⟩
  · rw [h2, g2, kwE_u h1 g1 h3 g3]
  · exact absurd h3 (g2 m h1)
  · exact absurd g3 (h2 m' g1)
  · omega
theorem aKw_ex (z s e : Int) : ∃ k, aKw z s e k := by
  by_cases h : ∃ k : Nat, k < 24 ∧ kwE z s e k
  · obtain ⟨k, h1, h2⟩ := h
    exact ⟨k, Or.inl ⟨k, h1, rfl, h2⟩⟩
  · exact ⟨-1, Or.inr ⟨rfl, fun k h1 h2 => h ⟨k, h1, h2⟩⟩⟩
theorem aKw_r {z s e k : Int} (h : aKw z s e k) : -1 ≤ k ∧ k ≤ 23 := by
  rcases h with ⟨m, h1, h2, h3⟩ | ⟨h1, h2⟩ <;> omega
end
