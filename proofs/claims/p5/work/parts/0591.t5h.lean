noncomputable section
/-! T5: marks (printed by wip/v5/gen/proofs7.py) -/
theorem mB_r (z j : Int) : 0 ≤ mB z j ∧ mB z j ≤ 255 := by
  unfold mB us8
  omega
theorem mB_d {z j x : Int} (h : pDec x z j) (h0 : 0 ≤ x) (h1 : x ≤ 255) : mB z j = x := by
  unfold mB us8
  rw [h.2]
  omega
theorem mOk_s {z R : Int} {k : Nat} (h : mOk z R k) (h0 : mB z (2 * (k : Int)) < R) (h1 : mB z (2 * (k : Int) + 1) = 0 ∨ mB z (2 * (k : Int) + 1) = 1) : mOk z R (k + 1) := fun j hj => by
  by_cases e : j = k
  · subst e
    exact ⟨(mB_r z _).1, h0, h1⟩
  · exact h j (by omega)
theorem mLo_1 {z : Int} {ft : Int → Int} {k : Nat} (h : mB z (2 * (k : Int) + 1) = 1) : mLo z ft (k + 1) = m2x (mLo z ft k) (ft (mB z (2 * (k : Int))) + 1) := cI_t h
theorem mLo_0 {z : Int} {ft : Int → Int} {k : Nat} (h : ¬ mB z (2 * (k : Int) + 1) = 1) : mLo z ft (k + 1) = mLo z ft k := cI_f h
theorem mHi_1 {z : Int} {ft : Int → Int} {k : Nat} (h : mB z (2 * (k : Int) + 1) = 1) : mHi z ft (k + 1) = mHi z ft k := cI_t h
theorem mHi_0 {z : Int} {ft : Int → Int} {k : Nat} (h : ¬ mB z (2 * (k : Int) + 1) = 1) : mHi z ft (k + 1) = m2n (mHi z ft k) (ft (mB z (2 * (k : Int)))) := cI_f h
theorem mLo_p {z : Int} {ft : Int → Int} : ∀ k : Nat, 0 ≤ mLo z ft k
  | 0 => Int.le_refl 0
  | k + 1 => by
    have i := mLo_p (z := z) (ft := ft) k
    by_cases h : mB z (2 * (k : Int) + 1) = 1
    · rw [mLo_1 h]
      have := m2x_c (mLo z ft k) (ft (mB z (2 * (k : Int))) + 1)
      omega
    · rw [mLo_0 h]
      exact i
theorem mHi_p {z : Int} {ft : Int → Int} : ∀ k : Nat, mHi z ft k ≤ 99
  | 0 => Int.le_refl 99
  | k + 1 => by
    have i := mHi_p (z := z) (ft := ft) k
    by_cases h : mB z (2 * (k : Int) + 1) = 1
    · rw [mHi_1 h]
      exact i
    · rw [mHi_0 h]
      have := m2n_c (mHi z ft k) (ft (mB z (2 * (k : Int))))
      omega
theorem mk_lv {z zr v : Int} (v0 : 0 ≤ v) (v1 : v ≤ 99) : ∀ {k : Nat}, mOk z (rmR zr) k → ((∀ j : Nat, j < k → mAg z zr v j) ↔ mLo z (ftR zr) k ≤ v ∧ v ≤ mHi z (ftR zr) k)
  | 0, _ => ⟨fun _ => ⟨v0, v1⟩, fun _ j hj => by omega⟩
  | k + 1, h => by
    have i := mk_lv v0 v1 (k := k) (fun j hj => h j (by omega))
    have hk := h k (by omega)
    have sp : (∀ j : Nat, j < k + 1 → mAg z zr v j) ↔ (∀ j : Nat, j < k → mAg z zr v j) ∧ mAg z zr v k := ⟨fun q => ⟨fun j hj => q j (by omega), q k (by omega)⟩, fun q j hj => by
      by_cases e : j = k
      · rw [e]; exact q.2
      · exact q.1 j (by omega)⟩
    rw [sp, i]
    unfold mAg
    by_cases e : mB z (2 * (k : Int) + 1) = 1
    · rw [mLo_1 e, mHi_1 e]
      have := m2x_c (mLo z (ftR zr) k) (ftR zr (mB z (2 * (k : Int))) + 1)
      omega
    · rw [mLo_0 e, mHi_0 e]
      have := m2n_c (mHi z (ftR zr) k) (ftR zr (mB z (2 * (k : Int))))
      omega
theorem ism_k {z n zr v r : Int} (h : pIsm z n zr v r) (hn : pHln n) : iff1 (∀ j : Nat, j < (n / 2).toNat → mAg z zr v j) r := by
  unfold pHln at hn
  have e : (∀ j : Nat, 2 * (j : Int) < n → mAg z zr v j) ↔ (∀ j : Nat, j < (n / 2).toNat → mAg z zr v j) := ⟨fun q j hj => q j (by omega), fun q j hj => q j (by omega)⟩
  rcases h with ⟨a, b⟩ | ⟨a, b⟩
  · exact Or.inl ⟨a, e.mp b⟩
  · exact Or.inr ⟨a, fun q => b (e.mpr q)⟩
theorem lft_r {ft : Int → Int} {l h r : Int} (h0 : 0 ≤ l) (h1 : l ≤ h) (h2 : h ≤ 99) : lftF ft l h r ≤ 100 := by
  unfold lftF wetF
  have a := m2x_c (l - 1) (ft r)
  have b := m2x_c 0 (h - m2x (l - 1) (ft r))
  have c := m2x_c (m2x 0 (h - m2x (l - 1) (ft r))) (h - l + 1 - m2x 0 (h - m2x (l - 1) (ft r)))
  omega
theorem wc_F {zm f l c : Int} (hm : ∀ i : Int, 0 ≤ i → i < c → dcd i.toNat zm = l + i) : ∀ (k : Nat) (m : Int), m = (k : Int) → m ≤ c → wcF zm f k = m2x 0 (l + m - 1 - m2x (l - 1) f)
  | 0, m, e, _ => by
    show (0 : Int) = m2x 0 (l + m - 1 - m2x (l - 1) f)
    have a := m2x_c (l - 1) f
    have b := m2x_c 0 (l + m - 1 - m2x (l - 1) f)
    omega
  | k + 1, m, e, h => by
    show wcF zm f k + @ite Int (f < dcd k zm) (Int.decLt _ _) 1 0 = m2x 0 (l + m - 1 - m2x (l - 1) f)
    rw [wc_F hm k (m - 1) (by omega) (by omega)]
    have e := hm (m - 1) (by omega) (by omega)
    rw [show (m - 1).toNat = k by omega] at e
    rw [e]
    have a := m2x_c (l - 1) f
    have b := m2x_c 0 (l + (m - 1) - 1 - m2x (l - 1) f)
    have c := m2x_c 0 (l + m - 1 - m2x (l - 1) f)
    split <;> omega
theorem wc_r {zm f : Int} : ∀ k : Nat, 0 ≤ wcF zm f k ∧ wcF zm f k ≤ k
  | 0 => ⟨Int.le_refl 0, Int.le_refl 0⟩
  | k + 1 => by
    have i := wc_r (zm := zm) (f := f) k
    show 0 ≤ wcF zm f k + @ite Int (f < dcd k zm) (Int.decLt _ _) 1 0 ∧ wcF zm f k + @ite Int (f < dcd k zm) (Int.decLt _ _) 1 0 ≤ _
    split <;> omega
theorem lfR_F {zm zr l h c r : Int} (hm : ∀ i : Int, 0 ≤ i → i < c → dcd i.toNat zm = l + i) (c0 : 0 ≤ c) (hc : c = h - l + 1) : lfR zm zr c r = lftF (ftR zr) l h r := by
  unfold lfR lftF wetF
  rw [wc_F hm c.toNat c (by omega) (by omega), show l + c - 1 = h by omega, hc]
theorem mk_len {z n R : Int} {ft : Int → Int} {a x y b : Int} (h : n % 2 = 1 ∨ n ≤ 0 ∨ 18 ≤ n) (e : a = -1) : pMk z n ft R a x y b := Or.inr ⟨e, fun k h1 h2 h3 => by omega⟩
theorem mk_no {z n R : Int} {ft : Int → Int} {a x y b : Int} {j : Nat} (hj : 2 * (j : Int) < n) (h : ¬ (0 ≤ mB z (2 * (j : Int)) ∧ mB z (2 * (j : Int)) < R ∧ (mB z (2 * (j : Int) + 1) = 0 ∨ mB z (2 * (j : Int) + 1) = 1))) (e : a = -1) : pMk z n ft R a x y b := Or.inr ⟨e, fun k h1 h2 h3 q => h (q j (by omega))⟩
theorem mOk_t {z z' n R : Int} {k : Nat} (hB : ∀ j : Int, 0 ≤ j → j < n → mB z j = mB z' j) (hk : 2 * (k : Int) ≤ n) (h : mOk z R k) : mOk z' R k := fun j hj => by
  rw [← hB (2 * (j : Int)) (by omega) (by omega), ← hB (2 * (j : Int) + 1) (by omega) (by omega)]
  exact h j hj
theorem mLo_t {z z' n R : Int} {ft ft' : Int → Int} (hB : ∀ j : Int, 0 ≤ j → j < n → mB z j = mB z' j) (hF : ∀ j : Int, 0 ≤ j → j < R → ft j = ft' j) : ∀ {k : Nat}, 2 * (k : Int) ≤ n → mOk z R k → mLo z ft k = mLo z' ft' k ∧ mHi z ft k = mHi z' ft' k
  | 0, _, _ => ⟨rfl, rfl⟩
  | k + 1, hk, h => by
    obtain ⟨i1, i2⟩ := mLo_t hB hF (k := k) (by omega) (fun j hj => h j (by omega))
    obtain ⟨a0, a1, a2⟩ := h k (by omega)
    have e0 := hB (2 * (k : Int)) (by omega) (by omega)
    have e1 := hB (2 * (k : Int) + 1) (by omega) (by omega)
    have f0 := hF (mB z (2 * (k : Int))) a0 a1
    by_cases e : mB z (2 * (k : Int) + 1) = 1
    · rw [mLo_1 e, mHi_1 e, mLo_1 (by rw [← e1]; exact e), mHi_1 (by rw [← e1]; exact e), i1, i2, f0, e0]
      exact ⟨rfl, rfl⟩
    · rw [mLo_0 e, mHi_0 e, mLo_0 (by rw [← e1]; exact e), mHi_0 (by rw [← e1]; exact e), i1, i2, f0, e0]
      exact ⟨rfl, rfl⟩
theorem lftF_t {ft ft' : Int → Int} {l h r : Int} (e : ft r = ft' r) : lftF ft l h r = lftF ft' l h r := by
  unfold lftF wetF
  rw [e]
theorem pBl_t {ft ft' : Int → Int} {R l h b : Int} (hF : ∀ j : Int, 0 ≤ j → j < R → ft j = ft' j) (q : pBl ft R l h b) : pBl ft' R l h b := by
  obtain ⟨b0, b1, b2, b3⟩ := q
  refine ⟨b0, b1, fun r r0 r1 => ?_, fun r r0 r1 => ?_⟩
  · rw [← lftF_t (hF b b0 b1), ← lftF_t (hF r r0 r1)]
    exact b2 r r0 r1
  · rw [← lftF_t (hF b b0 b1), ← lftF_t (hF r r0 (by omega))]
    exact b3 r r0 r1
theorem pBl_u {ft : Int → Int} {R l h b b' : Int} (q : pBl ft R l h b) (q' : pBl ft R l h b') : b = b' := by
  obtain ⟨b0, b1, b2, b3⟩ := q
  obtain ⟨c0, c1, c2, c3⟩ := q'
  rcases Int.lt_trichotomy b b' with g | g | g
  · have := c3 b b0 g
    have := b2 b' c0 c1
    omega
  · exact g
  · have := b3 b' c0 g
    have := c2 b b0 b1
    omega
theorem pMk_t {z z' n R : Int} {ft ft' : Int → Int} {a x y b : Int} (hB : ∀ j : Int, 0 ≤ j → j < n → mB z j = mB z' j) (hF : ∀ j : Int, 0 ≤ j → j < R → ft j = ft' j) (q : pMk z n ft R a x y b) : pMk z' n ft' R a x y b := by
  rcases q with ⟨k, k1, k2, k3, k4, k5⟩ | ⟨k1, k2⟩
  · obtain ⟨e1, e2⟩ := mLo_t hB hF (k := k) (by omega) k4
    refine Or.inl ⟨k, k1, k2, k3, mOk_t hB (by omega) k4, ?_⟩
    rw [← e1, ← e2]
    rcases k5 with k5 | ⟨c1, c2, c3, c4, c5⟩
    · exact Or.inl k5
    · exact Or.inr ⟨c1, c2, c3, c4, pBl_t hF c5⟩
  · exact Or.inr ⟨k1, fun k h1 h2 h3 q => k2 k h1 h2 h3 (mOk_t (fun j j0 j1 => (hB j j0 j1).symm) (by omega) q)⟩
theorem pMk_u {z n R : Int} {ft : Int → Int} {a x y b a' x' y' b' : Int} (q : pMk z n ft R a x y b) (q' : pMk z n ft R a' x' y' b') : a = a' ∧ (1 ≤ a → x = x' ∧ y = y' ∧ b = b') := by
  rcases q with ⟨k, k1, k2, k3, k4, k5⟩ | ⟨k1, k2⟩
  · rcases q' with ⟨m, m1, m2, m3, m4, m5⟩ | ⟨m1, m2⟩
    · have e : k = m := by omega
      subst e
      rcases k5 with ⟨c1, c2⟩ | ⟨c1, c2, c3, c4, c5⟩
      · rcases m5 with ⟨d1, d2⟩ | ⟨d1, d2, d3, d4, d5⟩
        · exact ⟨by omega, fun h => by omega⟩
        · omega
      · rcases m5 with ⟨d1, d2⟩ | ⟨d1, d2, d3, d4, d5⟩
        · omega
        · have ex : x = x' := by omega
          have ey : y = y' := by omega
          subst ex
          subst ey
          exact ⟨by omega, fun _ => ⟨rfl, rfl, pBl_u c5 d5⟩⟩
    · exact (m2 k k1 k2 k3 k4).elim
  · rcases q' with ⟨m, m1, m2, m3, m4, m5⟩ | ⟨m1, m2⟩
    · exact (k2 m m1 m2 m3 m4).elim
    · exact ⟨by omega, fun h => by omega⟩
theorem wfS_r {s : AS} (h : wfS s) : s 201 ≤ 8 := by
  rcases h with ⟨z, n, t, h⟩ | h
  · obtain ⟨h1, _⟩ := Rch_I h
    obtain ⟨_, _, _, _, _, f, _⟩ := h1
    exact f
  · omega
theorem mk_al {c n zt r a x y b z zr d u v e zm zn h g ev ri ml so : Int} (p1 : pMks c n zt r a x y b) (p2 : pMkr z n zr d u v e) (p3 : pTape c z n) (p4 : pVV zr zm zn zt h r g ev ri ml so) (hn : n ≤ 940) : a = d ∧ (1 ≤ a → x = u ∧ y = v ∧ b = e) := by
  obtain ⟨s, w, ⟨_, c2, _, c4, _⟩, g1, _⟩ := p4
  have w8 := wfS_r w
  have e1 := g1 1 (by omega) (by omega)
  rw [Int.zero_add, show (200 : Int) + 1 = 201 by decide] at e1
  have er : r = rmR zr := by
    unfold rmR
    rw [e1]
    exact c4
  unfold pMkr at p2
  rw [← er] at p2
  refine pMk_u (pMk_t (ft' := ftR zr) (fun j j0 j1 => ?_) (fun j j0 j1 => ?_) p1) p2
  · obtain ⟨o, o1, o2⟩ := p3 j j0 j1 (by omega)
    unfold mB
    rw [o1, o2]
    unfold us8 sg8
    omega
  · have q := g1 (26 + j) (by omega) (by omega)
    rw [Int.zero_add, show 200 + (26 + j) = 226 + j by omega] at q
    show dcd j.toNat zt = dcd (26 + j).toNat zr
    rw [q]
    exact c2 j j0 (by omega) (by omega)
end
