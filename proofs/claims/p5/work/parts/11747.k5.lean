noncomputable section
/-! T3: rules (printed by wip/v5/gen/rules4.py) -/
theorem k_eq_rf {x : Int} : pEq x x := rfl
theorem k_uns {b z i x : Int} (p1 : pDec b z i) (p2 : pOp 5 x b 255) : pUns z i x := by
  have q := op_and255 p2
  unfold pUns mB us8
  rw [p1.2]
  exact q
theorem k_mx_l {x a b : Int} (p1 : pMax x a b) (p2 : -1 * a + b ≤ 0) : (0 ≤ x + -1 * a) ∧ (x + -1 * a ≤ 0) ∧ (0 ≤ -1 * x + a) ∧ (-1 * x + a ≤ 0) := by
  have q := m2x_c a b
  unfold pMax at p1
  omega
theorem k_hlf {n q : Int} (p1 : 0 ≤ n + -2 * q ∧ n + -2 * q ≤ 0) (p2 : -1 * q + 1 ≤ 0) (p3 : q + -8 ≤ 0) : pHlf n q := ⟨by omega, by omega, by omega⟩
theorem k_hlf_k {n q k : Int} (p1 : pHlf n q) (p2 : -1 * q + k + 1 ≤ 0) (p3 : -1 * k ≤ 0) : (-1000000000000 ≤ -1 * n + 2 * k + 2) ∧ (-1 * n + 2 * k + 2 ≤ 0) := by
  unfold pHlf at p1
  omega
theorem k_mkc_0 {z zt R : Int} : pMkc z zt R 0 0 99 := ⟨Int.le_refl 0, fun j hj => by omega, rfl, rfl⟩
theorem k_mkc_w {z zt R k l h m w f x : Int} (p1 : pMkc z zt R k l h) (p2 : pUns z (2 * k) m) (p3 : pUns z (2 * k + 1) w) (p4 : pWin m 0 (R + -1) 1) (p5 : 1 ≤ w ∧ w ≤ 1) (p6 : pDec f zt m) (p7 : pMax x l (f + 1)) : pMkc z zt R (k + 1) x h := by
  obtain ⟨k0, k1, k2, k3⟩ := p1
  have ek : ((k.toNat : Nat) : Int) = k := by omega
  have en : (k + 1).toNat = k.toNat + 1 := by omega
  have q1 : m = mB z (2 * ((k.toNat : Nat) : Int)) := by rw [ek]; exact p2
  have q2 : w = mB z (2 * ((k.toNat : Nat) : Int) + 1) := by rw [ek]; exact p3
  have q4 := iff1_t p4 rfl
  have q6 : ftC zt m = f := p6.2
  have wt : mB z (2 * ((k.toNat : Nat) : Int) + 1) = 1 := by omega
  refine ⟨by omega, ?_, ?_, ?_⟩
  · rw [en]
    exact mOk_s k1 (by omega) (Or.inr wt)
  · rw [en, mLo_1 wt, ← q1, q6, ← k2]
    exact p7
  · rw [en, mHi_1 wt]
    exact k3
theorem k_mkc_d {z zt R k l h m w f x : Int} (p1 : pMkc z zt R k l h) (p2 : pUns z (2 * k) m) (p3 : pUns z (2 * k + 1) w) (p4 : pWin m 0 (R + -1) 1) (p5 : 0 ≤ w ∧ w ≤ 0) (p6 : pDec f zt m) (p7 : pMin x h f) : pMkc z zt R (k + 1) l x := by
  obtain ⟨k0, k1, k2, k3⟩ := p1
  have ek : ((k.toNat : Nat) : Int) = k := by omega
  have en : (k + 1).toNat = k.toNat + 1 := by omega
  have q1 : m = mB z (2 * ((k.toNat : Nat) : Int)) := by rw [ek]; exact p2
  have q2 : w = mB z (2 * ((k.toNat : Nat) : Int) + 1) := by rw [ek]; exact p3
  have q4 := iff1_t p4 rfl
  have q6 : ftC zt m = f := p6.2
  have wt : mB z (2 * ((k.toNat : Nat) : Int) + 1) = 0 := by omega
  refine ⟨by omega, ?_, ?_, ?_⟩
  · rw [en]
    exact mOk_s k1 (by omega) (Or.inl wt)
  · rw [en, mLo_0 (by omega)]
    exact k2
  · rw [en, mHi_0 (by omega), ← q1, q6, ← k3]
    exact p7
theorem k_mks_o1 {n z zt R x y b : Int} (p1 : 1 ≤ n ∧ n ≤ 1) : pMks z n zt R (-1) x y b := mk_len (by omega) (by omega)
theorem k_mkr_o1 {n z zr x y b : Int} (p1 : 1 ≤ n ∧ n ≤ 1) : pMkr z n zr (-1) x y b := mk_len (by omega) (by omega)
theorem k_mks_o3 {n z zt R x y b : Int} (p1 : 3 ≤ n ∧ n ≤ 3) : pMks z n zt R (-1) x y b := mk_len (by omega) (by omega)
theorem k_mkr_o3 {n z zr x y b : Int} (p1 : 3 ≤ n ∧ n ≤ 3) : pMkr z n zr (-1) x y b := mk_len (by omega) (by omega)
theorem k_mks_o5 {n z zt R x y b : Int} (p1 : 5 ≤ n ∧ n ≤ 5) : pMks z n zt R (-1) x y b := mk_len (by omega) (by omega)
theorem k_mkr_o5 {n z zr x y b : Int} (p1 : 5 ≤ n ∧ n ≤ 5) : pMkr z n zr (-1) x y b := mk_len (by omega) (by omega)
theorem k_mks_o7 {n z zt R x y b : Int} (p1 : 7 ≤ n ∧ n ≤ 7) : pMks z n zt R (-1) x y b := mk_len (by omega) (by omega)
theorem k_mkr_o7 {n z zr x y b : Int} (p1 : 7 ≤ n ∧ n ≤ 7) : pMkr z n zr (-1) x y b := mk_len (by omega) (by omega)
theorem k_mks_o9 {n z zt R x y b : Int} (p1 : 9 ≤ n ∧ n ≤ 9) : pMks z n zt R (-1) x y b := mk_len (by omega) (by omega)
theorem k_mkr_o9 {n z zr x y b : Int} (p1 : 9 ≤ n ∧ n ≤ 9) : pMkr z n zr (-1) x y b := mk_len (by omega) (by omega)
theorem k_mks_oB {n z zt R x y b : Int} (p1 : 11 ≤ n ∧ n ≤ 11) : pMks z n zt R (-1) x y b := mk_len (by omega) (by omega)
theorem k_mkr_oB {n z zr x y b : Int} (p1 : 11 ≤ n ∧ n ≤ 11) : pMkr z n zr (-1) x y b := mk_len (by omega) (by omega)
theorem k_mks_oD {n z zt R x y b : Int} (p1 : 13 ≤ n ∧ n ≤ 13) : pMks z n zt R (-1) x y b := mk_len (by omega) (by omega)
theorem k_mkr_oD {n z zr x y b : Int} (p1 : 13 ≤ n ∧ n ≤ 13) : pMkr z n zr (-1) x y b := mk_len (by omega) (by omega)
theorem k_mks_oF {n z zt R x y b : Int} (p1 : 15 ≤ n ∧ n ≤ 15) : pMks z n zt R (-1) x y b := mk_len (by omega) (by omega)
theorem k_mkr_oF {n z zr x y b : Int} (p1 : 15 ≤ n ∧ n ≤ 15) : pMkr z n zr (-1) x y b := mk_len (by omega) (by omega)
theorem k_mks_oH {n z zt R x y b : Int} (p1 : 17 ≤ n ∧ n ≤ 17) : pMks z n zt R (-1) x y b := mk_len (by omega) (by omega)
theorem k_mkr_oH {n z zr x y b : Int} (p1 : 17 ≤ n ∧ n ≤ 17) : pMkr z n zr (-1) x y b := mk_len (by omega) (by omega)
theorem k_mks_z {n z zt R x y b : Int} (p1 : n ≤ 0) : pMks z n zt R (-1) x y b := mk_len (by omega) (by omega)
theorem k_mkr_z {n z zr x y b : Int} (p1 : n ≤ 0) : pMkr z n zr (-1) x y b := mk_len (by omega) (by omega)
theorem k_mks_m {n z zt R x y b : Int} (p1 : -1 * n + 18 ≤ 0) : pMks z n zt R (-1) x y b := mk_len (by omega) (by omega)
theorem k_mkr_m {n z zr x y b : Int} (p1 : -1 * n + 18 ≤ 0) : pMkr z n zr (-1) x y b := mk_len (by omega) (by omega)
theorem k_mks_r {z zt R k l h m n q x y b : Int} (p1 : pMkc z zt R k l h) (p2 : pUns z (2 * k) m) (p3 : pWin m 0 (R + -1) 0) (p4 : pHlf n q) (p5 : -1 * k ≤ 0) (p6 : k + -1 * q + 1 ≤ 0) : pMks z n zt R (-1) x y b := by
  obtain ⟨k0, k1, k2, k3⟩ := p1
  have ek : ((k.toNat : Nat) : Int) = k := by omega
  unfold pHlf at p4
  have q1 : m = mB z (2 * ((k.toNat : Nat) : Int)) := by rw [ek]; exact p2
  have q3 := iff1_f p3 rfl
  exact mk_no (j := k.toNat) (by omega) (fun q => q3 ⟨by omega, by omega⟩) (by omega)
theorem k_mks_w {z zt R k l h w n q x y b : Int} (p1 : pMkc z zt R k l h) (p2 : pUns z (2 * k + 1) w) (p3 : pWin w 0 1 0) (p4 : pHlf n q) (p5 : -1 * k ≤ 0) (p6 : k + -1 * q + 1 ≤ 0) : pMks z n zt R (-1) x y b := by
  obtain ⟨k0, k1, k2, k3⟩ := p1
  have ek : ((k.toNat : Nat) : Int) = k := by omega
  unfold pHlf at p4
  have q1 : w = mB z (2 * ((k.toNat : Nat) : Int) + 1) := by rw [ek]; exact p2
  have q3 := iff1_f p3 rfl
  exact mk_no (j := k.toNat) (by omega) (fun q => q3 ⟨by omega, by omega⟩) (by omega)
theorem k_mks_0 {z zt R k l h n q x y b : Int} (p1 : pMkc z zt R k l h) (p2 : pHlf n q) (p3 : k + -1 * q ≤ 0) (p4 : -1 * k + q ≤ 0) (p5 : -1 * l + h + 1 ≤ 0) : pMks z n zt R 0 x y b := by
  obtain ⟨k0, k1, k2, k3⟩ := p1
  unfold pHlf at p2
  exact Or.inl ⟨k.toNat, by omega, by omega, by omega, k1, Or.inl ⟨by omega, by omega⟩⟩
theorem k_mks_1 {z zt R k l h n q b : Int} (p1 : pMkc z zt R k l h) (p2 : pHlf n q) (p3 : k + -1 * q ≤ 0) (p4 : -1 * k + q ≤ 0) (p5 : l + -1 * h ≤ 0) (p6 : pBel zt R l h b) : pMks z n zt R (-1 * l + h + 1) l h b := by
  obtain ⟨k0, k1, k2, k3⟩ := p1
  unfold pHlf at p2
  have k4 := k1 0 (by omega)
  exact Or.inl ⟨k.toNat, by omega, by omega, by omega, k1, Or.inr ⟨by omega, by omega, by omega, by omega, p6 (by omega)⟩⟩
theorem k_blc_0 {zt l h : Int} : pBlc zt l h 0 (-1) 101 := Or.inl ⟨rfl, rfl, rfl⟩
theorem k_blc_l {zt l h r b q f m w x y : Int} (p1 : pBlc zt l h r b q) (p2 : pDec f zt r) (p3 : pMax m (l + -1) f) (p4 : pMax w 0 (h + -1 * m)) (p5 : pMax x w (-1 * l + (h + -1 * w) + 1)) (p6 : -1 * l ≤ 0) (p7 : l + -1 * h ≤ 0) (p8 : h + -99 ≤ 0) (p9 : -1 * r ≤ 0) (p10 : -1 * q + x + 1 ≤ 0) (p11 : pMax y w (-1 * l + (h + -1 * w) + 1)) : pBlc zt l h (r + 1) r y := by
  have e3 : m = m2x (l - 1) (ftC zt r) := by
    rw [show ftC zt r = f from p2.2]
    exact p3.trans (congrArg (fun t => m2x t f) (by omega))
  have ew : w = wetF (ftC zt) l h r := by
    unfold wetF
    rw [← e3]
    exact p4.trans (congrArg (fun t => m2x 0 t) (by omega))
  have ex : x = lftF (ftC zt) l h r := by
    unfold lftF
    rw [← ew]
    exact p5.trans (congrArg (fun t => m2x w t) (by omega))
  have hx := lft_r (ft := ftC zt) (r := r) (l := l) (h := h) (by omega) (by omega) (by omega)
  have ey : y = x := by
    exact p11.trans p5.symm
  refine Or.inr ⟨by omega, by omega, by rw [ey]; exact ex, fun j j0 j1 => ?_, fun j j0 j1 => ?_⟩
  · rcases p1 with ⟨c1, c2, c3⟩ | ⟨c1, c2, c3, c4, c5⟩
    · have e : j = r := by omega
      rw [e, ey, ex]
      exact Int.le_refl _
    · by_cases e : j = r
      · rw [e, ey, ex]
        exact Int.le_refl _
      · have := c4 j j0 (by omega)
        omega
  · rcases p1 with ⟨c1, c2, c3⟩ | ⟨c1, c2, c3, c4, c5⟩
    · omega
    · have := c4 j j0 (by omega)
      omega
theorem k_blc_g {zt l h r b q f m w x : Int} (p1 : pBlc zt l h r b q) (p2 : pDec f zt r) (p3 : pMax m (l + -1) f) (p4 : pMax w 0 (h + -1 * m)) (p5 : pMax x w (-1 * l + (h + -1 * w) + 1)) (p6 : -1 * l ≤ 0) (p7 : l + -1 * h ≤ 0) (p8 : h + -99 ≤ 0) (p9 : -1 * r ≤ 0) (p10 : q + -1 * x ≤ 0) : pBlc zt l h (r + 1) b q := by
  have e3 : m = m2x (l - 1) (ftC zt r) := by
    rw [show ftC zt r = f from p2.2]
    exact p3.trans (congrArg (fun t => m2x t f) (by omega))
  have ew : w = wetF (ftC zt) l h r := by
    unfold wetF
    rw [← e3]
    exact p4.trans (congrArg (fun t => m2x 0 t) (by omega))
  have ex : x = lftF (ftC zt) l h r := by
    unfold lftF
    rw [← ew]
    exact p5.trans (congrArg (fun t => m2x w t) (by omega))
  have hx := lft_r (ft := ftC zt) (r := r) (l := l) (h := h) (by omega) (by omega) (by omega)
  rcases p1 with ⟨c1, c2, c3⟩ | ⟨c1, c2, c3, c4, c5⟩
  · omega
  · refine Or.inr ⟨c1, by omega, c3, fun j j0 j1 => ?_, c5⟩
    by_cases e : j = r
    · rw [e, ← ex]
      omega
    · exact c4 j j0 (by omega)
theorem k_bel {zt l h r b q R : Int} (p1 : pBlc zt l h r b q) (p2 : -1 * r + R ≤ 0) (p3 : r + -1 * R ≤ 0) : pBel zt R l h b := fun hR => by
  have e : R = r := by omega
  subst e
  rcases p1 with ⟨c1, c2, c3⟩ | ⟨c1, c2, c3, c4, c5⟩
  · omega
  · exact ⟨c1, c2, fun j j0 j1 => by rw [← c3]; exact c4 j j0 j1, fun j j0 j1 => by rw [← c3]; exact c5 j j0 j1⟩
theorem k_hln_1 {n : Int} (p1 : 2 ≤ n ∧ n ≤ 2) : pHln n := by
  unfold pHln
  omega
theorem k_hln_2 {n : Int} (p1 : 4 ≤ n ∧ n ≤ 4) : pHln n := by
  unfold pHln
  omega
theorem k_hln_3 {n : Int} (p1 : 6 ≤ n ∧ n ≤ 6) : pHln n := by
  unfold pHln
  omega
theorem k_hln_4 {n : Int} (p1 : 8 ≤ n ∧ n ≤ 8) : pHln n := by
  unfold pHln
  omega
theorem k_hln_5 {n : Int} (p1 : 10 ≤ n ∧ n ≤ 10) : pHln n := by
  unfold pHln
  omega
theorem k_hln_6 {n : Int} (p1 : 12 ≤ n ∧ n ≤ 12) : pHln n := by
  unfold pHln
  omega
theorem k_hln_7 {n : Int} (p1 : 14 ≤ n ∧ n ≤ 14) : pHln n := by
  unfold pHln
  omega
theorem k_hln_8 {n : Int} (p1 : 16 ≤ n ∧ n ≤ 16) : pHln n := by
  unfold pHln
  omega
theorem k_room {r m v zr : Int} (p1 : pWin r 0 (m + -1) v) (p2 : pDec m zr 1) : pRoom zr r v := by
  have e : rmR zr = m := p2.2
  unfold pRoom iff1
  unfold pWin iff1 at p1
  omega
theorem k_mkv_0 {z zr : Int} : pMkv z zr 0 := ⟨Int.le_refl 0, by decide, fun j hj => by omega⟩
theorem k_mkv_1 {z zr k m w : Int} (p1 : pMkv z zr k) (p2 : pDec m z k) (p3 : 0 ≤ m ∧ m ≤ 255) (p4 : pDec w z (k + 1)) (p5 : 0 ≤ w ∧ w ≤ 255) (p6 : pRoom zr m 1) (p7 : w + -1 ≤ 0) : pMkv z zr (k + 2) := by
  obtain ⟨k0, k1, k2⟩ := p1
  have ek : 2 * (((k / 2).toNat : Nat) : Int) = k := by omega
  have q1 : mB z (2 * (((k / 2).toNat : Nat) : Int)) = m := by rw [ek]; exact mB_d p2 (by omega) (by omega)
  have q2 : mB z (2 * (((k / 2).toNat : Nat) : Int) + 1) = w := by rw [ek]; exact mB_d p4 (by omega) (by omega)
  have q6 := iff1_t p6 rfl
  refine ⟨by omega, by omega, ?_⟩
  rw [show ((k + 2) / 2).toNat = (k / 2).toNat + 1 by omega]
  exact mOk_s k2 (by omega) (by omega)
theorem k_mkr_r {z zr k m n x y b : Int} (p1 : pMkv z zr k) (p2 : pDec m z k) (p3 : 0 ≤ m ∧ m ≤ 255) (p4 : pRoom zr m 0) (p5 : pHln n) (p6 : k + -1 * n + 1 ≤ 0) : pMkr z n zr (-1) x y b := by
  obtain ⟨k0, k1, k2⟩ := p1
  have ek : 2 * (((k / 2).toNat : Nat) : Int) = k := by omega
  have q1 : mB z (2 * (((k / 2).toNat : Nat) : Int)) = m := by rw [ek]; exact mB_d p2 (by omega) (by omega)
  have q4 := iff1_f p4 rfl
  exact mk_no (j := (k / 2).toNat) (by omega) (fun q => q4 ⟨by omega, by omega⟩) (by omega)
theorem k_mkr_w {z zr k w n x y b : Int} (p1 : pMkv z zr k) (p2 : pDec w z (k + 1)) (p3 : 0 ≤ w ∧ w ≤ 255) (p4 : -1 * w + 2 ≤ 0) (p5 : pHln n) (p6 : k + -1 * n + 1 ≤ 0) : pMkr z n zr (-1) x y b := by
  obtain ⟨k0, k1, k2⟩ := p1
  have ek : 2 * (((k / 2).toNat : Nat) : Int) = k := by omega
  have q2 : mB z (2 * (((k / 2).toNat : Nat) : Int) + 1) = w := by rw [ek]; exact mB_d p2 (by omega) (by omega)
  exact mk_no (j := (k / 2).toNat) (by omega) (fun q => by omega) (by omega)
theorem k_isl_0 {z zr v : Int} : pIsl z zr v 0 := ⟨Int.le_refl 0, by decide, fun j hj => by omega⟩
theorem k_isl_1 {z zr v k m w f : Int} (p1 : pIsl z zr v k) (p2 : pDec m z k) (p3 : 0 ≤ m ∧ m ≤ 255) (p4 : pDec w z (k + 1)) (p5 : 0 ≤ w ∧ w ≤ 255) (p6 : pDec f zr (m + 26)) (p7 : -1 * v + f + 1 ≤ 0) (p8 : 1 ≤ w ∧ w ≤ 1) (p9 : -1 * m ≤ 0) : pIsl z zr v (k + 2) := by
  obtain ⟨k0, k1, k2⟩ := p1
  have ek : 2 * (((k / 2).toNat : Nat) : Int) = k := by omega
  have q1 : mB z (2 * (((k / 2).toNat : Nat) : Int)) = m := by rw [ek]; exact mB_d p2 (by omega) (by omega)
  have q2 : mB z (2 * (((k / 2).toNat : Nat) : Int) + 1) = w := by rw [ek]; exact mB_d p4 (by omega) (by omega)
  have q3 : ftR zr m = f := by
    have u := p6.2
    rw [show m + 26 = 26 + m by omega] at u
    exact u
  have ag : mAg z zr v (k / 2).toNat := by
    unfold mAg
    rw [q1, q2, q3]
    omega
  refine ⟨by omega, by omega, fun j hj => ?_⟩
  by_cases e : j = (k / 2).toNat
  · rw [e]
    exact ag
  · exact k2 j (by omega)
theorem k_isl_2a {z zr v k m w f : Int} (p1 : pIsl z zr v k) (p2 : pDec m z k) (p3 : 0 ≤ m ∧ m ≤ 255) (p4 : pDec w z (k + 1)) (p5 : 0 ≤ w ∧ w ≤ 255) (p6 : pDec f zr (m + 26)) (p7 : v + -1 * f ≤ 0) (p8 : w ≤ 0) (p9 : -1 * m ≤ 0) : pIsl z zr v (k + 2) := by
  obtain ⟨k0, k1, k2⟩ := p1
  have ek : 2 * (((k / 2).toNat : Nat) : Int) = k := by omega
  have q1 : mB z (2 * (((k / 2).toNat : Nat) : Int)) = m := by rw [ek]; exact mB_d p2 (by omega) (by omega)
  have q2 : mB z (2 * (((k / 2).toNat : Nat) : Int) + 1) = w := by rw [ek]; exact mB_d p4 (by omega) (by omega)
  have q3 : ftR zr m = f := by
    have u := p6.2
    rw [show m + 26 = 26 + m by omega] at u
    exact u
  have ag : mAg z zr v (k / 2).toNat := by
    unfold mAg
    rw [q1, q2, q3]
    omega
  refine ⟨by omega, by omega, fun j hj => ?_⟩
  by_cases e : j = (k / 2).toNat
  · rw [e]
    exact ag
  · exact k2 j (by omega)
theorem k_ism_xa {z zr v k m w f n r : Int} (p1 : pIsl z zr v k) (p2 : pDec m z k) (p3 : 0 ≤ m ∧ m ≤ 255) (p4 : pDec w z (k + 1)) (p5 : 0 ≤ w ∧ w ≤ 255) (p6 : pDec f zr (m + 26)) (p7 : -1 * v + f + 1 ≤ 0) (p8 : w ≤ 0) (p9 : -1 * m ≤ 0) (p10 : k + -1 * n + 1 ≤ 0) (p11 : 0 ≤ r ∧ r ≤ 0) : pIsm z n zr v r := by
  obtain ⟨k0, k1, k2⟩ := p1
  have ek : 2 * (((k / 2).toNat : Nat) : Int) = k := by omega
  have q1 : mB z (2 * (((k / 2).toNat : Nat) : Int)) = m := by rw [ek]; exact mB_d p2 (by omega) (by omega)
  have q2 : mB z (2 * (((k / 2).toNat : Nat) : Int) + 1) = w := by rw [ek]; exact mB_d p4 (by omega) (by omega)
  have q3 : ftR zr m = f := by
    have u := p6.2
    rw [show m + 26 = 26 + m by omega] at u
    exact u
  have ag : ¬ mAg z zr v (k / 2).toNat := by
    unfold mAg
    rw [q1, q2, q3]
    omega
  exact Or.inr ⟨by omega, fun q => ag (q _ (by omega))⟩
theorem k_isl_2b {z zr v k m w f : Int} (p1 : pIsl z zr v k) (p2 : pDec m z k) (p3 : 0 ≤ m ∧ m ≤ 255) (p4 : pDec w z (k + 1)) (p5 : 0 ≤ w ∧ w ≤ 255) (p6 : pDec f zr (m + 26)) (p7 : v + -1 * f ≤ 0) (p8 : -1 * w + 2 ≤ 0) (p9 : -1 * m ≤ 0) : pIsl z zr v (k + 2) := by
  obtain ⟨k0, k1, k2⟩ := p1
  have ek : 2 * (((k / 2).toNat : Nat) : Int) = k := by omega
  have q1 : mB z (2 * (((k / 2).toNat : Nat) : Int)) = m := by rw [ek]; exact mB_d p2 (by omega) (by omega)
  have q2 : mB z (2 * (((k / 2).toNat : Nat) : Int) + 1) = w := by rw [ek]; exact mB_d p4 (by omega) (by omega)
  have q3 : ftR zr m = f := by
    have u := p6.2
    rw [show m + 26 = 26 + m by omega] at u
    exact u
  have ag : mAg z zr v (k / 2).toNat := by
    unfold mAg
    rw [q1, q2, q3]
    omega
  refine ⟨by omega, by omega, fun j hj => ?_⟩
  by_cases e : j = (k / 2).toNat
  · rw [e]
    exact ag
  · exact k2 j (by omega)
theorem k_ism_xb {z zr v k m w f n r : Int} (p1 : pIsl z zr v k) (p2 : pDec m z k) (p3 : 0 ≤ m ∧ m ≤ 255) (p4 : pDec w z (k + 1)) (p5 : 0 ≤ w ∧ w ≤ 255) (p6 : pDec f zr (m + 26)) (p7 : -1 * v + f + 1 ≤ 0) (p8 : -1 * w + 2 ≤ 0) (p9 : -1 * m ≤ 0) (p10 : k + -1 * n + 1 ≤ 0) (p11 : 0 ≤ r ∧ r ≤ 0) : pIsm z n zr v r := by
  obtain ⟨k0, k1, k2⟩ := p1
  have ek : 2 * (((k / 2).toNat : Nat) : Int) = k := by omega
  have q1 : mB z (2 * (((k / 2).toNat : Nat) : Int)) = m := by rw [ek]; exact mB_d p2 (by omega) (by omega)
  have q2 : mB z (2 * (((k / 2).toNat : Nat) : Int) + 1) = w := by rw [ek]; exact mB_d p4 (by omega) (by omega)
  have q3 : ftR zr m = f := by
    have u := p6.2
    rw [show m + 26 = 26 + m by omega] at u
    exact u
  have ag : ¬ mAg z zr v (k / 2).toNat := by
    unfold mAg
    rw [q1, q2, q3]
    omega
  exact Or.inr ⟨by omega, fun q => ag (q _ (by omega))⟩
theorem k_ism_y {z zr v k m w f n r : Int} (p1 : pIsl z zr v k) (p2 : pDec m z k) (p3 : 0 ≤ m ∧ m ≤ 255) (p4 : pDec w z (k + 1)) (p5 : 0 ≤ w ∧ w ≤ 255) (p6 : pDec f zr (m + 26)) (p7 : v + -1 * f ≤ 0) (p8 : 1 ≤ w ∧ w ≤ 1) (p9 : -1 * m ≤ 0) (p10 : k + -1 * n + 1 ≤ 0) (p11 : 0 ≤ r ∧ r ≤ 0) : pIsm z n zr v r := by
  obtain ⟨k0, k1, k2⟩ := p1
  have ek : 2 * (((k / 2).toNat : Nat) : Int) = k := by omega
  have q1 : mB z (2 * (((k / 2).toNat : Nat) : Int)) = m := by rw [ek]; exact mB_d p2 (by omega) (by omega)
  have q2 : mB z (2 * (((k / 2).toNat : Nat) : Int) + 1) = w := by rw [ek]; exact mB_d p4 (by omega) (by omega)
  have q3 : ftR zr m = f := by
    have u := p6.2
    rw [show m + 26 = 26 + m by omega] at u
    exact u
  have ag : ¬ mAg z zr v (k / 2).toNat := by
    unfold mAg
    rw [q1, q2, q3]
    omega
  exact Or.inr ⟨by omega, fun q => ag (q _ (by omega))⟩
theorem k_ism_1 {z zr v k n r : Int} (p1 : pIsl z zr v k) (p2 : -1 * k + n ≤ 0) (p3 : k + -1 * n + -1 ≤ 0) (p4 : 1 ≤ r ∧ r ≤ 1) : pIsm z n zr v r := by
  obtain ⟨k0, k1, k2⟩ := p1
  exact Or.inl ⟨by omega, fun j hj => k2 j (by omega)⟩
theorem k_mkl_0 {z zr k n zm : Int} (p1 : pMkv z zr k) (p2 : pHln n) (p3 : -1 * k + n ≤ 0) (p4 : k + -1 * n + -1 ≤ 0) : pMkl z n zr zm 0 0 := by
  obtain ⟨k0, k1, k2⟩ := p1
  have hn := p2
  unfold pHln at hn
  have e : (n / 2).toNat = (k / 2).toNat := by omega
  refine ⟨p2, by rw [e]; exact k2, ?_, fun i i0 i1 => by omega⟩
  unfold cntF
  have l0 := mLo_p (z := z) (ft := ftR zr) (n / 2).toNat
  have a := m2n_c 0 (mHi z (ftR zr) (n / 2).toNat + 1)
  have b := m2x_c 0 (m2n 0 (mHi z (ftR zr) (n / 2).toNat + 1) - mLo z (ftR zr) (n / 2).toNat)
  omega
theorem k_mkl_1 {z n zr zm v c y : Int} (p1 : pMkl z n zr zm v c) (p2 : pIsm z n zr v 1) (p3 : pUpd y zm c v) (p4 : -1 * v ≤ 0) (p5 : v + -99 ≤ 0) : pMkl z n zr y (v + 1) (c + 1) := by
  obtain ⟨k0, k1, k2, k3⟩ := p1
  have l0 := mLo_p (z := z) (ft := ftR zr) (n / 2).toNat
  have h0 := mHi_p (z := z) (ft := ftR zr) (n / 2).toNat
  have lv := (mk_lv (v := v) (by omega) (by omega) k1).mp (iff1_t (ism_k p2 k0) rfl)
  unfold cntF at k2
  have a := m2n_c v ((mHi z (ftR zr) (n / 2).toNat) + 1)
  have b := m2x_c 0 (m2n v ((mHi z (ftR zr) (n / 2).toNat) + 1) - (mLo z (ftR zr) (n / 2).toNat))
  have a1 := m2n_c (v + 1) ((mHi z (ftR zr) (n / 2).toNat) + 1)
  have b1 := m2x_c 0 (m2n (v + 1) ((mHi z (ftR zr) (n / 2).toNat) + 1) - (mLo z (ftR zr) (n / 2).toNat))
  refine ⟨k0, k1, ?_, ?_⟩
  · show c + 1 = m2x 0 (m2n (v + 1) ((mHi z (ftR zr) (n / 2).toNat) + 1) - (mLo z (ftR zr) (n / 2).toNat))
    omega
  · obtain ⟨u0, u1, u2, rfl⟩ := p3
    intro i i0 i1
    by_cases e : i = c
    · rw [e, dcd_us u2 (by omega)]
      omega
    · rw [dcd_un u2 (by omega) (by omega)]
      exact k3 i i0 (by omega)
theorem k_mkl_2 {z n zr zm v c : Int} (p1 : pMkl z n zr zm v c) (p2 : pIsm z n zr v 0) (p3 : -1 * v ≤ 0) (p4 : v + -99 ≤ 0) : pMkl z n zr zm (v + 1) c := by
  obtain ⟨k0, k1, k2, k3⟩ := p1
  have l0 := mLo_p (z := z) (ft := ftR zr) (n / 2).toNat
  have h0 := mHi_p (z := z) (ft := ftR zr) (n / 2).toNat
  have lv : ¬ ((mLo z (ftR zr) (n / 2).toNat) ≤ v ∧ v ≤ (mHi z (ftR zr) (n / 2).toNat)) := fun q => iff1_f (ism_k p2 k0) rfl ((mk_lv (v := v) (by omega) (by omega) k1).mpr q)
  unfold cntF at k2
  have a := m2n_c v ((mHi z (ftR zr) (n / 2).toNat) + 1)
  have b := m2x_c 0 (m2n v ((mHi z (ftR zr) (n / 2).toNat) + 1) - (mLo z (ftR zr) (n / 2).toNat))
  have a1 := m2n_c (v + 1) ((mHi z (ftR zr) (n / 2).toNat) + 1)
  have b1 := m2x_c 0 (m2n (v + 1) ((mHi z (ftR zr) (n / 2).toNat) + 1) - (mLo z (ftR zr) (n / 2).toNat))
  refine ⟨k0, k1, ?_, k3⟩
  show c = m2x 0 (m2n (v + 1) ((mHi z (ftR zr) (n / 2).toNat) + 1) - (mLo z (ftR zr) (n / 2).toNat))
  omega
theorem k_mkl_u {z n zr zm v c : Int} (p1 : pMkl z n zr zm v c) (p2 : -1 * v ≤ 0) (p3 : v + -100 ≤ 0) (p4 : -2147483648 ≤ c ∧ c ≤ 2147483647) : (0 ≤ c) ∧ (c ≤ 100) := by
  obtain ⟨k0, k1, k2, k3⟩ := p1
  have l0 := mLo_p (z := z) (ft := ftR zr) (n / 2).toNat
  have h0 := mHi_p (z := z) (ft := ftR zr) (n / 2).toNat
  unfold cntF at k2
  have a := m2n_c v ((mHi z (ftR zr) (n / 2).toNat) + 1)
  have b := m2x_c 0 (m2n v ((mHi z (ftR zr) (n / 2).toNat) + 1) - (mLo z (ftR zr) (n / 2).toNat))
  omega
theorem k_mkl_s {z n zr zm v c : Int} (p1 : pMkl z n zr zm v c) (p2 : -1 * v ≤ 0) (p3 : v + -100 ≤ 0) (p4 : -2147483648 ≤ c ∧ c ≤ 2147483647) : (-1000000000000 ≤ -1 * v + c) ∧ (-1 * v + c ≤ 0) := by
  obtain ⟨k0, k1, k2, k3⟩ := p1
  have l0 := mLo_p (z := z) (ft := ftR zr) (n / 2).toNat
  have h0 := mHi_p (z := z) (ft := ftR zr) (n / 2).toNat
  unfold cntF at k2
  have a := m2n_c v ((mHi z (ftR zr) (n / 2).toNat) + 1)
  have b := m2x_c 0 (m2n v ((mHi z (ftR zr) (n / 2).toNat) + 1) - (mLo z (ftR zr) (n / 2).toNat))
  omega
theorem k_mkr_0 {z n zr zm v c x y b : Int} (p1 : pMkl z n zr zm v c) (p2 : -1 * v + 100 ≤ 0) (p3 : v + -100 ≤ 0) (p4 : 0 ≤ c ∧ c ≤ 0) : pMkr z n zr 0 x y b := by
  obtain ⟨k0, k1, k2, k3⟩ := p1
  have l0 := mLo_p (z := z) (ft := ftR zr) (n / 2).toNat
  have h0 := mHi_p (z := z) (ft := ftR zr) (n / 2).toNat
  have hn := k0
  unfold pHln at hn
  unfold cntF at k2
  have a := m2n_c v ((mHi z (ftR zr) (n / 2).toNat) + 1)
  have b := m2x_c 0 (m2n v ((mHi z (ftR zr) (n / 2).toNat) + 1) - (mLo z (ftR zr) (n / 2).toNat))
  exact Or.inl ⟨(n / 2).toNat, by omega, by omega, by omega, k1, Or.inl ⟨by omega, by omega⟩⟩
theorem k_cnw_0 {zm zr r : Int} : pCnw zm zr r 0 0 := ⟨Int.le_refl 0, rfl⟩
theorem k_cnw_1 {zm zr r k w x f : Int} (p1 : pCnw zm zr r k w) (p2 : pDec x zm k) (p3 : pDec f zr (r + 26)) (p4 : -1 * x + f + 1 ≤ 0) : pCnw zm zr r (k + 1) (w + 1) := by
  obtain ⟨k0, k1⟩ := p1
  have f1 : ftR zr r = f := by
    have u := p3.2
    rw [show r + 26 = 26 + r by omega] at u
    exact u
  have x1 := p2.2
  refine ⟨by omega, ?_⟩
  rw [show (k + 1).toNat = k.toNat + 1 by omega]
  show _ = wcF zm (ftR zr r) k.toNat + @ite Int (ftR zr r < dcd k.toNat zm) (Int.decLt _ _) 1 0
  rw [← k1, f1, x1]
  rw [if_pos (by omega)]
theorem k_cnw_2 {zm zr r k w x f : Int} (p1 : pCnw zm zr r k w) (p2 : pDec x zm k) (p3 : pDec f zr (r + 26)) (p4 : x + -1 * f ≤ 0) : pCnw zm zr r (k + 1) w := by
  obtain ⟨k0, k1⟩ := p1
  have f1 : ftR zr r = f := by
    have u := p3.2
    rw [show r + 26 = 26 + r by omega] at u
    exact u
  have x1 := p2.2
  refine ⟨by omega, ?_⟩
  rw [show (k + 1).toNat = k.toNat + 1 by omega]
  show _ = wcF zm (ftR zr r) k.toNat + @ite Int (ftR zr r < dcd k.toNat zm) (Int.decLt _ _) 1 0
  rw [← k1, f1, x1]
  rw [if_neg (by omega), Int.add_zero]
theorem k_cnw_u {zm zr r k w : Int} (p1 : pCnw zm zr r k w) (p2 : -1 * k ≤ 0) (p3 : k + -100 ≤ 0) (p4 : -2147483648 ≤ w ∧ w ≤ 2147483647) : (0 ≤ w) ∧ (w ≤ 100) := by
  obtain ⟨k0, k1⟩ := p1
  have q := wc_r (zm := zm) (f := ftR zr r) k.toNat
  omega
theorem k_lft_1 {zm zr r k w c : Int} (p1 : pCnw zm zr r k w) (p2 : -1 * k + c ≤ 0) (p3 : k + -1 * c ≤ 0) (p4 : -2 * w + c + 1 ≤ 0) : pLft zm zr c r w := by
  obtain ⟨k0, k1⟩ := p1
  have e : c = k := by omega
  subst e
  show _ = m2x (wcF zm (ftR zr r) c.toNat) (c - wcF zm (ftR zr r) c.toNat)
  rw [← k1]
  have q := m2x_c w (c - w)
  omega
theorem k_lft_2 {zm zr r k w c : Int} (p1 : pCnw zm zr r k w) (p2 : -1 * k + c ≤ 0) (p3 : k + -1 * c ≤ 0) (p4 : 2 * w + -1 * c ≤ 0) : pLft zm zr c r (-1 * w + c) := by
  obtain ⟨k0, k1⟩ := p1
  have e : c = k := by omega
  subst e
  show _ = m2x (wcF zm (ftR zr r) c.toNat) (c - wcF zm (ftR zr r) c.toNat)
  rw [← k1]
  have q := m2x_c w (c - w)
  omega
theorem k_blr_0 {zm zr c : Int} : pBlr zm zr c 1 0 := ⟨Or.inl rfl, Int.le_refl 0, by decide, fun j j0 j1 => by
  have e : j = 0 := by omega
  rw [e]
  exact Int.le_refl _, fun j j0 j1 => by omega⟩
theorem k_blr_1 {zm zr c r b x y m : Int} (p1 : pBlr zm zr c r b) (p2 : pLft zm zr c r x) (p3 : pLft zm zr c b y) (p4 : pDec m zr 1) (p5 : r + -1 * m + 1 ≤ 0) (p6 : x + -1 * y + 1 ≤ 0) : pBlr zm zr c (r + 1) r := by
  obtain ⟨b0, b1, b2, b3, b4⟩ := p1
  have e1 : x = lfR zm zr c r := p2
  have e2 : y = lfR zm zr c b := p3
  have em : rmR zr = m := p4.2
  refine ⟨Or.inr (by omega), by omega, by omega, fun j j0 j1 => ?_, fun j j0 j1 => ?_⟩
  · by_cases e : j = r
    · rw [e]
      exact Int.le_refl _
    · have := b3 j j0 (by omega)
      omega
  · have := b3 j j0 (by omega)
    omega
theorem k_blr_2 {zm zr c r b x y m : Int} (p1 : pBlr zm zr c r b) (p2 : pLft zm zr c r x) (p3 : pLft zm zr c b y) (p4 : pDec m zr 1) (p5 : r + -1 * m + 1 ≤ 0) (p6 : -1 * x + y ≤ 0) : pBlr zm zr c (r + 1) b := by
  obtain ⟨b0, b1, b2, b3, b4⟩ := p1
  have e1 : x = lfR zm zr c r := p2
  have e2 : y = lfR zm zr c b := p3
  have em : rmR zr = m := p4.2
  refine ⟨Or.inr (by omega), b1, by omega, fun j j0 j1 => ?_, b4⟩
  by_cases e : j = r
  · rw [e]
    omega
  · exact b3 j j0 (by omega)
theorem k_mke {z n zr zm v c : Int} (p1 : pMkl z n zr zm v c) (p2 : -1 * v + 100 ≤ 0) (p3 : v + -100 ≤ 0) : pMke z n zr zm c := by
  have e : v = 100 := by omega
  subst e
  exact p1
theorem k_mkr_1 {z n zr zm c x y r b m : Int} (p1 : pMke z n zr zm c) (p2 : -1 * c + 1 ≤ 0) (p3 : pDec x zm 0) (p4 : pDec y zm (c + -1)) (p5 : pBlr zm zr c r b) (p6 : pDec m zr 1) (p7 : -1 * r + m ≤ 0) (p8 : -1 * r + 1 ≤ 0) (p9 : r + -8 ≤ 0) : pMkr z n zr c x y b := by
  obtain ⟨k0, k1, k2, k3⟩ := p1
  obtain ⟨c0, c1, c2, c3, c4⟩ := p5
  have l0 := mLo_p (z := z) (ft := ftR zr) (n / 2).toNat
  have h0 := mHi_p (z := z) (ft := ftR zr) (n / 2).toNat
  have hn := k0
  unfold pHln at hn
  have g1 := k3 0 (by omega) (by omega)
  have g2 := k3 (c + -1) (by omega) (by omega)
  have x1 := p3.2
  have y1 := p4.2
  have em : rmR zr = m := p6.2
  have r1 := k1 0 (by omega)
  have a := m2n_c 100 (mHi z (ftR zr) (n / 2).toNat + 1)
  have b' := m2x_c 0 (m2n 100 (mHi z (ftR zr) (n / 2).toNat + 1) - mLo z (ftR zr) (n / 2).toNat)
  unfold cntF at k2
  have ec : c = mHi z (ftR zr) (n / 2).toNat - mLo z (ftR zr) (n / 2).toNat + 1 := by omega
  have ex : x = mLo z (ftR zr) (n / 2).toNat := by
    rw [← x1]
    omega
  have ey : y = mHi z (ftR zr) (n / 2).toNat := by
    rw [← y1]
    omega
  have eL : ∀ j : Int, lfR zm zr c j = lftF (ftR zr) x y j := fun j => by
    rw [ex, ey]
    exact lfR_F k3 (by omega) ec
  refine Or.inl ⟨(n / 2).toNat, by omega, by omega, by omega, k1, Or.inr ⟨by omega, ex, ey, by omega, c1, by omega, fun j j0 j1 => ?_, fun j j0 j1 => ?_⟩⟩
  · rw [← eL, ← eL]
    exact c3 j j0 (by omega)
  · rw [← eL, ← eL]
    exact c4 j j0 j1
theorem k_mk_a {c n zt r a x y b z zr d u v e zm zn h g ev ri ml so : Int} (p1 : pMks c n zt r a x y b) (p2 : pMkr z n zr d u v e) (p3 : pTape c z n) (p4 : pVV zr zm zn zt h r g ev ri ml so) (p5 : n + -940 ≤ 0) : (0 ≤ a + -1 * d) ∧ (a + -1 * d ≤ 0) ∧ (0 ≤ -1 * a + d) ∧ (-1 * a + d ≤ 0) := by
  have q := mk_al p1 p2 p3 p4 (by omega)
  omega
theorem k_mk_x {c n zt r a x y b z zr d u v e zm zn h g ev ri ml so : Int} (p1 : pMks c n zt r a x y b) (p2 : pMkr z n zr d u v e) (p3 : pTape c z n) (p4 : pVV zr zm zn zt h r g ev ri ml so) (p5 : n + -940 ≤ 0) (p6 : -1 * a + 1 ≤ 0) : pEq x u := by
  have q := mk_al p1 p2 p3 p4 (by omega)
  exact (q.2 (by omega)).1
theorem k_mk_y {c n zt r a x y b z zr d u v e zm zn h g ev ri ml so : Int} (p1 : pMks c n zt r a x y b) (p2 : pMkr z n zr d u v e) (p3 : pTape c z n) (p4 : pVV zr zm zn zt h r g ev ri ml so) (p5 : n + -940 ≤ 0) (p6 : -1 * a + 1 ≤ 0) : pEq y v := by
  have q := mk_al p1 p2 p3 p4 (by omega)
  exact (q.2 (by omega)).2.1
theorem k_mk_b {c n zt r a x y b z zr d u v e zm zn h g ev ri ml so : Int} (p1 : pMks c n zt r a x y b) (p2 : pMkr z n zr d u v e) (p3 : pTape c z n) (p4 : pVV zr zm zn zt h r g ev ri ml so) (p5 : n + -940 ≤ 0) (p6 : -1 * a + 1 ≤ 0) : pEq b e := by
  have q := mk_al p1 p2 p3 p4 (by omega)
  exact (q.2 (by omega)).2.2
theorem k_mk_n1 {c n zt r a x y b z zr d u v e zm zn h g ev ri ml so : Int} (p1 : pMks c n zt r a x y b) (p2 : pMkr z n zr d u v e) (p3 : pTape c z n) (p4 : pVV zr zm zn zt h r g ev ri ml so) (p5 : n + -940 ≤ 0) (p6 : a ≤ 0) (p7 : -1 * d + 1 ≤ 0) : False := by
  have q := mk_al p1 p2 p3 p4 (by omega)
  omega
theorem k_mk_n2 {c n zt r a x y b z zr d u v e zm zn h g ev ri ml so : Int} (p1 : pMks c n zt r a x y b) (p2 : pMkr z n zr d u v e) (p3 : pTape c z n) (p4 : pVV zr zm zn zt h r g ev ri ml so) (p5 : n + -940 ≤ 0) (p6 : -1 * a + 1 ≤ 0) (p7 : d ≤ 0) : False := by
  have q := mk_al p1 p2 p3 p4 (by omega)
  omega
theorem k_eq_u {x y : Int} (p1 : pEq x y) : (0 ≤ x + -1 * y) ∧ (x + -1 * y ≤ 0) ∧ (0 ≤ -1 * x + y) ∧ (-1 * x + y ≤ 0) := by
  unfold pEq at p1
  omega
end
