noncomputable section
/-! T3: instructions on bits; the tapes' bytes -/
theorem i32b (x : Int) : (Int32.ofInt x).toBitVec.toNat = (x % 4294967296).toNat := by
  show (BitVec.ofInt 32 x).toNat = _
  rw [BitVec.toNat_ofInt]
  rfl
theorem i32_nn {a : Int32} (h : 2 * a.toBitVec.toNat < 4294967296) : a.toInt = (a.toBitVec.toNat : Int) := BitVec.toInt_eq_toNat_of_lt h
theorem op_and255 {z y : Int} (h : pOp 5 z y 255) : z = y % 256 := by
  have e : (Int32.ofInt z).toBitVec.toNat = (y % 4294967296).toNat % 256 := by
    rw [h.2]
    show (Int32.ofInt y &&& Int32.ofInt 255).toBitVec.toNat = _
    rw [Int32.toBitVec_and, BitVec.toNat_and, i32b]
    exact Nat.and_two_pow_sub_one_eq_mod _ 8
  have e2 := i32_nn (a := Int32.ofInt z) (by rw [e]; omega)
  rw [h.1, e] at e2
  omega
theorem op_and {z x y : Int} (h : pOp 5 z x y) (x0 : 0 ≤ x) (x1 : x < 2147483648) (y0 : 0 ≤ y) (y1 : y < 2147483648) : z = ((x.toNat &&& y.toNat : Nat) : Int) := by
  have e : (Int32.ofInt z).toBitVec.toNat = x.toNat &&& y.toNat := by
    rw [h.2]
    show (Int32.ofInt x &&& Int32.ofInt y).toBitVec.toNat = _
    rw [Int32.toBitVec_and, BitVec.toNat_and, i32b, i32b, show (x % 4294967296).toNat = x.toNat by omega, show (y % 4294967296).toNat = y.toNat by omega]
  have hl : x.toNat &&& y.toNat ≤ x.toNat := Nat.and_le_left
  have e2 := i32_nn (a := Int32.ofInt z) (by rw [e]; omega)
  rw [h.1, e] at e2
  exact e2
theorem op_or {z x y : Int} (h : pOp 6 z x y) (x0 : 0 ≤ x) (x1 : x < 2147483648) (y0 : 0 ≤ y) (y1 : y < 2147483648) : z = ((x.toNat ||| y.toNat : Nat) : Int) := by
  have e : (Int32.ofInt z).toBitVec.toNat = x.toNat ||| y.toNat := by
    rw [h.2]
    show (Int32.ofInt x ||| Int32.ofInt y).toBitVec.toNat = _
    rw [Int32.toBitVec_or, BitVec.toNat_or, i32b, i32b, show (x % 4294967296).toNat = x.toNat by omega, show (y % 4294967296).toNat = y.toNat by omega]
  have hl : x.toNat ||| y.toNat < 2 ^ 31 := Nat.or_lt_two_pow (by omega) (by omega)
  have e2 := i32_nn (a := Int32.ofInt z) (by rw [e]; omega)
  rw [h.1, e] at e2
  exact e2
theorem op_shl {m k : Int} (h : pOp 8 m 1 k) (k0 : 0 ≤ k) (k1 : k ≤ 5) : m = ((2 ^ k.toNat : Nat) : Int) := by
  have e : m = (ibf 8 (Int32.ofInt 1) (Int32.ofInt k)).toInt := by rw [← h.2, h.1]
  have hk : k = 0 ∨ k = 1 ∨ k = 2 ∨ k = 3 ∨ k = 4 ∨ k = 5 := by omega
  rw [e]
  rcases hk with rfl | rfl | rfl | rfl | rfl | rfl <;> decide
theorem shr_tab : ∀ t : Nat, t < 64 → ∀ k : Nat, k < 6 → (ibf 9 (Int32.ofInt t) (Int32.ofInt k)).toInt = ((t / 2 ^ k : Nat) : Int) := by decide +kernel
theorem op_shr {y t k : Int} (h : pOp 9 y t k) (t0 : 0 ≤ t) (t1 : t ≤ 63) (k0 : 0 ≤ k) (k1 : k ≤ 5) : y = ((t.toNat / 2 ^ k.toNat : Nat) : Int) := by
  have e : y = (ibf 9 (Int32.ofInt t) (Int32.ofInt k)).toInt := by rw [← h.2, h.1]
  obtain ⟨a, rfl⟩ := Int.eq_ofNat_of_zero_le t0
  obtain ⟨b, rfl⟩ := Int.eq_ofNat_of_zero_le k0
  rw [e]
  exact shr_tab a (by omega) b (by omega)
theorem ush {y x s : Int} {m : UInt32} (h : pOp 10 y x s) (hm : ((Int32.ofInt s).toUInt32 &&& Int32.toUInt32 31) = m) : (y % 4294967296).toNat = (x % 4294967296).toNat / 2 ^ (m.toNat % 32) := by
  rw [← i32b y, h.2]
  show (((Int32.ofInt x).toUInt32 >>> ((Int32.ofInt s).toUInt32 &&& Int32.toUInt32 31)).toInt32).toBitVec.toNat = _
  rw [hm]
  show ((Int32.ofInt x).toUInt32 >>> m).toNat = _
  rw [UInt32.toNat_shiftRight, Nat.shiftRight_eq_div_pow]
  show (Int32.ofInt x).toBitVec.toNat / _ = _
  rw [i32b]
theorem ush24 {y x : Int} (h : pOp 10 y x 24) : (y % 4294967296).toNat = (x % 4294967296).toNat / 16777216 := ush (m := 24) h (by decide)
theorem ush16 {y x : Int} (h : pOp 10 y x 16) : (y % 4294967296).toNat = (x % 4294967296).toNat / 65536 := ush (m := 16) h (by decide)
theorem ush8 {y x : Int} (h : pOp 10 y x 8) : (y % 4294967296).toNat = (x % 4294967296).toNat / 256 := ush (m := 8) h (by decide)
theorem ush0 {y x : Int} (h : pOp 10 y x 0) : (y % 4294967296).toNat = (x % 4294967296).toNat / 1 := ush (m := 0) h (by decide)
theorem by4_0 (x : Int) : by4 x 0 = x / 16777216 := by
  unfold by4
  rw [show (2 : Int) ^ ((24 - 8 * 0 : Int)).toNat = 16777216 by decide]
theorem by4_1 (x : Int) : by4 x 1 = x / 65536 := by
  unfold by4
  rw [show (2 : Int) ^ ((24 - 8 * 1 : Int)).toNat = 65536 by decide]
theorem by4_2 (x : Int) : by4 x 2 = x / 256 := by
  unfold by4
  rw [show (2 : Int) ^ ((24 - 8 * 2 : Int)).toNat = 256 by decide]
theorem by4_3 (x : Int) : by4 x 3 = x / 1 := by
  unfold by4
  rw [show (2 : Int) ^ ((24 - 8 * 3 : Int)).toNat = 1 by decide]
theorem up4 {z z1 z2 z3 z4 n v0 v1 v2 v3 : Int} (a : pUpd z1 z n v0) (b : pUpd z2 z1 (n + 1) v1) (c : pUpd z3 z2 (n + 2) v2) (d : pUpd z4 z3 (n + 3) v3) : (∀ j : Int, 0 ≤ j → j < 4096 → (j < n ∨ n + 4 ≤ j) → dcd j.toNat z4 = dcd j.toNat z) ∧ dcd n.toNat z4 = v0 ∧ dcd (n + 1).toNat z4 = v1 ∧ dcd (n + 2).toNat z4 = v2 ∧ dcd (n + 3).toNat z4 = v3 := by
  obtain ⟨a1, a2, a3, rfl⟩ := a
  obtain ⟨b1, b2, b3, rfl⟩ := b
  obtain ⟨c1, c2, c3, rfl⟩ := c
  obtain ⟨d1, d2, d3, rfl⟩ := d
  refine ⟨fun j j0 j1 j2 => ?_, ?_, ?_, ?_, ?_⟩
  · rw [dcd_un d3 (by omega) (by omega), dcd_un c3 (by omega) (by omega), dcd_un b3 (by omega) (by omega), dcd_un a3 (by omega) (by omega)]
  · rw [dcd_un d3 (by omega) (by omega), dcd_un c3 (by omega) (by omega), dcd_un b3 (by omega) (by omega), dcd_us a3 (by omega)]
  · rw [dcd_un d3 (by omega) (by omega), dcd_un c3 (by omega) (by omega), dcd_us b3 (by omega)]
  · rw [dcd_un d3 (by omega) (by omega), dcd_us c3 (by omega)]
  · rw [dcd_us d3 (by omega)]
theorem add_mk {g : Int → Int} {z z1 z2 z3 z4 n v0 v1 v2 v3 x : Int} (a : pUpd z1 z n v0) (b : pUpd z2 z1 (n + 1) v1) (c : pUpd z3 z2 (n + 2) v2) (d : pUpd z4 z3 (n + 3) v3) (h0 : 0 ≤ n) (h1 : n ≤ 940) (g0 : v0 = g (x / 16777216)) (g1 : v1 = g (x / 65536)) (g2 : v2 = g (x / 256)) (g3 : v3 = g (x / 1)) : pAdd g z4 z n x := by
  obtain ⟨u, u0, u1, u2, u3⟩ := up4 a b c d
  refine ⟨h0, h1, u, fun k k0 k1 => ?_⟩
  have hk : k = 0 ∨ k = 1 ∨ k = 2 ∨ k = 3 := by omega
  rcases hk with rfl | rfl | rfl | rfl
  · rw [by4_0, Int.add_zero, u0, g0]
  · rw [by4_1, u1, g1]
  · rw [by4_2, u2, g2]
  · rw [by4_3, u3, g3]
theorem feed_mk {g : Int → Int} {z0 z1 z2 z3 z4 z5 n a b c d e : Int} (p1 : pAdd g z1 z0 n a) (p2 : pAdd g z2 z1 (n + 4) b) (p3 : pAdd g z3 z2 (n + 8) c) (p4 : pAdd g z4 z3 (n + 12) d) (p5 : pAdd g z5 z4 (n + 16) e) : pFeed g z5 z0 n a b c d e := by
  obtain ⟨a0, a1, a2, a3⟩ := p1
  obtain ⟨b0, b1, b2, b3⟩ := p2
  obtain ⟨c0, c1, c2, c3⟩ := p3
  obtain ⟨d0, d1, d2, d3⟩ := p4
  obtain ⟨e0, e1, e2, e3⟩ := p5
  refine ⟨a0, a1, fun j j0 j1 j2 => ?_, fun k k0 k1 => ⟨?_, ?_, ?_, ?_, ?_⟩⟩
  · rw [e2 j j0 j1 (by omega), d2 j j0 j1 (by omega), c2 j j0 j1 (by omega), b2 j j0 j1 (by omega), a2 j j0 j1 (by omega)]
  · rw [e2 _ (by omega) (by omega) (by omega), d2 _ (by omega) (by omega) (by omega), c2 _ (by omega) (by omega) (by omega), b2 _ (by omega) (by omega) (by omega)]
    exact a3 k k0 k1
  · rw [e2 _ (by omega) (by omega) (by omega), d2 _ (by omega) (by omega) (by omega), c2 _ (by omega) (by omega) (by omega)]
    exact b3 k k0 k1
  · rw [e2 _ (by omega) (by omega) (by omega), d2 _ (by omega) (by omega) (by omega)]
    exact c3 k k0 k1
  · rw [e2 _ (by omega) (by omega) (by omega)]
    exact d3 k k0 k1
  · exact e3 k k0 k1
theorem tape_mk {c r c2 r2 n a b x d e : Int} (h : pTape c r n) (p : pFeed sg8 c2 c n a b x d e) (q : pFeed us8 r2 r n a b x d e) : pTape c2 r2 (n + 20) := by
  obtain ⟨p0, p1, p2, p3⟩ := p
  obtain ⟨q0, q1, q2, q3⟩ := q
  intro j j0 j1 j2
  by_cases g : j < n
  · obtain ⟨y, y1, y2⟩ := h j j0 g j2
    exact ⟨y, by rw [p2 j j0 j2 (Or.inl g)]; exact y1, by rw [q2 j j0 j2 (Or.inl g)]; exact y2⟩
  · by_cases g1 : j < n + 4
    · have u := (p3 (j - n) (by omega) (by omega)).1
      have v := (q3 (j - n) (by omega) (by omega)).1
      rw [show n + (j - n) = j by omega] at u v
      exact ⟨_, u, v⟩
    · by_cases g2 : j < n + 8
      · have u := (p3 (j - n - 4) (by omega) (by omega)).2.1
        have v := (q3 (j - n - 4) (by omega) (by omega)).2.1
        rw [show n + 4 + (j - n - 4) = j by omega] at u v
        exact ⟨_, u, v⟩
      · by_cases g3 : j < n + 12
        · have u := (p3 (j - n - 8) (by omega) (by omega)).2.2.1
          have v := (q3 (j - n - 8) (by omega) (by omega)).2.2.1
          rw [show n + 8 + (j - n - 8) = j by omega] at u v
          exact ⟨_, u, v⟩
        · by_cases g4 : j < n + 16
          · have u := (p3 (j - n - 12) (by omega) (by omega)).2.2.2.1
            have v := (q3 (j - n - 12) (by omega) (by omega)).2.2.2.1
            rw [show n + 12 + (j - n - 12) = j by omega] at u v
            exact ⟨_, u, v⟩
          · have u := (p3 (j - n - 16) (by omega) (by omega)).2.2.2.2
            have v := (q3 (j - n - 16) (by omega) (by omega)).2.2.2.2
            rw [show n + 16 + (j - n - 16) = j by omega] at u v
            exact ⟨_, u, v⟩
/-! bits that are told -/
theorem and_tab : ∀ t : Nat, t < 16 → ∀ k : Nat, k < 4 → (t &&& 2 ^ k = 0 ∧ t / 2 ^ k % 2 = 0) ∨ (t &&& 2 ^ k ≠ 0 ∧ t / 2 ^ k % 2 = 1) := by decide +kernel
theorem or_tab : ∀ t : Nat, t < 64 → ∀ k : Nat, k < 6 → t ||| 2 ^ k = t + (if t / 2 ^ k % 2 = 1 then 0 else 2 ^ k) := by decide +kernel
theorem bit_a {x t m : Int} {k : Nat} (h : pOp 5 x t m) (t0 : 0 ≤ t) (t1 : t ≤ 15) (hk : k < 4) (hm : m.toNat = 2 ^ k) (m0 : 0 ≤ m) (m1 : m < 2147483648) : (x = 0 ∧ bitI t k = 0) ∨ (x ≠ 0 ∧ bitI t k = 1) := by
  have e := op_and h t0 (by omega) m0 m1
  obtain ⟨a, rfl⟩ := Int.eq_ofNat_of_zero_le t0
  rw [hm, Int.toNat_natCast] at e
  rw [bitI_n]
  have q := and_tab a (by omega) k hk
  omega
theorem set_a {y t m : Int} {k : Nat} (h : pOp 6 y t m) (t0 : 0 ≤ t) (t1 : t ≤ 63) (hk : k < 6) (hm : m.toNat = 2 ^ k) (m0 : 0 ≤ m) (m1 : m < 2147483648) : pSetb y t (k : Int) := by
  have e := op_or h t0 (by omega) m0 m1
  refine ⟨t0, t1, by omega, by omega, ?_⟩
  obtain ⟨a, rfl⟩ := Int.eq_ofNat_of_zero_le t0
  rw [hm, Int.toNat_natCast, or_tab a (by omega) k hk] at e
  rw [bitI_n, Int.toNat_natCast, e]
  have e2 : ((2 : Int) ^ k) = ((2 ^ k : Nat) : Int) := (Int.natCast_pow 2 k).symm
  by_cases g : a / 2 ^ k % 2 = 1
  · rw [if_pos g, if_pos (by rw [g]; rfl)]
    rfl
  · rw [if_neg g, if_neg (by omega), e2]
    rfl
theorem bit_s {y t k x r : Int} (h : pOp 9 y t k) (h' : pOp 5 x y 1) (k0 : 0 ≤ k) (k1 : k ≤ 5) (t0 : 0 ≤ t) (t1 : t ≤ 63) (e : r = x) : pBit t k r := by
  have e1 := op_shr h t0 t1 k0 k1
  obtain ⟨a, rfl⟩ := Int.eq_ofNat_of_zero_le t0
  obtain ⟨b, rfl⟩ := Int.eq_ofNat_of_zero_le k0
  rw [Int.toNat_natCast, Int.toNat_natCast] at e1
  have hd : a / 2 ^ b ≤ a := Nat.div_le_self a (2 ^ b)
  generalize hq : a / 2 ^ b = u at e1 hd
  have e2 := op_and h' (by omega) (by omega) (by omega) (by omega)
  refine ⟨t0, t1, k0, k1, ?_⟩
  rw [bitI_n, hq, e, e2, e1, Int.toNat_natCast]
  exact congrArg Int.ofNat (Nat.and_two_pow_sub_one_eq_mod u 1)
theorem set_s {m y t k : Int} (h : pOp 8 m 1 k) (h' : pOp 6 y t m) (k0 : 0 ≤ k) (k1 : k ≤ 5) (t0 : 0 ≤ t) (t1 : t ≤ 63) : pSetb y t k := by
  have e := op_shl h k0 k1
  obtain ⟨b, rfl⟩ := Int.eq_ofNat_of_zero_le k0
  rw [Int.toNat_natCast] at e
  have hb : (2 : Nat) ^ b ≤ 2 ^ 5 := Nat.pow_le_pow_right (by decide) (by omega)
  have hc : (2 : Nat) ^ b < 2147483648 := by omega
  exact set_a h' t0 t1 (by omega) (by rw [e]; exact Int.toNat_natCast _) (by rw [e]; exact Int.natCast_nonneg _) (by rw [e]; exact Int.ofNat_lt.mpr hc)
theorem bit_rg {t k r : Int} (h : pBit t k r) : 0 ≤ r ∧ r ≤ 1 := by
  obtain ⟨_, _, _, _, h⟩ := h
  rw [h]
  unfold bitI
  generalize t / 2 ^ k.toNat = x
  omega
end
noncomputable section
/-! T3: four bits (printed by wip/v5/gen/proofs5.py) -/
theorem bit_sum0 {a b c d : Int} (ha : a = 0 ∨ a = 1) (hb : b = 0 ∨ b = 1) (hc : c = 0 ∨ c = 1) (hd : d = 0 ∨ d = 1) : bitI (a + 2 * b + 4 * c + 8 * d) 0 = a := by
  rcases ha with rfl | rfl <;> rcases hb with rfl | rfl <;> rcases hc with rfl | rfl <;> rcases hd with rfl | rfl <;> decide
theorem bit_sum1 {a b c d : Int} (ha : a = 0 ∨ a = 1) (hb : b = 0 ∨ b = 1) (hc : c = 0 ∨ c = 1) (hd : d = 0 ∨ d = 1) : bitI (a + 2 * b + 4 * c + 8 * d) 1 = b := by
  rcases ha with rfl | rfl <;> rcases hb with rfl | rfl <;> rcases hc with rfl | rfl <;> rcases hd with rfl | rfl <;> decide
theorem bit_sum2 {a b c d : Int} (ha : a = 0 ∨ a = 1) (hb : b = 0 ∨ b = 1) (hc : c = 0 ∨ c = 1) (hd : d = 0 ∨ d = 1) : bitI (a + 2 * b + 4 * c + 8 * d) 2 = c := by
  rcases ha with rfl | rfl <;> rcases hb with rfl | rfl <;> rcases hc with rfl | rfl <;> rcases hd with rfl | rfl <;> decide
theorem bit_sum3 {a b c d : Int} (ha : a = 0 ∨ a = 1) (hb : b = 0 ∨ b = 1) (hc : c = 0 ∨ c = 1) (hd : d = 0 ∨ d = 1) : bitI (a + 2 * b + 4 * c + 8 * d) 3 = d := by
  rcases ha with rfl | rfl <;> rcases hb with rfl | rfl <;> rcases hc with rfl | rfl <;> rcases hd with rfl | rfl <;> decide
end
