noncomputable section
/-! ints: what each instruction makes of linear forms -/
def ile (a b : Int) : Bool := match a with
  | Int.ofNat m => (match b with
    | Int.ofNat n => Nat.ble m n
    | Int.negSucc _ => false)
  | Int.negSucc m => (match b with
    | Int.ofNat _ => true
    | Int.negSucc n => Nat.ble n m)
theorem ile_t {a b : Int} (h : ile a b = true) : a ≤ b := by
  cases a with
  | ofNat m => cases b with
    | ofNat n =>
      have h1 : m ≤ n := Nat.le_of_ble_eq_true (show Nat.ble m n = true from h)
      show (m : Int) ≤ (n : Int)
      omega
    | negSucc n => cases h
  | negSucc m => cases b with
    | ofNat n => exact Int.le_of_lt (Int.lt_of_lt_of_le (Int.negSucc_lt_zero m) (Int.natCast_nonneg n))
    | negSucc n =>
      have h1 : n ≤ m := Nat.le_of_ble_eq_true (show Nat.ble n m = true from h)
      rw [Int.negSucc_eq, Int.negSucc_eq]
      omega
theorem ile_o {a b : Int} (h : a ≤ b) : ile a b = true := by
  cases a with
  | ofNat m => cases b with
    | ofNat n =>
      have h1 : (m : Int) ≤ (n : Int) := h
      exact Nat.ble_eq_true_of_le (show m ≤ n by omega)
    | negSucc n => exact absurd (Int.lt_of_le_of_lt (Int.le_trans (Int.natCast_nonneg m) h) (Int.negSucc_lt_zero n)) (Int.lt_irrefl 0)
  | negSucc m => cases b with
    | ofNat n => rfl
    | negSucc n =>
      rw [Int.negSucc_eq, Int.negSucc_eq] at h
      exact Nat.ble_eq_true_of_le (show n ≤ m by omega)
theorem ile_f {a b : Int} (h : ile a b = false) : b < a := by
  rcases Int.lt_or_le b a with h1 | h1
  · exact h1
  · rw [ile_o h1] at h
    cases h
def imin (a b : Int) : Int := bif ile a b then a else b
def imax (a b : Int) : Int := bif ile a b then b else a
theorem imin_le1 (a b : Int) : imin a b ≤ a := by
  unfold imin
  cases h : ile a b
  · exact Int.le_of_lt (ile_f h)
  · exact Int.le_refl a
theorem imin_le2 (a b : Int) : imin a b ≤ b := by
  unfold imin
  cases h : ile a b
  · exact Int.le_refl b
  · exact ile_t h
theorem imax_ge1 (a b : Int) : a ≤ imax a b := by
  unfold imax
  cases h : ile a b
  · exact Int.le_refl a
  · exact ile_t h
theorem imax_ge2 (a b : Int) : b ≤ imax a b := by
  unfold imax
  cases h : ile a b
  · exact Int.le_of_lt (ile_f h)
  · exact Int.le_refl b
theorem imin_or (a b : Int) : imin a b = a ∨ imin a b = b := by
  unfold imin
  cases h : ile a b
  · exact Or.inr rfl
  · exact Or.inl rfl
theorem imax_or (a b : Int) : imax a b = a ∨ imax a b = b := by
  unfold imax
  cases h : ile a b
  · exact Or.inl rfl
  · exact Or.inr rfl
def mnI : Int := -2147483648
def mxI : Int := 2147483647
theorem fullI (x : Int32) : ivr (mnI, mxI) x.toInt := ⟨x.le_toInt, Int.le_of_lt_add_one x.toInt_lt⟩
/-- a form's interval, where it can't wrap -/
def irg (env : eEv) (f : eLF) : Option (Int × Int) := match lrg env f.1 with
  | some j => bif ile mnI (j.1 + f.2) && ile (j.2 + f.2) mxI then some (j.1 + f.2, j.2 + f.2) else none
  | none => none
theorem irg_ok {env : eEv} {ρ : List Int} (hE : eOk env ρ) {f : eLF} {i : Int × Int} {x : Int} (h : irg env f = some i) (hx : lfv ρ f x) : ivr i x ∧ (Int32.ofInt x).toInt = x := by
  unfold irg at h
  split at h
  · rename_i j hj
    have h1 := lrg_ok hE hj hx
    cases hb : ile mnI (j.1 + f.2) && ile (j.2 + f.2) mxI
    · rw [hb] at h; cases h
    · rw [hb] at h
      cases h
      rw [Bool.and_eq_true] at hb
      have h2 := ile_t hb.1
      have h3 := ile_t hb.2
      unfold ivr at h1 ⊢
      unfold mnI at h2
      unfold mxI at h3
      refine ⟨⟨by omega, by omega⟩, Int32.toInt_ofInt_of_le (by omega) (by omega)⟩
  · cases h
theorem irg_ivr {env : eEv} {ρ : List Int} (hE : eOk env ρ) {f : eLF} {i : Int × Int} {x : Int} (h : irg env f = some i) (hx : lfv ρ f x) : ivr i (Int32.ofInt x).toInt := by
  obtain ⟨h1, h2⟩ := irg_ok hE h hx
  rw [h2]
  exact h1
def mnL : Int := -9223372036854775808
def mxL : Int := 9223372036854775807
theorem fullL (x : Int64) : ivr (mnL, mxL) x.toInt := ⟨x.le_toInt, Int.le_of_lt_add_one x.toInt_lt⟩
theorem fullIL (x : Int32) : ivr (mnL, mxL) x.toInt := by
  have h1 := x.le_toInt
  have h2 := x.toInt_lt
  exact ⟨by show (-9223372036854775808 : Int) ≤ _; omega, by show _ ≤ (9223372036854775807 : Int); omega⟩
/-- a new number of an interval -/
def fr (env : eEv) (lo hi : Int) : eEv × eLF := bif ile hi lo then (env, ([], lo)) else ((Nat.add env.1 1, dcat env.2 (Nat.mul 2 env.1) (epk1 lo hi 0)), ([(env.1, 1)], 0))
theorem fr_ok {env : eEv} {ρ : List Int} (hE : eOk env ρ) {lo hi x : Int} (hx : ivr (lo, hi) x) (hL : ivr (mnL, mxL) x) : ∃ σ, eOk (fr env lo hi).1 (ρ ++ σ) ∧ lfv (ρ ++ σ) (fr env lo hi).2 x := by
  unfold fr
  unfold ivr at hx
  cases h : ile hi lo
  · refine ⟨[x], eOk_cat hE (fun k y hk => ?_), ?_⟩
    · cases k with
      | zero =>
        rw [List.getElem?_cons_zero] at hk
        cases hk
        exact epk1_ok 0 hx.1 hx.2 hL.1 hL.2
      | succ k =>
        rw [List.getElem?_cons_succ, List.getElem?_nil] at hk
        cases hk
    show lev (ρ ++ [x]) [(env.1, 1)] = some (x - 0)
    rw [lev_mk (q := (env.1, 1)) (x := x) (y := 0) (by rw [← hE.1, List.getElem?_append_right (Nat.le_refl _), Nat.sub_self]; rfl) rfl]
    congr 1
    show 1 * x + 0 = x - 0
    omega
  · have := ile_t h
    have hx2 : x = lo := by
      have h1 := hx.1
      have h2 := hx.2
      dsimp only at h1 h2
      omega
    subst hx2
    refine ⟨[], by rw [List.append_nil]; exact hE, ?_⟩
    exact fc_ok x
def ibf (o : Nat) (a b : Int32) : Int32 := match o with
  | 0 => a + b
  | 1 => a - b
  | 2 => a * b
  | 3 => a / b
  | 4 => a - a / b * b
  | 5 => a &&& b
  | 6 => a ||| b
  | 7 => a ^^^ b
  | 8 => a <<< (b &&& 31)
  | 9 => a >>> (b &&& 31)
  | 10 => (a.toUInt32 >>> (b.toUInt32 &&& Int32.toUInt32 31)).toInt32
  | 11 => if a < b then b else a
  | _ => if b < a then b else a
def p2u : Nat → Int → Int
  | 0, _ => 1
  | n + 1, m => bif ile (2 ^ n) m then 2 ^ (n + 1) else p2u n m
theorem p2u_ok : ∀ (n : Nat) (m : Int), m < 2 ^ n → ∃ k, p2u n m = 2 ^ k ∧ m < 2 ^ k
  | 0, m, h => ⟨0, rfl, h⟩
  | n + 1, m, h => by
    unfold p2u
    cases hb : ile (2 ^ n) m
    · exact p2u_ok n m (ile_f hb)
    · exact ⟨n + 1, rfl, h⟩
/-- the interval of an answer by the intervals of what it is made of -/
def rgOf (o : Nat) (i j : Int × Int) : Option (Int × Int) := match o with
  | 3 => bif ile 0 i.1 && ile 1 j.1 then some (0, i.2 / j.1) else bif ile i.2 0 && ile 1 j.1 then some (-((-i.1) / j.1), -((-i.2) / j.2)) else none
  | 4 => bif ile 1 j.1 then (bif ile 0 i.1 then some (0, imin i.2 (j.2 - 1)) else some (mnI, mxI)) else none
  | 5 => bif ile 0 j.1 then some (0, j.2) else bif ile 0 i.1 then some (0, i.2) else some (mnI, mxI)
  | 6 => bif ile 0 i.1 && ile 0 j.1 && ile (imax i.2 j.2) mxI then some (0, p2u 31 (imax i.2 j.2) - 1) else some (mnI, mxI)
  | 8 => bif ile 0 i.1 && ile 0 j.1 && ile j.2 30 && ile (i.2 * 2 ^ j.2.toNat) mxI then some (i.1 * 2 ^ j.1.toNat, i.2 * 2 ^ j.2.toNat) else some (mnI, mxI)
  | 9 => bif ile 0 i.1 then some (0, i.2) else some (mnI, mxI)
  | 10 => bif ile 1 j.1 && ile j.2 31 && ile j.2 j.1 then some (0, 2 ^ (32 - j.1.toNat) - 1) else some (mnI, mxI)
  | 11 => some (imax i.1 j.1, imax i.2 j.2)
  | 12 => some (imin i.1 j.1, imin i.2 j.2)
  | _ => some (mnI, mxI)
theorem nI_ex {x : Int32} (h : 0 ≤ x.toInt) : ∃ n : Nat, n < 2 ^ 31 ∧ x = nI n ∧ (n : Int) = x.toInt := by
  obtain ⟨j, h1, h2⟩ := nI_of (x := x) (by rw [Int32.lt_iff_toInt_lt]; exact Int.not_lt.mpr h)
  exact ⟨j, h1, h2, by rw [h2, nI_toInt h1]⟩
theorem nI_any (x : Int32) : ∃ n, n < 2 ^ 32 ∧ x = nI n := ⟨x.toBitVec.toNat, x.toBitVec.isLt, Int32.toBitVec_inj.mp (by show _ = BitVec.ofNat 32 _; simp)⟩
theorem nI_and (a b : Nat) : nI a &&& nI b = nI (a &&& b) := by
  apply Int32.toBitVec_inj.1
  show BitVec.ofNat 32 a &&& BitVec.ofNat 32 b = BitVec.ofNat 32 (a &&& b)
  apply BitVec.eq_of_getLsbD_eq
  intro i hi
  simp [hi]
theorem nI_or (a b : Nat) : nI a ||| nI b = nI (a ||| b) := by
  apply Int32.toBitVec_inj.1
  show BitVec.ofNat 32 a ||| BitVec.ofNat 32 b = BitVec.ofNat 32 (a ||| b)
  apply BitVec.eq_of_getLsbD_eq
  intro i hi
  simp [hi]
theorem and_comm32 (x y : Int32) : x &&& y = y &&& x := by
  apply Int32.toBitVec_inj.1
  show x.toBitVec &&& y.toBitVec = y.toBitVec &&& x.toBitVec
  exact BitVec.and_comm ..
theorem and_le32 (x : Int32) {y : Int32} (h : 0 ≤ y.toInt) : ivr (0, y.toInt) (x &&& y).toInt := by
  obtain ⟨n, hn, rfl⟩ := nI_any x
  obtain ⟨b, hb, rfl, hb2⟩ := nI_ex h
  rw [nI_and, ← hb2]
  have h1 : n &&& b ≤ b := Nat.and_le_right
  rw [nI_toInt (Nat.lt_of_le_of_lt h1 hb)]
  exact ⟨Int.natCast_nonneg _, Int.ofNat_le.mpr h1⟩
theorem sh_l : ∀ n, n < 32 → ((nI n &&& 31).toBitVec.smod 32).toNat = n := by decide +kernel
theorem sh_u : ∀ n, n < 32 → (((nI n).toUInt32 &&& Int32.toUInt32 31).toBitVec % 32).toNat = n := by decide +kernel
theorem ediv_anti {n b c : Int} (hn : 0 ≤ n) (hb : 0 < b) (hbc : b ≤ c) : n / c ≤ n / b := by
  apply Int.le_ediv_of_mul_le hb
  have r3 : n / c * c ≤ n := Int.ediv_mul_le _ (by omega)
  have r4 : n / c * b ≤ n / c * c := Int.mul_le_mul_of_nonneg_left hbc (Int.ediv_nonneg hn (by omega))
  omega
theorem i32_div {x y : Int32} (hy : 1 ≤ y.toInt) : (x / y).toInt = x.toInt.tdiv y.toInt := by
  rw [Int32.toInt_div]
  have h1 := x.le_toInt
  have h2 := x.toInt_lt
  have key : ∀ a b : Int, 0 ≤ a → 1 ≤ b → 0 ≤ a / b ∧ a / b ≤ a := fun a b ha hb => ⟨Int.ediv_nonneg ha (by omega), Int.ediv_le_self b ha⟩
  rcases Int.le_total 0 x.toInt with g | g
  · rw [Int.tdiv_eq_ediv_of_nonneg g]
    obtain ⟨k1, k2⟩ := key _ _ g hy
    exact Int.bmod_eq_of_le (by omega) (by omega)
  · obtain ⟨a, ha, ea⟩ : ∃ a : Int, 0 ≤ a ∧ x.toInt = -a := ⟨-x.toInt, by omega, by omega⟩
    rw [ea, Int.neg_tdiv, Int.tdiv_eq_ediv_of_nonneg ha]
    obtain ⟨k1, k2⟩ := key _ _ ha hy
    exact Int.bmod_eq_of_le (by omega) (by omega)
theorem rgOf_ok (o : Nat) {i j r : Int × Int} {x y : Int32} (hx : ivr i x.toInt) (hy : ivr j y.toInt) (h : rgOf o i j = some r) : ivr r (ibf o x y).toInt ∧ (o = 3 ∨ o = 4 → ¬ y = 0) := by
  have hx1 := hx.1
  have hx2 := hx.2
  have hy1 := hy.1
  have hy2 := hy.2
  unfold rgOf at h
  split at h
  · cases hb : ile 0 i.1 && ile 1 j.1
    · rw [hb] at h
      cases hb2 : ile i.2 0 && ile 1 j.1
      · rw [hb2] at h; cases h
      · rw [hb2] at h; cases h
        rw [Bool.and_eq_true] at hb2
        have h1 := ile_t hb2.1
        have h2 := ile_t hb2.2
        refine ⟨?_, fun _ e => ?_⟩
        · show ivr _ (x / y).toInt
          rw [i32_div (by omega)]
          obtain ⟨a, ha, ea⟩ : ∃ a : Int, 0 ≤ a ∧ x.toInt = -a := ⟨-x.toInt, by omega, by omega⟩
          rw [ea, Int.neg_tdiv, Int.tdiv_eq_ediv_of_nonneg ha]
          generalize y.toInt = b at *
          have hb0 : 0 < b := by omega
          refine ⟨?_, ?_⟩
          · show -((-i.1) / j.1) ≤ -(a / b)
            have r1 : a / b ≤ (-i.1) / b := Int.ediv_le_ediv hb0 (by omega)
            have r2 : (-i.1) / b ≤ (-i.1) / j.1 := ediv_anti (by omega) (by omega) (by omega)
            omega
          · show -(a / b) ≤ -((-i.2) / j.2)
            have r1 : (-i.2) / j.2 ≤ a / j.2 := Int.ediv_le_ediv (by omega) (by omega)
            have r2 : a / j.2 ≤ a / b := ediv_anti ha hb0 (by omega)
            omega
        · rw [e] at hy1
          have : (0 : Int32).toInt = 0 := rfl
          omega
    · rw [hb] at h; cases h
      rw [Bool.and_eq_true] at hb
      have h1 := ile_t hb.1
      have h2 := ile_t hb.2
      obtain ⟨a, ha, rfl, ha2⟩ := nI_ex (x := x) (by omega)
      obtain ⟨b, hb', rfl, hb2⟩ := nI_ex (x := y) (by omega)
      have hb0 : 0 < b := by omega
      refine ⟨?_, fun _ e => ?_⟩
      · show ivr _ (nI a / nI b).toInt
        rw [pk_div ha hb0 hb', nI_toInt (Nat.lt_of_le_of_lt (Nat.div_le_self a b) ha)]
        refine ⟨Int.natCast_nonneg _, ?_⟩
        show ((a / b : Nat) : Int) ≤ i.2 / j.1
        rw [Int.natCast_ediv]
        have r1 : (a : Int) / (b : Int) ≤ i.2 / (b : Int) := Int.ediv_le_ediv (by omega) (by omega)
        have r2 : i.2 / (b : Int) ≤ i.2 / j.1 := by
          apply Int.le_ediv_of_mul_le (by omega)
          have r3 : i.2 / (b : Int) * (b : Int) ≤ i.2 := Int.ediv_mul_le _ (by omega)
          have r4 : i.2 / (b : Int) * j.1 ≤ i.2 / (b : Int) * (b : Int) := Int.mul_le_mul_of_nonneg_left (by omega) (Int.ediv_nonneg (by omega) (by omega))
          omega
        omega
      · rw [e] at hb2
        have : (0 : Int32).toInt = 0 := rfl
        omega
  · cases hb : ile 1 j.1
    · rw [hb] at h; cases h
    · rw [hb] at h
      cases hb0 : ile 0 i.1
      · rw [hb0] at h; cases h
        refine ⟨fullI _, fun _ e => ?_⟩
        have h2 := ile_t hb
        rw [e] at hy1
        have : (0 : Int32).toInt = 0 := rfl
        omega
      · rw [hb0] at h; cases h
        have h1 := ile_t hb0
        have h2 := ile_t hb
        obtain ⟨a, ha, rfl, ha2⟩ := nI_ex (x := x) (by omega)
        obtain ⟨b, hb', rfl, hb2⟩ := nI_ex (x := y) (by omega)
        have hb0 : 0 < b := by omega
        refine ⟨?_, fun _ e => ?_⟩
        · show ivr _ (nI a - nI a / nI b * nI b).toInt
          have h3 : a % b ≤ a := Nat.mod_le a b
          have h4 : a % b < b := Nat.mod_lt a hb0
          rw [pk_rem ha hb0 hb', nI_toInt (Nat.lt_of_le_of_lt h3 ha)]
          refine ⟨Int.natCast_nonneg _, ?_⟩
          rcases imin_or i.2 (j.2 - 1) with e | e
          · show _ ≤ imin i.2 (j.2 - 1); rw [e]; omega
          · show _ ≤ imin i.2 (j.2 - 1); rw [e]; omega
        · rw [e] at hb2
          have : (0 : Int32).toInt = 0 := rfl
          omega
  · refine ⟨?_, fun e => by rcases e with e | e <;> cases e⟩
    cases hb : ile 0 j.1
    · rw [hb] at h
      cases hb0 : ile 0 i.1
      · rw [hb0] at h; cases h; exact fullI _
      · rw [hb0] at h; cases h
        have h1 := ile_t hb0
        show ivr _ (x &&& y).toInt
        rw [and_comm32]
        have h3 := and_le32 y (y := x) (by omega)
        exact ⟨h3.1, by have := h3.2; dsimp only at this ⊢; omega⟩
    · rw [hb] at h; cases h
      have h1 := ile_t hb
      have h3 := and_le32 x (y := y) (by omega)
      exact ⟨h3.1, by have := h3.2; show (x &&& y).toInt ≤ j.2; dsimp only at this; omega⟩
  · refine ⟨?_, fun e => by rcases e with e | e <;> cases e⟩
    cases hb : ile 0 i.1 && ile 0 j.1 && ile (imax i.2 j.2) mxI
    · rw [hb] at h; cases h; exact fullI _
    · rw [hb] at h; cases h
      rw [Bool.and_eq_true, Bool.and_eq_true] at hb
      have h1 := ile_t hb.1.1
      have h2 := ile_t hb.1.2
      have h3 := ile_t hb.2
      obtain ⟨a, ha, rfl, ha2⟩ := nI_ex (x := x) (by omega)
      obtain ⟨b, hb', rfl, hb2⟩ := nI_ex (x := y) (by omega)
      have hm : imax i.2 j.2 < 2 ^ 31 := by unfold mxI at h3; omega
      obtain ⟨k, e1, e2⟩ := p2u_ok 31 _ hm
      have g1 := imax_ge1 i.2 j.2
      have g2 := imax_ge2 i.2 j.2
      have q6 : ((2 ^ k : Nat) : Int) = 2 ^ k := Int.natCast_pow 2 k
      have q1 : a < 2 ^ k := by
        have : (a : Int) < ((2 ^ k : Nat) : Int) := by rw [q6]; omega
        omega
      have q2 : b < 2 ^ k := by
        have : (b : Int) < ((2 ^ k : Nat) : Int) := by rw [q6]; omega
        omega
      have q3 := Nat.or_lt_two_pow q1 q2
      have q4 := Nat.or_lt_two_pow ha hb'
      show ivr _ (nI a ||| nI b).toInt
      rw [nI_or, nI_toInt q4, e1]
      refine ⟨Int.natCast_nonneg _, ?_⟩
      have q5 : ((a ||| b : Nat) : Int) < ((2 ^ k : Nat) : Int) := Int.ofNat_lt.mpr q3
      rw [q6] at q5
      show ((a ||| b : Nat) : Int) ≤ 2 ^ k - 1
      omega
  · refine ⟨?_, fun e => by rcases e with e | e <;> cases e⟩
    cases hb : ile 0 i.1 && ile 0 j.1 && ile j.2 30 && ile (i.2 * 2 ^ j.2.toNat) mxI
    · rw [hb] at h; cases h; exact fullI _
    · rw [hb] at h; cases h
      rw [Bool.and_eq_true, Bool.and_eq_true, Bool.and_eq_true] at hb
      have h1 := ile_t hb.1.1.1
      have h2 := ile_t hb.1.1.2
      have h3 := ile_t hb.1.2
      have h4 := ile_t hb.2
      obtain ⟨a, ha, rfl, ha2⟩ := nI_ex (x := x) (by omega)
      obtain ⟨b, hb', rfl, hb2⟩ := nI_ex (x := y) (by omega)
      have hb3 : b < 32 := by omega
      have p1 : (2 : Int) ^ b ≤ 2 ^ j.2.toNat := by
        have : (2 ^ b : Nat) ≤ 2 ^ j.2.toNat := Nat.pow_le_pow_right (by decide) (by omega)
        have := Int.ofNat_le.mpr this
        rw [Int.natCast_pow, Int.natCast_pow] at this
        exact this
      have p0 : (2 : Int) ^ j.1.toNat ≤ 2 ^ b := by
        have : (2 ^ j.1.toNat : Nat) ≤ 2 ^ b := Nat.pow_le_pow_right (by decide) (by omega)
        have := Int.ofNat_le.mpr this
        rw [Int.natCast_pow, Int.natCast_pow] at this
        exact this
      have pp : (0 : Int) < 2 ^ b := Int.pow_pos (by decide)
      have pq : (0 : Int) < 2 ^ j.1.toNat := Int.pow_pos (by decide)
      have u1 : (a : Int) * 2 ^ b ≤ i.2 * 2 ^ j.2.toNat := Int.mul_le_mul (by omega) p1 (Int.le_of_lt pp) (by omega)
      have u0 : i.1 * 2 ^ j.1.toNat ≤ (a : Int) * 2 ^ b := Int.mul_le_mul (by omega) p0 (Int.le_of_lt pq) (by omega)
      have u2 : ((a * 2 ^ b : Nat) : Int) = (a : Int) * 2 ^ b := by rw [Int.natCast_mul, Int.natCast_pow]; rfl
      have u3 : a * 2 ^ b < 2 ^ 31 := by unfold mxI at h4; omega
      show ivr _ (nI a <<< (nI b &&& 31)).toInt
      rw [pk_shlN _ b (sh_l b hb3) (Nat.lt_trans u3 (by decide)), nI_toInt u3, u2]
      exact ⟨u0, u1⟩
  · refine ⟨?_, fun e => by rcases e with e | e <;> cases e⟩
    cases hb : ile 0 i.1
    · rw [hb] at h; cases h; exact fullI _
    · rw [hb] at h; cases h
      have h1 := ile_t hb
      show ivr _ (x >>> (y &&& 31)).toInt
      have h3 := pk_shr x (y &&& 31) _ rfl
      rw [h3, Int.shiftRight_eq_div_pow]
      generalize ((y &&& 31).toBitVec.smod 32).toNat = k
      have pp : (0 : Int) < ((2 ^ k : Nat) : Int) := by rw [Int.natCast_pow]; exact Int.pow_pos (by decide)
      refine ⟨Int.ediv_nonneg (by omega) (Int.le_of_lt pp), ?_⟩
      have := Int.ediv_le_self (a := x.toInt) ((2 ^ k : Nat) : Int) (by omega)
      show x.toInt / ((2 ^ k : Nat) : Int) ≤ i.2
      omega
  · refine ⟨?_, fun e => by rcases e with e | e <;> cases e⟩
    cases hb : ile 1 j.1 && ile j.2 31 && ile j.2 j.1
    · rw [hb] at h; cases h; exact fullI _
    · rw [hb] at h; cases h
      rw [Bool.and_eq_true, Bool.and_eq_true] at hb
      have h1 := ile_t hb.1.1
      have h2 := ile_t hb.1.2
      have h3 := ile_t hb.2
      obtain ⟨b, hb', rfl, hb2⟩ := nI_ex (x := y) (by omega)
      have hb3 : b < 32 := by omega
      show ivr _ ((x.toUInt32 >>> ((nI b).toUInt32 &&& Int32.toUInt32 31)).toInt32).toInt
      have h4 := pk_ushr x (nI b) b (sh_u b hb3)
      generalize (x.toUInt32 >>> ((nI b).toUInt32 &&& Int32.toUInt32 31)).toInt32 = z at h4 ⊢
      obtain ⟨n, hn, rfl⟩ := nI_any z
      rw [pk_tn hn] at h4
      have hlt : x.toBitVec.toNat < 2 ^ 32 := x.toBitVec.isLt
      have e1 : 2 ^ 32 = 2 ^ (32 - b) * 2 ^ b := by rw [← Nat.pow_add]; congr 1; omega
      have h5 : n < 2 ^ (32 - b) := by
        rw [h4]
        exact Nat.div_lt_of_lt_mul (by rw [Nat.mul_comm, ← e1]; exact hlt)
      have h6 : 2 ^ (32 - b) ≤ 2 ^ 31 := Nat.pow_le_pow_right (by decide) (by omega)
      rw [nI_toInt (Nat.lt_of_lt_of_le h5 h6)]
      have e2 : j.1.toNat = b := by omega
      rw [e2]
      have q6 : ((2 ^ (32 - b) : Nat) : Int) = 2 ^ (32 - b) := Int.natCast_pow 2 _
      have h7 : (n : Int) < ((2 ^ (32 - b) : Nat) : Int) := Int.ofNat_lt.mpr h5
      rw [q6] at h7
      exact ⟨Int.natCast_nonneg _, by show (n : Int) ≤ 2 ^ (32 - b) - 1; omega⟩
  · refine ⟨?_, fun e => by rcases e with e | e <;> cases e⟩
    cases h
    show ivr _ (if x < y then y else x).toInt
    have g1 := imax_ge1 i.2 j.2
    have g2 := imax_ge2 i.2 j.2
    split
    · rename_i hlt
      rw [Int32.lt_iff_toInt_lt] at hlt
      refine ⟨?_, by show _ ≤ imax i.2 j.2; omega⟩
      show imax i.1 j.1 ≤ _
      rcases imax_or i.1 j.1 with e | e <;> rw [e] <;> omega
    · rename_i hlt
      rw [Int32.lt_iff_toInt_lt] at hlt
      refine ⟨?_, by show _ ≤ imax i.2 j.2; omega⟩
      show imax i.1 j.1 ≤ _
      rcases imax_or i.1 j.1 with e | e <;> rw [e] <;> omega
  · refine ⟨?_, fun e => by rcases e with e | e <;> cases e⟩
    cases h
    show ivr _ (if y < x then y else x).toInt
    have g1 := imin_le1 i.1 j.1
    have g2 := imin_le2 i.1 j.1
    split
    · rename_i hlt
      rw [Int32.lt_iff_toInt_lt] at hlt
      refine ⟨by show imin i.1 j.1 ≤ _; omega, ?_⟩
      show _ ≤ imin i.2 j.2
      rcases imin_or i.2 j.2 with e | e <;> rw [e] <;> omega
    · rename_i hlt
      rw [Int32.lt_iff_toInt_lt] at hlt
      refine ⟨by show imin i.1 j.1 ≤ _; omega, ?_⟩
      show _ ≤ imin i.2 j.2
      rcases imin_or i.2 j.2 with e | e <;> rw [e] <;> omega
  · rename_i n3 n4 n5 n6 n8 n9 n10 n11 n12
    cases h
    refine ⟨fullI _, fun e => ?_⟩
    rcases e with e | e
    · exact absurd e n3
    · exact absurd e n4
/-- add, sub, mul by a constant: the form itself -/
def linOf (o : Nat) (x y : eLF) : Option eLF := match o with
  | 0 => some (fadd x y)
  | 1 => some (fsub x y)
  | 2 => (match y.1 with
    | [] => some (fsc y.2 x)
    | _ => (match x.1 with
      | [] => some (fsc x.2 y)
      | _ => none))
  | _ => none
theorem linOf_ok (o : Nat) {ρ : List Int} {x y f : eLF} {a b : Int} (hx : lfv ρ x a) (hy : lfv ρ y b) (h : linOf o x y = some f) : ∃ c, lfv ρ f c ∧ Int32.ofInt c = ibf o (Int32.ofInt a) (Int32.ofInt b) ∧ ¬ (o = 3 ∨ o = 4) := by
  unfold linOf at h
  split at h
  · cases h; exact ⟨_, fadd_ok hx hy, Int32.ofInt_add a b, by decide⟩
  · cases h; exact ⟨_, fsub_ok hx hy, Int32.ofInt_sub a b, by decide⟩
  · split at h
    · rename_i hy0
      cases h
      have e : b = y.2 := fc_inv (ρ := ρ) (by unfold lfv at hy ⊢; rw [hy0] at hy; exact hy)
      refine ⟨y.2 * a, fsc_ok hx, ?_, by decide⟩
      rw [← e, Int.mul_comm]
      exact Int32.ofInt_mul a b
    · split at h
      · rename_i hx0
        cases h
        have e : a = x.2 := fc_inv (ρ := ρ) (by unfold lfv at hx ⊢; rw [hx0] at hx; exact hx)
        refine ⟨x.2 * b, fsc_ok hy, ?_, by decide⟩
        rw [← e]
        exact Int32.ofInt_mul a b
      · cases h
  · cases h
/-- max and min where it is plain which -/
def selOf (o : Nat) (i j : Int × Int) : Option Bool := match o with
  | 11 => bif ile j.2 i.1 then some true else bif ile i.2 j.1 then some false else none
  | 12 => bif ile j.2 i.1 then some false else bif ile i.2 j.1 then some true else none
  | 9 => bif ile 0 j.1 && ile j.2 0 then some true else none
  | _ => none
def i0 (x : Int) : Bool := match x with
  | Int.ofNat 0 => true
  | _ => false
def ibin0 (o : Nat) (env : eEv) (x y : eLF) : Option (eEv × eLF) := match x.1, y.1 with
  | [], [] => (bif (Nat.beq o 3 || Nat.beq o 4) && i0 (Int32.ofInt y.2).toInt then none else some (env, fc (ibf o (Int32.ofInt x.2) (Int32.ofInt y.2)).toInt))
  | _, _ => match linOf o x y with
    | some f => (match irg env f with
      | some _ => some (env, f)
      | none => some (fr env mnI mxI))
    | none => (match irg env x, irg env y with
      | some i, some j => (match selOf o i j with
        | some true => some (env, x)
        | some false => some (env, y)
        | none => (match rgOf o i j with
          | some r => some (fr env r.1 r.2)
          | none => none))
      | _, _ => none)
theorem selOf_ok (o : Nat) {i j : Int × Int} {b : Bool} {x y : Int32} (hx : ivr i x.toInt) (hy : ivr j y.toInt) (h : selOf o i j = some b) : ibf o x y = (if b = true then x else y) ∧ ¬ (o = 3 ∨ o = 4) := by
  have hx1 := hx.1
  have hx2 := hx.2
  have hy1 := hy.1
  have hy2 := hy.2
  unfold selOf at h
  split at h
  · refine ⟨?_, by decide⟩
    cases h1 : ile j.2 i.1
    · cases h2 : ile i.2 j.1
      · rw [h1, h2] at h; cases h
      · rw [h1, h2] at h; cases h
        have := ile_t h2
        show (if x < y then y else x) = y
        split
        · rfl
        · rename_i hn
          rw [Int32.lt_iff_toInt_lt] at hn
          exact Int32.toInt_inj.mp (by omega)
    · rw [h1] at h; cases h
      have := ile_t h1
      show (if x < y then y else x) = x
      rw [if_neg (by rw [Int32.lt_iff_toInt_lt]; omega)]
  · refine ⟨?_, by decide⟩
    cases h1 : ile j.2 i.1
    · cases h2 : ile i.2 j.1
      · rw [h1, h2] at h; cases h
      · rw [h1, h2] at h; cases h
        have := ile_t h2
        show (if y < x then y else x) = x
        rw [if_neg (by rw [Int32.lt_iff_toInt_lt]; omega)]
    · rw [h1] at h; cases h
      have := ile_t h1
      show (if y < x then y else x) = y
      split
      · rfl
      · rename_i hn
        rw [Int32.lt_iff_toInt_lt] at hn
        exact Int32.toInt_inj.mp (by omega)
  · refine ⟨?_, by decide⟩
    cases h1 : ile 0 j.1 && ile j.2 0
    · rw [h1] at h; cases h
    · rw [h1] at h; cases h
      rw [Bool.and_eq_true] at h1
      have e1 := ile_t h1.1
      have e2 := ile_t h1.2
      have e3 : y = 0 := Int32.toInt_inj.mp (by show y.toInt = 0; omega)
      subst e3
      exact sb_shr0 x
  · cases h
theorem ibin0_ok (o : Nat) {env : eEv} {ρ : List Int} (hE : eOk env ρ) {x y : eLF} {a b : Int} (hx : lfv ρ x a) (hy : lfv ρ y b) {r : eEv × eLF} (h : ibin0 o env x y = some r) :
    (∃ σ c, eOk r.1 (ρ ++ σ) ∧ lfv (ρ ++ σ) r.2 c ∧ Int32.ofInt c = ibf o (Int32.ofInt a) (Int32.ofInt b)) ∧ (o = 3 ∨ o = 4 → ¬ Int32.ofInt b = 0) := by
  have fin : ∀ (lo hi : Int), ivr (lo, hi) (ibf o (Int32.ofInt a) (Int32.ofInt b)).toInt → ∃ σ c, eOk (fr env lo hi).1 (ρ ++ σ) ∧ lfv (ρ ++ σ) (fr env lo hi).2 c ∧ Int32.ofInt c = ibf o (Int32.ofInt a) (Int32.ofInt b) := by
    intro lo hi hv
    obtain ⟨σ, h1, h2⟩ := fr_ok hE hv (fullIL _)
    exact ⟨σ, _, h1, h2, Int32.ofInt_toInt _⟩
  unfold ibin0 at h
  split at h
  · rename_i hx0 hy0
    have e : b = y.2 := fc_inv (ρ := ρ) (by unfold lfv at hy ⊢; rw [hy0] at hy; exact hy)
    have e' : a = x.2 := fc_inv (ρ := ρ) (by unfold lfv at hx ⊢; rw [hx0] at hx; exact hx)
    subst e; subst e'
    cases hb : (Nat.beq o 3 || Nat.beq o 4) && i0 (Int32.ofInt y.2).toInt
    · rw [hb] at h; cases h
      refine ⟨⟨[], _, by rw [List.append_nil]; exact hE, fc_ok _, Int32.ofInt_toInt _⟩, fun ho hz => ?_⟩
      have : (Nat.beq o 3 || Nat.beq o 4) = true := by rcases ho with rfl | rfl <;> rfl
      rw [this, hz] at hb
      cases hb
    · rw [hb] at h; cases h
  · split at h
    · rename_i f hf
      obtain ⟨c, h1, h2, h3⟩ := linOf_ok o hx hy hf
      split at h
      · cases h
        exact ⟨⟨[], c, by rw [List.append_nil]; exact hE, by rw [List.append_nil]; exact h1, h2⟩, fun ho => absurd ho h3⟩
      · cases h
        exact ⟨fin _ _ (fullI _), fun ho => absurd ho h3⟩
    · split at h
      · rename_i i j hi hj
        have hx1 := irg_ivr hE hi hx
        have hy1 := irg_ivr hE hj hy
        split at h
        · rename_i hs
          cases h
          obtain ⟨q1, q2⟩ := selOf_ok o hx1 hy1 hs
          exact ⟨⟨[], a, by rw [List.append_nil]; exact hE, by rw [List.append_nil]; exact hx, by rw [q1]; rfl⟩, fun ho => absurd ho q2⟩
        · rename_i hs
          cases h
          obtain ⟨q1, q2⟩ := selOf_ok o hx1 hy1 hs
          exact ⟨⟨[], b, by rw [List.append_nil]; exact hE, by rw [List.append_nil]; exact hy, by rw [q1]; rfl⟩, fun ho => absurd ho q2⟩
        · split at h
          · rename_i r' hr
            cases h
            obtain ⟨q1, q2⟩ := rgOf_ok o hx1 hy1 hr
            exact ⟨fin _ _ q1, q2⟩
          · cases h
      · cases h
/-- a form whose number is known is that number -/
def nfx (env : eEv) (x : eLF) : eLF := match irg env x with
  | some i => bif ile i.2 i.1 then fc i.1 else x
  | none => x
theorem nfx_ok {env : eEv} {ρ : List Int} (hE : eOk env ρ) {x : eLF} {a : Int} (hx : lfv ρ x a) : lfv ρ (nfx env x) a := by
  unfold nfx
  split
  · rename_i i hi
    cases hb : ile i.2 i.1
    · exact hx
    · have h1 := (irg_ok hE hi hx).1
      have h2 := ile_t hb
      have e : a = i.1 := by have := h1.1; have := h1.2; omega
      subst e
      exact fc_ok _
  · exact hx
def ibin (o : Nat) (env : eEv) (x y : eLF) : Option (eEv × eLF) := bif Nat.ble 3 o then ibin0 o env (nfx env x) (nfx env y) else ibin0 o env x y
theorem ibin_ok (o : Nat) {env : eEv} {ρ : List Int} (hE : eOk env ρ) {x y : eLF} {a b : Int} (hx : lfv ρ x a) (hy : lfv ρ y b) {r : eEv × eLF} (h : ibin o env x y = some r) :
    (∃ σ c, eOk r.1 (ρ ++ σ) ∧ lfv (ρ ++ σ) r.2 c ∧ Int32.ofInt c = ibf o (Int32.ofInt a) (Int32.ofInt b)) ∧ (o = 3 ∨ o = 4 → ¬ Int32.ofInt b = 0) := by
  unfold ibin at h
  cases hb : Nat.ble 3 o
  · rw [hb] at h
    exact ibin0_ok o hE hx hy h
  · rw [hb] at h
    exact ibin0_ok o hE (nfx_ok hE hx) (nfx_ok hE hy) h
end
