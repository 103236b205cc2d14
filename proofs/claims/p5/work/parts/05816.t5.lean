noncomputable section
/-! T5: how high the lake can have stood (printed by wip/v5/gen/proofs7.py) -/
def m2x (a b : Int) : Int := @ite Int (b ≤ a) (Int.decLe _ _) a b
def m2n (a b : Int) : Int := @ite Int (a ≤ b) (Int.decLe _ _) a b
theorem m2x_c (a b : Int) : (b ≤ a ∧ m2x a b = a) ∨ (a < b ∧ m2x a b = b) := by
  by_cases h : b ≤ a
  · exact Or.inl ⟨h, if_pos h⟩
  · exact Or.inr ⟨by omega, if_neg h⟩
theorem m2n_c (a b : Int) : (a ≤ b ∧ m2n a b = a) ∨ (b < a ∧ m2n a b = b) := by
  by_cases h : a ≤ b
  · exact Or.inl ⟨h, if_pos h⟩
  · exact Or.inr ⟨by omega, if_neg h⟩
def pMax (x a b : Int) : Prop := x = m2x a b
def pMin (x a b : Int) : Prop := x = m2n a b
def pEq (a b : Int) : Prop := a = b
def mB (z j : Int) : Int := us8 (dcd j.toNat z)
def mLo (z : Int) (ft : Int → Int) : Nat → Int
  | 0 => 0
  | k + 1 => cI (mB z (2 * (k : Int) + 1) = 1) (m2x (mLo z ft k) (ft (mB z (2 * (k : Int))) + 1)) (mLo z ft k)
def mHi (z : Int) (ft : Int → Int) : Nat → Int
  | 0 => 99
  | k + 1 => cI (mB z (2 * (k : Int) + 1) = 1) (mHi z ft k) (m2n (mHi z ft k) (ft (mB z (2 * (k : Int)))))
def mOk (z R : Int) (k : Nat) : Prop := ∀ j : Nat, j < k → 0 ≤ mB z (2 * (j : Int)) ∧ mB z (2 * (j : Int)) < R ∧ (mB z (2 * (j : Int) + 1) = 0 ∨ mB z (2 * (j : Int) + 1) = 1)
def wetF (ft : Int → Int) (l h r : Int) : Int := m2x 0 (h - m2x (l - 1) (ft r))
def lftF (ft : Int → Int) (l h r : Int) : Int := m2x (wetF ft l h r) (h - l + 1 - wetF ft l h r)
def pBl (ft : Int → Int) (R l h b : Int) : Prop := 0 ≤ b ∧ b < R ∧ (∀ r : Int, 0 ≤ r → r < R → lftF ft l h b ≤ lftF ft l h r) ∧ ∀ r : Int, 0 ≤ r → r < b → lftF ft l h b < lftF ft l h r
def pMk (z n : Int) (ft : Int → Int) (R a x y b : Int) : Prop := (∃ k : Nat, n = 2 * (k : Int) ∧ 1 ≤ k ∧ k ≤ 8 ∧ mOk z R k ∧ ((mHi z ft k < mLo z ft k ∧ a = 0) ∨ (mLo z ft k ≤ mHi z ft k ∧ x = mLo z ft k ∧ y = mHi z ft k ∧ a = y - x + 1 ∧ pBl ft R x y b))) ∨ (a = -1 ∧ ∀ k : Nat, n = 2 * (k : Int) → 1 ≤ k → k ≤ 8 → ¬ mOk z R k)
def ftC (zt : Int) : Int → Int := fun j => dcd j.toNat zt
def ftR (zr : Int) : Int → Int := fun j => dcd (26 + j).toNat zr
def rmR (zr : Int) : Int := dcd (1 : Int).toNat zr
def pMks (z n zt R a x y b : Int) : Prop := pMk z n (ftC zt) R a x y b
def pMkr (z n zr a x y b : Int) : Prop := pMk z n (ftR zr) (rmR zr) a x y b
def pMkc (z zt R k l h : Int) : Prop := 0 ≤ k ∧ mOk z R k.toNat ∧ l = mLo z (ftC zt) k.toNat ∧ h = mHi z (ftC zt) k.toNat
def pUns (z i x : Int) : Prop := x = mB z i
def pBlc (zt l h r b q : Int) : Prop := (r = 0 ∧ b = -1 ∧ q = 101) ∨ (0 ≤ b ∧ b < r ∧ q = lftF (ftC zt) l h b ∧ (∀ j : Int, 0 ≤ j → j < r → q ≤ lftF (ftC zt) l h j) ∧ ∀ j : Int, 0 ≤ j → j < b → q < lftF (ftC zt) l h j)
def pBel (zt R l h b : Int) : Prop := 1 ≤ R → pBl (ftC zt) R l h b
def pRoom (zr r v : Int) : Prop := iff1 (0 ≤ r ∧ r < rmR zr) v
def pHlf (n q : Int) : Prop := n = 2 * q ∧ 1 ≤ q ∧ q ≤ 8
def pHln (n : Int) : Prop := n % 2 = 0 ∧ 2 ≤ n ∧ n ≤ 16
def pMkv (z zr k : Int) : Prop := 0 ≤ k ∧ k % 2 = 0 ∧ mOk z (rmR zr) (k / 2).toNat
def mAg (z zr v : Int) (j : Nat) : Prop := (ftR zr (mB z (2 * (j : Int))) < v ↔ mB z (2 * (j : Int) + 1) = 1)
def pIsl (z zr v k : Int) : Prop := 0 ≤ k ∧ k % 2 = 0 ∧ ∀ j : Nat, 2 * (j : Int) < k → mAg z zr v j
def pIsm (z n zr v r : Int) : Prop := iff1 (∀ j : Nat, 2 * (j : Int) < n → mAg z zr v j) r
def cntF (l h v : Int) : Int := m2x 0 (m2n v (h + 1) - l)
def pMkl (z n zr zm v c : Int) : Prop := pHln n ∧ mOk z (rmR zr) (n / 2).toNat ∧ c = cntF (mLo z (ftR zr) (n / 2).toNat) (mHi z (ftR zr) (n / 2).toNat) v ∧ ∀ i : Int, 0 ≤ i → i < c → dcd i.toNat zm = mLo z (ftR zr) (n / 2).toNat + i
def pMke (z n zr zm c : Int) : Prop := pMkl z n zr zm 100 c
def wcF (zm f : Int) : Nat → Int
  | 0 => 0
  | k + 1 => wcF zm f k + @ite Int (f < dcd k zm) (Int.decLt _ _) 1 0
def pCnw (zm zr r k w : Int) : Prop := 0 ≤ k ∧ w = wcF zm (ftR zr r) k.toNat
def lfR (zm zr c r : Int) : Int := m2x (wcF zm (ftR zr r) c.toNat) (c - wcF zm (ftR zr r) c.toNat)
def pLft (zm zr c r x : Int) : Prop := x = lfR zm zr c r
def pBlr (zm zr c r b : Int) : Prop := (r = 1 ∨ r ≤ rmR zr) ∧ 0 ≤ b ∧ b < r ∧ (∀ j : Int, 0 ≤ j → j < r → lfR zm zr c b ≤ lfR zm zr c j) ∧ ∀ j : Int, 0 ≤ j → j < b → lfR zm zr c b < lfR zm zr c j
end
