noncomputable section
/-! arrays as numbers: a digit of 64 bits an element -/
def dcd : Nat → Int → Int
  | 0, z => z % 18446744073709551616 - 9223372036854775808
  | j + 1, z => dcd j (z / 18446744073709551616)
def ecd : Nat → (Nat → Int) → Int
  | 0, _ => 0
  | n + 1, f => f 0 + 9223372036854775808 + 18446744073709551616 * ecd n (fun j => f (j + 1))
def b64 (x : Int) : Prop := -9223372036854775808 ≤ x ∧ x ≤ 9223372036854775807
theorem dcd_rng : ∀ (j : Nat) (z : Int), b64 (dcd j z)
  | 0, z => by
    have h1 := Int.emod_nonneg z (show (18446744073709551616 : Int) ≠ 0 by decide)
    have h2 := Int.emod_lt_of_pos z (show (0 : Int) < 18446744073709551616 by decide)
    show -9223372036854775808 ≤ z % 18446744073709551616 - 9223372036854775808 ∧ z % 18446744073709551616 - 9223372036854775808 ≤ 9223372036854775807
    omega
  | j + 1, z => dcd_rng j _
theorem dcd_ecd : ∀ (n : Nat) (f : Nat → Int), (∀ j, j < n → b64 (f j)) → ∀ j, j < n → dcd j (ecd n f) = f j
  | 0, f, h, j, hj => by omega
  | n + 1, f, h, 0, _ => by
    have h1 := h 0 (by omega)
    show (f 0 + 9223372036854775808 + 18446744073709551616 * ecd n (fun j => f (j + 1))) % 18446744073709551616 - 9223372036854775808 = f 0
    generalize ecd n (fun j => f (j + 1)) = e
    unfold b64 at h1
    omega
  | n + 1, f, h, j + 1, hj => by
    have h1 := h 0 (by omega)
    have e : (f 0 + 9223372036854775808 + 18446744073709551616 * ecd n (fun j => f (j + 1))) / 18446744073709551616 = ecd n (fun j => f (j + 1)) := by
      generalize ecd n (fun j => f (j + 1)) = e
      unfold b64 at h1
      omega
    show dcd j ((f 0 + 9223372036854775808 + 18446744073709551616 * ecd n (fun j => f (j + 1))) / 18446744073709551616) = f (j + 1)
    rw [e]
    exact dcd_ecd n (fun j => f (j + 1)) (fun j hj => h (j + 1) (by omega)) j (by omega)
/-- one element put -/
def ucf (z : Int) (i : Nat) (v : Int) (j : Nat) : Int := @ite Int (j = i) (Nat.decEq j i) v (dcd j z)
def ucd (z : Int) (i : Nat) (v : Int) : Int := ecd 4096 (ucf z i v)
theorem dcd_ucd {z v : Int} {i : Nat} (hv : b64 v) {j : Nat} (hj : j < 4096) : dcd j (ucd z i v) = ucf z i v j := by
  refine dcd_ecd 4096 (ucf z i v) (fun j _ => ?_) j hj
  unfold ucf
  split
  · exact hv
  · exact dcd_rng j z
theorem dcd_us {z v : Int} {i : Nat} (hv : b64 v) (hi : i < 4096) : dcd i (ucd z i v) = v := by
  rw [dcd_ucd hv hi]
  exact if_pos rfl
theorem dcd_un {z v : Int} {i j : Nat} (hv : b64 v) (hj : j < 4096) (h : j ≠ i) : dcd j (ucd z i v) = dcd j z := by
  rw [dcd_ucd hv hj]
  exact if_neg h
/-! what may be said of numbers, by tags -/
def pDec (x z i : Int) : Prop := 0 ≤ i ∧ dcd i.toNat z = x
def pUpd (z' z i v : Int) : Prop := 0 ≤ i ∧ i < 4096 ∧ b64 v ∧ z' = ucd z i.toNat v
def pRg (z a b l h : Int) : Prop := ∀ j : Int, 0 ≤ j → a ≤ j → j < b → j < 4096 → l ≤ dcd j.toNat z ∧ dcd j.toNat z ≤ h
def pSent (S N m : Int) : Prop := ∀ j : Int, 0 ≤ j → j < m → j < 4096 → dcd j.toNat S = 19 → 0 ≤ dcd j.toNat N ∧ dcd j.toNat N ≤ 5
/-- the last kp of a ring of eight, ahead of nx -/
def pRing (nx kp R : Int) (zs : List Int) : Prop := ∀ (k : Nat) (z : Int), zs[k]? = some z → 0 ≤ nx → nx < 8 → (nx - 1 - k) % 8 < kp → pRg z 0 6 (-1) (R - 1)
def pNode (z b : Int) (k : Int) : Prop := (dcd (b + 4 * k).toNat z = 1 → 0 ≤ dcd (b + 4 * k + 1).toNat z ∧ dcd (b + 4 * k + 1).toNat z < k) ∧ (dcd (b + 4 * k).toNat z = 2 ∨ dcd (b + 4 * k).toNat z = 3 → 0 ≤ dcd (b + 4 * k + 1).toNat z ∧ dcd (b + 4 * k + 1).toNat z < k ∧ 0 ≤ dcd (b + 4 * k + 2).toNat z ∧ dcd (b + 4 * k + 2).toNat z < k) ∧ (dcd (b + 4 * k).toNat z = 69 → 0 ≤ dcd (b + 4 * k + 1).toNat z ∧ dcd (b + 4 * k + 1).toNat z ≤ 5)
def pTree (z b : Int) : Prop := ∀ k : Int, 0 ≤ k → k < 40 → pNode z b k
def pLine (z e : Int) : Prop := ∀ t : Int, 0 ≤ t → t % 4 = 0 → t < e → t < 160 → 0 ≤ dcd t.toNat z ∧ dcd t.toNat z ≤ 3 ∧ 0 ≤ dcd (t + 1).toNat z ∧ dcd (t + 1).toNat z ≤ 60 ∧ (dcd t.toNat z ≤ 1 → dcd (t + 1).toNat z ≤ 5) ∧ -1 ≤ dcd (t + 2).toNat z ∧ dcd (t + 2).toNat z ≤ 7
def pBook (A G Q m R : Int) : Prop := ∀ k : Int, 0 ≤ k → k < m → k < 40 → ((dcd k.toNat A = 9 ∨ dcd k.toNat A = 10) → 0 ≤ dcd k.toNat G ∧ dcd k.toNat G ≤ 5) ∧ (dcd k.toNat A = 9 → 0 ≤ dcd k.toNat Q ∧ dcd k.toNat Q < R)
def pSnap (z : Int) : Prop := ∀ b j : Int, 0 ≤ b → b < 8 → 10 ≤ j → j < 16 → -1 ≤ dcd (36 * b + j).toNat z ∧ dcd (36 * b + j).toNat z ≤ 7
def pCpy (z n b a m : Int) : Prop := ∀ j : Int, 0 ≤ j → j < m → b + j < 4096 → dcd (b + j).toNat z = dcd (a + j).toNat n
def pOut (z n a b : Int) : Prop := ∀ j : Int, 0 ≤ j → j < 4096 → (j < a ∨ b ≤ j) → dcd j.toNat z = dcd j.toNat n
def pNow (z b : Int) : Prop := pRg z b (b + 1) 0 5 ∧ pRg z (b + 1) (b + 2) 0 8 ∧ pRg z (b + 2) (b + 3) 0 6 ∧ pRg z (b + 3) (b + 4) 1 30 ∧ pRg z (b + 18) (b + 26) 0 4 ∧ pRg z (b + 60) (b + 66) (-1) 7 ∧ pRg z (b + 82) (b + 88) (-1) 7 ∧ pRg z (b + 109) (b + 110) 0 39 ∧ pTree z (b + 110)
def pI19 (s n : Int) : Prop := s = 19 → 0 ≤ n ∧ n ≤ 5
def pInd (w a c k : Int) : Prop := (w = 1 → 0 ≤ a ∧ a < k) ∧ (w = 2 ∨ w = 3 → 0 ≤ a ∧ a < k ∧ 0 ≤ c ∧ c < k) ∧ (w = 69 → 0 ≤ a ∧ a ≤ 5)
def pI1 (k x : Int) : Prop := k ≤ 1 → x ≤ 5
def pM4 (t : Int) : Prop := t % 4 = 0
end
