noncomputable section
def pOp (o : Nat) (z x y : Int) : Prop := (Int32.ofInt z).toInt = z ∧ Int32.ofInt z = ibf o (Int32.ofInt x) (Int32.ofInt y)
def pI2b (z x : Int) : Prop := z = sg8 x
def pCb (k i c : Int) : Prop := k = 0 → 0 ≤ i ∧ c = kwB i.toNat
def pInl (n M s : Int) : Prop := ¬ (M < n ∧ M ≤ s)
def pRn (z s : Int) : Prop := bRn (tB z s)
def P3b (t : Nat) (a b : Int) : Prop := match t with
  | 30 => pBlk a b
  | 31 => pLet a b
  | 32 => pDig a b
  | 33 => pSig a b
  | 52 => pI2b a b
  | 77 => pWof a b
  | 78 => pIsn a b
  | 86 => a ≠ b
  | 87 => pRn a b
  | 88 => pKnw a b
  | 104 => pEq a b
  | 119 => pHlf a b
  | 136 => pTopl a b
  | 137 => pNe a b
  | 147 => pSzp a b
  | _ => False
def P3a (t : Nat) (a : Int) : Prop := match t with
  | 57 => a ≠ 3
  | 85 => a ≠ 1
  | 97 => 1 ≤ a
  | 120 => pHln a
  | 148 => pNbg a
  | _ => False
def P3c (t : Nat) (a b c : Int) : Prop := match t with
  | 34 => aSp a b c
  | 41 => pInl a b c
  | 45 => pOp 5 a b c
  | 46 => pOp 6 a b c
  | 48 => pOp 8 a b c
  | 49 => pOp 9 a b c
  | 50 => pOp 10 a b c
  | 55 => pNam a b c
  | 60 => pCb a b c
  | 62 => pBit a b c
  | 63 => pSetb a b c
  | 71 => pTape a b c
  | 79 => pNamr a b c
  | 91 => aLf a b c
  | 92 => pCtr a b c
  | 94 => pNkr a b c
  | 95 => pKnr a b c
  | 98 => pMax a b c
  | 99 => pMin a b c
  | 108 => pUns a b c
  | 113 => pMkv a b c
  | 118 => pRoom a b c
  | 138 => pNwd a b c
  | _ => False
def P3d (t : Nat) (a b c d : Int) : Prop := match t with
  | 35 => aSk a b c d
  | 37 => aVal a b c d
  | 38 => aWd a b c d
  | 84 => aWr a b c d
  | 39 => aRe a b c d
  | 40 => aRk a b c d
  | 43 => aKw a b c d
  | 56 => pSgn a b c d
  | 58 => pWin a b c d
  | 59 => pNotf a b c d
  | 64 => pAns a b c d
  | 72 => pAdd sg8 a b c d
  | 73 => pAdd us8 a b c d
  | 76 => pIsw a b c d
  | 81 => pNslp a b c d
  | 89 => pBitf a b c d
  | 93 => pCnt a b c d
  | 101 => pER a b c d
  | 112 => pIsl a b c d
  | 146 => pSz a b c d
  | _ => False
def P3e (t : Nat) (a b c d e : Int) : Prop := match t with
  | 36 => aRc a b c d e
  | 61 => pFnd a b c d e
  | 80 => pSlp a b c d e
  | 90 => aRg a b c d e
  | 110 => pBel a b c d e
  | 111 => pIsm a b c d e
  | 115 => pCnw a b c d e
  | 116 => pLft a b c d e
  | 117 => pBlr a b c d e
  | 121 => pMke a b c d e
  | 150 => pBRF a b c d e
  | _ => False
def P3h (t : Nat) (a b c d e f g h : Int) : Prop := match t with
  | 74 => pFeed sg8 a b c d e f g h
  | 75 => pFeed us8 a b c d e f g h
  | 105 => pMks a b c d e f g h
  | 134 => pSAC a b c d e f g h
  | 144 => pBAC a b c d e f g h
  | _ => False
def P3j (t : Nat) (a b c d e f g h i j : Int) : Prop := match t with
  | 53 => pTokC a b c d e f g h i j
  | 54 => pTokR a b c d e f g h i j
  | _ => False
def P3f (t : Nat) (a b c d e f : Int) : Prop := match t with
  | 96 => pFndr a b c d e f
  | 107 => pMkc a b c d e f
  | 109 => pBlc a b c d e f
  | 114 => pMkl a b c d e f
  | 135 => pSAR a b c d e f
  | 145 => pBAR a b c d e f
  | _ => False
def P3g (t : Nat) (a b c d e f g : Int) : Prop := match t with
  | 42 => aKm a b c d e f g
  | 106 => pMkr a b c d e f g
  | 142 => pPBP a b c d e f g
  | 149 => pBAF a b c d e f g
  | _ => False
def P3i (t : Nat) (a b c d e f g h i : Int) : Prop := match t with
  | 132 => pPSP a b c d e f g h i
  | 140 => pPBC a b c d e f g h i
  | _ => False
def P3l (t : Nat) (a b c d e f g h i j k l : Int) : Prop := match t with
  | 67 => pPR a b c d e f g h i j k l
  | 141 => pPBR a b c d e f g h i j k l
  | _ => False
def P3n (t : Nat) (a b c d e f g h i j k l m n : Int) : Prop := match t with
  | 131 => pPSR a b c d e f g h i j k l m n
  | 143 => pPBT a b c d e f g h i j k l m n
  | _ => False
def P3p (t : Nat) (a b c d e f g h i j k l m n o p : Int) : Prop := match t with
  | 130 => pPS a b c d e f g h i j k l m n o p
  | _ => False
def P3k (t : Nat) (a b c d e f g h i j k : Int) : Prop := match t with
  | 100 => pEC a b c d e f g h i j k
  | 102 => pVV a b c d e f g h i j k
  | 133 => pPSC a b c d e f g h i j k
  | _ => False
def P3 (t : Nat) (xs : List Int) : Prop := match xs with
  | [a] => P3a t a
  | [a, b] => P3b t a b
  | [a, b, c] => P3c t a b c
  | [a, b, c, d] => P3d t a b c d
  | [a, b, c, d, e] => P3e t a b c d e
  | [a, b, c, d, e, f] => P3f t a b c d e f
  | [a, b, c, d, e, f, g] => P3g t a b c d e f g
  | [a, b, c, d, e, f, g, h] => P3h t a b c d e f g h
  | [a, b, c, d, e, f, g, h, i] => P3i t a b c d e f g h i
  | [a, b, c, d, e, f, g, h, i, j, k, l, m, n] => P3n t a b c d e f g h i j k l m n
  | [a, b, c, d, e, f, g, h, i, j, k, l, m, n, o, p] => P3p t a b c d e f g h i j k l m n o p
  | [a, b, c, d, e, f, g, h, i, j] => P3j t a b c d e f g h i j
  | [a, b, c, d, e, f, g, h, i, j, k] => P3k t a b c d e f g h i j k
  | [a, b, c, d, e, f, g, h, i, j, k, l, m] => t = 103 ∧ pVI a b c d e f g h i j k l m
  | [a, b, c, d, e, f, g, h, i, j, k, l] => P3l t a b c d e f g h i j k l
  | [a, b, c, d, e, f, g, h, i, j, k, l, m, n, o, p, q] => t = 69 ∧ pPRT a b c d e f g h i j k l m n o p q
  | [a, b, c, d, e, f, g, h, i, j, k, l, m, n, o, p, q, r] => t = 65 ∧ pPC a b c d e f g h i j k l m n o p q r
  | _ => False
def PR (t : Nat) (xs : List Int) : Prop := match t, xs with
  | 1, [x, z, i] => pDec x z i
  | 2, [z', z, i, v] => pUpd z' z i v
  | 3, [z, a, b, l, h] => pRg z a b l h
  | 4, [S, N, m] => pSent S N m
  | 6, nx :: kp :: R :: zs => pRing nx kp R zs
  | 7, [z, b] => pTree z b
  | 8, [z, m] => pLine z m
  | 9, [A, G, Q, m, R] => pBook A G Q m R
  | 10, [z] => pSnap z
  | 11, [z, n, b, a, m] => pCpy z n b a m
  | 12, [z, n, a, b] => pOut z n a b
  | 13, [z, b] => pNow z b
  | 14, [z, b, f] => 1 ≤ f → pNow z b
  | 20, [s, n] => pI19 s n
  | 21, [w, a, c, k] => pInd w a c k
  | 22, [k, x] => pI1 k x
  | 23, [t] => pM4 t
  | t, xs => P3 t xs
theorem PR3 {t : Nat} {xs : List Int} (h : 30 ≤ t) : PR t xs = P3 t xs := by
  unfold PR
  split <;> first
    | rfl
    | omega
theorem P3_op5 {z x y : Int} (h1 : (Int32.ofInt z).toInt = z) (h2 : Int32.ofInt z = ibf 5 (Int32.ofInt x) (Int32.ofInt y)) : PR (40 + 5) [z, x, y] := by rw [PR3 (by decide)]; exact ⟨h1, h2⟩
theorem P3_op6 {z x y : Int} (h1 : (Int32.ofInt z).toInt = z) (h2 : Int32.ofInt z = ibf 6 (Int32.ofInt x) (Int32.ofInt y)) : PR (40 + 6) [z, x, y] := by rw [PR3 (by decide)]; exact ⟨h1, h2⟩
theorem P3_op8 {z x y : Int} (h1 : (Int32.ofInt z).toInt = z) (h2 : Int32.ofInt z = ibf 8 (Int32.ofInt x) (Int32.ofInt y)) : PR (40 + 8) [z, x, y] := by rw [PR3 (by decide)]; exact ⟨h1, h2⟩
theorem P3_op9 {z x y : Int} (h1 : (Int32.ofInt z).toInt = z) (h2 : Int32.ofInt z = ibf 9 (Int32.ofInt x) (Int32.ofInt y)) : PR (40 + 9) [z, x, y] := by rw [PR3 (by decide)]; exact ⟨h1, h2⟩
theorem P3_op10 {z x y : Int} (h1 : (Int32.ofInt z).toInt = z) (h2 : Int32.ofInt z = ibf 10 (Int32.ofInt x) (Int32.ofInt y)) : PR (40 + 10) [z, x, y] := by rw [PR3 (by decide)]; exact ⟨h1, h2⟩
theorem P3_i2b {z x : Int} (h : z = sg8 x) : PR 52 [z, x] := by rw [PR3 (by decide)]; exact h
end
