noncomputable section
/-! short words for data -/
def yZ (n : Nat) : Int := bif Nat.beq (n % 2) 0 then Int.ofNat (n / 2) else Int.negSucc (n / 2)
def yv (n : Nat) : eLF := ([(n, 1)], 0)
def yk (n : Nat) : eLF := ([], Int.ofNat n)
def ym (n : Nat) : eLF := ([], Int.negSucc n)
def yg (l : List (Nat × Nat)) (c : Nat) : eLF := (l.map (fun q => (q.1, yZ q.2)), yZ c)
def yi (n : Nat) : eSV := .inl ([(n, 1)], 0)
def yj (n : Nat) : eSV := .inl ([], Int.ofNat n)
def yn (n : Nat) : eSV := .inl ([], Int.negSucc n)
def yI (f : eLF) : eSV := .inl f
def yl (n : Nat) : eSV := .inr (.inl ([(n, 1)], 0))
def yL (f : eLF) : eSV := .inr (.inl f)
def y0 : eSV := .inr (.inr none)
def yr (n : Nat) : eSV := .inr (.inr (some n))
def yis : Nat → Nat → List eSV
  | _, 0 => []
  | n, k + 1 => yi n :: yis (n + 1) k
def yrs : Nat → Nat → List eSV
  | _, 0 => []
  | n, k + 1 => yr n :: yrs (n + 1) k
def yxr : Nat → Nat → eSg
  | _, 0 => []
  | n, k + 1 => (1, .inl (.inr (yr n))) :: yxr (n + 1) k
def yX (n : Nat) (v : eSV) : Nat × ePc := (n, .inl (.inr v))
def yw (n a b : Nat) : Nat × ePc := (n, .inl (.inl (Int.ofNat a, Int.ofNat b)))
def yW (n a b : Nat) : Nat × ePc := (n, .inl (.inl (yZ a, yZ b)))
def yf (n : Nat) : Nat × ePc := (n, .inl (.inl (-2147483648, 2147483647)))
def yF (n : Nat) : Nat × ePc := (n, .inl (.inl (-9223372036854775808, 9223372036854775807)))
def yz (n v : Nat) : Nat × ePc := (n, .inr (0, v))
def yzl (n v : Nat) : Nat × ePc := (n, .inr (1, v))
/-- an array's number, from a place on -/
def ycd (c o : Nat) : Nat × ePc := (0, .inr (7, Nat.add (Nat.mul c 4096) o))
/-- intervals -/
def ya (a b : Nat) : Int × Int := (Int.ofNat a, Int.ofNat b)
def yA (a b : Nat) : Int × Int := (yZ a, yZ b)
/-- so many numbers of a pattern of w intervals, in a packed list -/
def yEs (q : Nat × Nat × Nat) (ih : eEv) : eEv := (Nat.add (Nat.mul q.1 q.2.1) ih.1, Nat.add (Nat.mul q.2.2 (Nat.div (Nat.sub (Nat.pow 2 (Nat.mul 144 (Nat.mul q.1 q.2.1))) 1) (Nat.sub (Nat.pow 2 (Nat.mul 144 q.2.1)) 1))) (Nat.mul ih.2 (Nat.pow 2 (Nat.mul 144 (Nat.mul q.1 q.2.1)))))
def yE (l : List (Nat × Nat × Nat)) : eEv := @List.rec (Nat × Nat × Nat) (fun _ => eEv) (0, 0) (fun q _ ih => yEs q ih) l
def yR (n : Nat) (i : Int × Int) : Nat × Nat × Nat := (n, 1, epk [i])
def yu (n : Nat) : Nat × Nat × Nat := yR n (-2147483648, 2147483647)
def yU (n : Nat) : Nat × Nat × Nat := yR n (-9223372036854775808, 9223372036854775807)
/-- numbers of which nothing is said -/
def yN (n : Nat) : Nat × Nat × Nat := (n, 1, 0)
def yb (a b : Nat) : Nat × Nat × Nat := yR 1 (Int.ofNat a, Int.ofNat b)
def yEm (b : List (Int × Int)) (n : Nat) : Nat × Nat × Nat := (n, b.length, epk b)
/-- cells -/
def yo (c : Nat) (l : List eSV) : eSC := .inl (c, l)
def yt (t n : Nat) (l : eSg) : eSC := .inr (.inl (t, n, l))
def yT (n : Nat) (l : eSg) : eSC := .inr (.inr (.inl (n, l)))
def yq (t n : Nat) (l : eSg) : eSC := .inr (.inr (.inr (t, n, l)))
def hsr : Nat → Nat → List (List Nat)
  | _, 0 => []
  | n, k + 1 => [0, n] :: hsr (n + 1) k
def y3 : Nat → Nat → List (List Nat)
  | _, 0 => []
  | n, k + 1 => [] :: y3 n k
def yh (a n : Nat) : eTi := .inr (a, n)
def ye (f : eLF) : eTi := .inl f
end
