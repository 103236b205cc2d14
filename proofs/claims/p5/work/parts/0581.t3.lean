noncomputable section
/-! T3: bytes, runs, tokens -/
def cI {α : Type} (P : Prop) (a b : α) : α := @ite α P (Classical.propDecidable P) a b
theorem cI_t {α : Type} {P : Prop} {a b : α} (h : P) : cI P a b = a := if_pos h
theorem cI_f {α : Type} {P : Prop} {a b : α} (h : ¬ P) : cI P a b = b := if_neg h
def tB (z i : Int) : Int := dcd i.toNat z
def bBl (b : Int) : Prop := b = 32 ∨ b = 10
def bLt (b : Int) : Prop := 97 ≤ b ∧ b ≤ 122
def bDg (b : Int) : Prop := 48 ≤ b ∧ b ≤ 57
def bSg (b : Int) : Prop := (59 ≤ b ∧ b ≤ 62) ∨ b = 40 ∨ b = 41
def bRn (b : Int) : Prop := bLt b ∨ bDg b
def iff1 (P : Prop) (r : Int) : Prop := (r = 1 ∧ P) ∨ (r = 0 ∧ ¬ P)
def pBlk (b r : Int) : Prop := iff1 (bBl b) r
def pLet (b r : Int) : Prop := iff1 (bLt b) r
def pDig (b r : Int) : Prop := iff1 (bDg b) r
def pSig (b r : Int) : Prop := iff1 (bSg b) r
theorem iff1_t {P : Prop} {r : Int} (h : iff1 P r) (hr : r = 1) : P := by
  rcases h with h | h
  · exact h.2
  · omega
theorem iff1_f {P : Prop} {r : Int} (h : iff1 P r) (hr : r = 0) : ¬ P := by
  rcases h with h | h
  · omega
  · exact h.2
theorem dec_tB {x z i : Int} (h : pDec x z i) : tB z i = x := h.2
def aAll (P : Int → Prop) (z s i : Int) : Prop := ∀ j : Int, s ≤ j → j < i → P (tB z j)
theorem aAll_0 {P : Int → Prop} {z s : Int} : aAll P z s s := fun j h1 h2 => by omega
theorem aAll_s {P : Int → Prop} {z s i : Int} (h : aAll P z s i) (h' : P (tB z i)) : aAll P z s (i + 1) := fun j h1 h2 => by
  by_cases e : j = i
  · rw [e]; exact h'
  · exact h j h1 (by omega)
theorem aAll_i {P : Int → Prop} {z s i : Int} (h : aAll P z s (i + 1)) (hs : s ≤ i) : aAll P z s i ∧ P (tB z i) := ⟨fun j h1 h2 => h j h1 (by omega), h i hs (by omega)⟩
def aSp (z p i : Int) : Prop := 0 ≤ p ∧ p ≤ i ∧ aAll bBl z p i
def aSk (z n p s : Int) : Prop := aSp z p s ∧ s ≤ n ∧ (s = n ∨ ¬ bBl (tB z s))
theorem aSk_u {z n p s s' : Int} (h : aSk z n p s) (h' : aSk z n p s') : s = s' := by
  obtain ⟨⟨a1, a2, a3⟩, a4, a5⟩ := h
  obtain ⟨⟨b1, b2, b3⟩, b4, b5⟩ := h'
  rcases Int.lt_trichotomy s s' with g | g | g
  · rcases a5 with e | e
    · omega
    · exact absurd (b3 s a2 g) e
  · exact g
  · rcases b5 with e | e
    · omega
    · exact absurd (a3 s' b2 g) e
def aRc (z s i l d : Int) : Prop := 0 ≤ s ∧ s ≤ i ∧ aAll bRn z s i ∧ 0 ≤ l ∧ 0 ≤ d ∧ l + d = i - s ∧ (d = 0 ↔ aAll bLt z s i) ∧ (l = 0 ↔ aAll bDg z s i)
theorem lt_dg {b : Int} (h : bLt b) (h' : bDg b) : False := by unfold bLt at h; unfold bDg at h'; omega
def aRe (z n s e : Int) : Prop := s ≤ e ∧ e ≤ n ∧ aAll bRn z s e ∧ (e = n ∨ ¬ bRn (tB z e))
theorem aRe_u {z n s e e' : Int} (h : aRe z n s e) (h' : aRe z n s e') : e = e' := by
  obtain ⟨a2, a4, a3, a5⟩ := h
  obtain ⟨b2, b4, b3, b5⟩ := h'
  rcases Int.lt_trichotomy e e' with g | g | g
  · rcases a5 with q | q
    · omega
    · exact absurd (b3 e a2 g) q
  · exact g
  · rcases b5 with q | q
    · omega
    · exact absurd (a3 e' b2 g) q
def isW (z s e : Int) : Prop := aAll bLt z s e ∧ e - s ≤ 7
def isN (z s e : Int) : Prop := aAll bDg z s e ∧ e - s ≤ 3
def aRk (z s e k : Int) : Prop := (k = 2 ∧ isW z s e) ∨ (k = 3 ∧ isN z s e) ∨ (k = 0 ∧ ¬ isW z s e ∧ ¬ isN z s e)
def numF (z s : Int) : Nat → Int
  | 0 => 0
  | k + 1 => 10 * numF z s k + tB z (s + k) - 48
def wF (z s : Int) : Nat → Int
  | 0 => 0
  | k + 1 => 32 * wF z s k + tB z (s + k) - 96
def vF (z s : Int) : Nat → Int
  | 0 => 0
  | k + 1 => 27 * vF z s k + tB z (s + k) - 96
theorem toN_s {s i : Int} (h : s ≤ i) : (i + 1 - s).toNat = (i - s).toNat + 1 ∧ s + ((i - s).toNat : Int) = i := by omega
def aVal (z s i v : Int) : Prop := 0 ≤ s ∧ s ≤ i ∧ (i = s → v = 0) ∧ (i - s ≤ 1 → 0 ≤ v ∧ v ≤ 74) ∧ (i - s ≤ 2 → 0 ≤ v ∧ v ≤ 814) ∧ (i - s ≤ 3 → 0 ≤ v ∧ v ≤ 8214) ∧ (i - s ≤ 3 → aAll bDg z s i → v = numF z s (i - s).toNat)
def p32 : Nat → Int
  | 0 => 1
  | k + 1 => 32 * p32 k
def bW : Nat → Int
  | 0 => 0
  | k + 1 => 27 * bW k + 48
def aWd (z s i w : Int) : Prop := 0 ≤ s ∧ s ≤ i ∧ (i - s ≤ 7 → 0 ≤ w ∧ w < p32 (i - s).toNat ∧ (aAll bLt z s i → w = wF z s (i - s).toNat))
def aWr (z s i w : Int) : Prop := 0 ≤ s ∧ s ≤ i ∧ (i - s ≤ 7 → -(bW (i - s).toNat) ≤ w ∧ w ≤ bW (i - s).toNat ∧ (aAll bLt z s i → w = vF z s (i - s).toNat))
theorem p32_6 : ∀ {k : Nat}, k ≤ 6 → p32 k ≤ 1073741824
  | 0, _ => by decide
  | 1, _ => by decide
  | 2, _ => by decide
  | 3, _ => by decide
  | 4, _ => by decide
  | 5, _ => by decide
  | 6, _ => by decide
  | k + 7, h => by omega
theorem bW_6 : ∀ {k : Nat}, k ≤ 6 → bW k ≤ 1000000000
  | 0, _ => by decide
  | 1, _ => by decide
  | 2, _ => by decide
  | 3, _ => by decide
  | 4, _ => by decide
  | 5, _ => by decide
  | 6, _ => by decide
  | k + 7, h => by omega
def aRg (z s i t g : Int) : Prop := 0 ≤ s ∧ s ≤ i ∧ aAll bRn z s i ∧ (t = 0 ∨ t = 1) ∧ (g = 0 ∨ g = 1) ∧ (g = 1 → (t = 1 → aAll bLt z s i) ∧ (t = 0 → aAll bDg z s i)) ∧ (g = 0 → s < i ∧ (t = 1 → ¬ aAll bLt z s i) ∧ (t = 0 → ¬ aAll bDg z s i))
def aLf (z s t : Int) : Prop := (t = 1 ∧ bLt (tB z s)) ∨ (t = 0 ∧ bDg (tB z s))
/-! keywords -/
def kwX : List Int := [108, 97, 107, 101, 32, 114, 97, 105, 110, 32, 109, 105, 108, 108, 32, 115, 116, 111, 114, 109, 32, 104, 111, 117, 115, 101, 32, 114, 111, 111, 109, 32, 103, 117, 101, 115, 116, 32, 113, 117, 97, 114, 114, 101, 108, 32, 115, 108, 101, 101, 112, 115, 32, 116, 97, 107, 101, 115, 32, 108, 101, 97, 118, 101, 115, 32, 119, 104, 101, 101, 108, 32, 100, 97, 121, 32, 111, 114, 32, 97, 110, 100, 32, 110, 111, 116, 32, 119, 101, 116, 32, 108, 101, 116, 32, 105, 110, 32, 104, 97, 115, 32, 102, 111, 111, 116, 32, 112, 114, 105, 99, 101, 32, 100, 101, 112, 116, 104, 32, 110, 117, 109, 98, 101, 114, 32]
/-- where the words begin, how long they are -/
def kwS : List Nat := [0, 5, 10, 15, 21, 27, 32, 38, 46, 53, 59, 66, 72, 76, 79, 83, 87, 91, 95, 98, 102, 107, 113, 119]
def kwL : List Nat := [4, 4, 4, 5, 5, 4, 5, 7, 6, 5, 6, 5, 3, 2, 3, 3, 3, 3, 2, 3, 4, 5, 5, 6]
def kwS' (k : Nat) : Nat := kwS.getD k 0
def kwL' (k : Nat) : Nat := kwL.getD k 0
def kwB (i : Nat) : Int := kwX.getD i 0
/-- which word a place of the text belongs to -/
def ieq0 (b : Int) : Bool := match b with
  | Int.ofNat 32 => true
  | _ => false
def kwI : Nat → Nat
  | 0 => 0
  | i + 1 => bif ieq0 (kwB i) then kwI i + 1 else kwI i
/-- the bytes behind s are the word k, up to e -/
def kwE (z s e : Int) (k : Nat) : Prop := e - s = (kwL' k : Nat) ∧ ∀ j : Nat, j < kwL' k → tB z (s + j) = kwB (kwS' k + j)
def aKw (z s e kw : Int) : Prop := (∃ k : Nat, k < 24 ∧ kw = (k : Int) ∧ kwE z s e k) ∨ (kw = -1 ∧ ∀ k : Nat, k < 24 → ¬ kwE z s e k)
def aKm (z s e i k a b : Int) : Prop := 0 ≤ s ∧ s ≤ e ∧ 0 ≤ i ∧ i ≤ 126 ∧ k = (kwI i.toNat : Nat) ∧ (∀ k' : Nat, k' < kwI i.toNat → ¬ kwE z s e k') ∧ (i < 126 → (b = 1 ∧ a = s + ((i.toNat - kwS' (kwI i.toNat) : Nat) : Int) ∧ a ≤ e ∧ ∀ j : Nat, j < i.toNat - kwS' (kwI i.toNat) → tB z (s + j) = kwB (kwS' (kwI i.toNat) + j)) ∨ (b = 0 ∧ ¬ (s + ((i.toNat - kwS' (kwI i.toNat) : Nat) : Int) ≤ e ∧ ∀ j : Nat, j < i.toNat - kwS' (kwI i.toNat) → tB z (s + j) = kwB (kwS' (kwI i.toNat) + j))))
/-! tokens: kind 0 none, 1 the end, 2 word, 3 number, 4 sign; what is not told is 0 -/
def Tok (z n M p kd pl fi kw va wo : Int) : Prop := ∃ s : Int, aSk z n p s ∧
  ((M < n ∧ M ≤ s ∧ kd = 0 ∧ pl = M ∧ fi = 0 ∧ kw = -1 ∧ va = 0 ∧ wo = 0) ∨
   (¬ (M < n ∧ M ≤ s) ∧ s = n ∧ kd = 1 ∧ pl = s ∧ fi = 0 ∧ kw = -1 ∧ va = 0 ∧ wo = 0) ∨
   (¬ (M < n ∧ M ≤ s) ∧ s < n ∧ pl = s ∧ bRn (tB z s) ∧ ∃ e : Int, aRe z n s e ∧
     ((isW z s e ∧ kd = 2 ∧ fi = e ∧ aKw z s e kw ∧ va = 0 ∧ wo = wF z s (e - s).toNat) ∨
      (isN z s e ∧ kd = 3 ∧ fi = e ∧ kw = -1 ∧ va = numF z s (e - s).toNat ∧ wo = 0) ∨
      (¬ isW z s e ∧ ¬ isN z s e ∧ kd = 0 ∧ fi = 0 ∧ kw = -1 ∧ va = 0 ∧ wo = 0))) ∨
   (¬ (M < n ∧ M ≤ s) ∧ s < n ∧ pl = s ∧ ¬ bRn (tB z s) ∧
     ((bSg (tB z s) ∧ kd = 4 ∧ fi = s + 1 ∧ kw = -1 ∧ va = tB z s ∧ wo = 0) ∨
      (¬ bSg (tB z s) ∧ kd = 0 ∧ fi = 0 ∧ kw = -1 ∧ va = 0 ∧ wo = 0))))
def c27 : Nat → Int → Int
  | 0, _ => 0
  | k + 1, w => 27 * c27 k (w / 32) + w % 32
def pTokC (z n M p kd pl fi kw va wo : Int) : Prop := ∃ f v w : Int, Tok z n M p kd pl f kw v w ∧ (2 ≤ kd → fi = f) ∧ (kd = 3 ∨ kd = 4 → va = v) ∧ (kd = 2 → wo = w)
def pTokR (z n M p kr fr to nu sg wr : Int) : Prop := ∃ kd f kw v w : Int, Tok z n M p kd fr f kw v w ∧ ((kd = 0 ∧ kr = 1) ∨ (kd = 1 ∧ kr = 0) ∨ (2 ≤ kd ∧ kr = kd)) ∧ (2 ≤ kd → to = f) ∧ (kd = 3 → nu = v) ∧ (kd = 4 → sg = v) ∧ (kd = 2 → wr = c27 8 w)
/-! the reader of a VALLEY: registers 0 where in the line, 1 place, 2 lines, 3 who, 10 to 13 told once, 100.. names, 200.. values -/
abbrev AS : Type := Int → Int
def up (s : AS) (i x : Int) : AS := fun j => @ite Int (j = i) (Int.instDecidableEq j i) x (s j)
theorem up_s {s : AS} {i x : Int} : up s i x i = x := if_pos rfl
theorem up_n {s : AS} {i x j : Int} (h : j ≠ i) : up s i x j = s j := if_neg h
def fndF (f : Nat → Int) (w : Int) : Nat → Int
  | 0 => -1
  | n + 1 => cI (0 ≤ fndF f w n) (fndF f w n) (cI (f n = w) (n : Int) (-1))
def adv (s : AS) (q fi : Int) : AS := up (up s 0 q) 1 fi
abbrev ASr : Type := AS ⊕ (Int × Int)
def hlt (pl f : Int) : ASr := .inr (-1 - pl, f)
def stNum (s : AS) (kd pl fi va lo hi q : Int) (g : AS) : ASr := cI (kd = 3) (cI (lo ≤ va ∧ va ≤ hi) (.inl (adv g q fi)) (hlt pl 2)) (hlt pl 1)
def kslot (s : AS) (j : Int) : Prop := (0 ≤ j ∧ j < s 200) ∨ (5 ≤ j ∧ j < 5 + s 201) ∨ (13 ≤ j ∧ j < 13 + s 202)
def stNew (s : AS) (kd pl fi kw wo slot q : Int) : ASr := cI (kd = 2 ∧ kw = -1) (cI (∃ j : Int, kslot s j ∧ s (100 + j) = wo) (hlt pl 3) (.inl (adv (up s (100 + slot) wo) q fi))) (hlt pl 1)
def stFnd (s : AS) (kd pl kw wo base cnt : Int) (g : Int → ASr) : ASr := cI (kd = 2 ∧ kw = -1) (cI (fndF (fun j => s (100 + base + j)) wo cnt.toNat < 0) (hlt pl 3) (g (fndF (fun j => s (100 + base + j)) wo cnt.toNat))) (hlt pl 1)
def bitI (x i : Int) : Int := (x / 2 ^ i.toNat) % 2
def st0 (s : AS) (kd pl fi kw : Int) : ASr := cI (kd = 1) (.inr (s 2, 0))
  (cI (kw = 0) (cI (s 10 = 1) (hlt pl 3) (.inl (adv (up s 10 1) 1 fi)))
  (cI (kw = 1) (cI (s 11 = 1) (hlt pl 3) (.inl (adv (up s 11 1) 2 fi)))
  (cI (kw = 2) (cI (s 12 = 1) (hlt pl 3) (.inl (adv (up s 12 1) 4 fi)))
  (cI (kw = 3) (cI (s 13 = 1) (hlt pl 3) (.inl (adv (up s 13 1) 5 fi)))
  (cI (kw = 4) (cI (5 ≤ s 200) (hlt pl 4) (.inl (adv s 6 fi)))
  (cI (kw = 5) (cI (8 ≤ s 201) (hlt pl 4) (.inl (adv s 9 fi)))
  (cI (kw = 6) (cI (6 ≤ s 202) (hlt pl 4) (.inl (adv s 13 fi)))
  (cI (kw = 7) (.inl (adv s 16 fi))
  (cI (kw = 8) (.inl (adv s 18 fi)) (hlt pl 1))))))))))
def stepA (s : AS) (kd pl fi kw va wo : Int) : ASr := match (s 0).toNat with
  | 0 => st0 s kd pl fi kw
  | 1 => stNum s kd pl fi va 0 99 30 (up s 207 va)
  | 2 => stNum s kd pl fi va 1 30 3 (up s 203 va)
  | 3 => stNum s kd pl fi va 0 9 30 (up s 204 va)
  | 4 => stNum s kd pl fi va 0 99 30 (up s 205 va)
  | 5 => stNum s kd pl fi va 0 12 30 (up s 206 va)
  | 6 => stNew s kd pl fi kw wo (s 200) 7
  | 7 => stNum s kd pl fi va 0 20 8 (up s (208 + s 200) va)
  | 8 => stNum s kd pl fi va 0 20 30 (up (up s (213 + s 200) va) 200 (s 200 + 1))
  | 9 => stNew s kd pl fi kw wo (5 + s 201) 10
  | 10 => stFnd s kd pl kw wo 0 (s 200) (fun i => .inl (adv (up s (218 + s 201) i) 11 fi))
  | 11 => stNum s kd pl fi va 0 99 12 (up s (226 + s 201) va)
  | 12 => stNum s kd pl fi va 1 30 30 (up (up s (234 + s 201) va) 201 (s 201 + 1))
  | 13 => stNew s kd pl fi kw wo (13 + s 202) 14
  | 14 => stNum s kd pl fi va 0 99 15 (up s (242 + s 202) va)
  | 15 => stNum s kd pl fi va 0 20 30 (up (up s (248 + s 202) va) 202 (s 202 + 1))
  | 16 => stFnd s kd pl kw wo 13 (s 202) (fun i => .inl (adv (up s 3 i) 17 fi))
  | 17 => stFnd s kd pl kw wo 13 (s 202) (fun i => cI (i = s 3 ∨ bitI (s (254 + s 3)) i = 1) (hlt pl 3) (.inl (adv (up (up (up s (254 + s 3) (s (254 + s 3) + 2 ^ i.toNat)) (254 + i) (s (254 + i) + @ite Int (bitI (s (254 + i)) (s 3) = 1) (Int.instDecidableEq _ _) 0 (2 ^ (s 3).toNat))) 3 0) 30 fi)))
  | 18 => stFnd s kd pl kw wo 13 (s 202) (fun i => cI (s (260 + i) = -1) (.inl (adv (up s 3 i) 19 fi)) (hlt pl 3))
  | 19 => stFnd s kd pl kw wo 5 (s 201) (fun i => cI (∃ j : Int, 0 ≤ j ∧ j < s 202 ∧ s (260 + j) = i) (hlt pl 3) (.inl (adv (up s 3 (s 3 + 8 * i)) 20 fi)))
  | 20 => stNum s kd pl fi va 1 30 30 (up (up (up s (260 + s 3 % 8) (s 3 / 8)) (266 + s 3 % 8) va) 3 0)
  | 30 => cI (kd = 4 ∧ va = 59) (.inl (adv (up s 2 (s 2 + 1)) 0 fi)) (hlt pl 1)
  | _ => hlt pl 1
def sI : AS := fun j => match j.toNat with
  | 203 => 7
  | 204 => 3
  | 205 => 15
  | 207 => 20
  | 260 => -1
  | 261 => -1
  | 262 => -1
  | 263 => -1
  | 264 => -1
  | 265 => -1
  | _ => 0
def Rch (z n : Int) : Nat → AS → Prop
  | 0, s => s = sI
  | t + 1, s => ∃ (s' : AS) (kd pl fi kw va wo : Int), Rch z n t s' ∧ Tok z n 900 (s' 1) kd pl fi kw va wo ∧ stepA s' kd pl fi kw va wo = .inl s
def pAns (z n a f : Int) : Prop := ∃ (t : Nat) (s : AS) (kd pl fi kw va wo : Int), Rch z n t s ∧ Tok z n 900 (s 1) kd pl fi kw va wo ∧ stepA s kd pl fi kw va wo = .inr (a, f)
def pNam (kd kw r : Int) : Prop := iff1 (kd = 2 ∧ kw = -1) r
def pSgn (kd v c r : Int) : Prop := iff1 (kd = 4 ∧ v = c) r
def pWin (v l h r : Int) : Prop := iff1 (l ≤ v ∧ v ≤ h) r
def pNotf (z b i w : Int) : Prop := 0 ≤ b ∧ 0 ≤ i ∧ ∀ j : Nat, (j : Int) < i → dcd (b + j).toNat z ≠ w
def pFnd (z b m w r : Int) : Prop := 0 ≤ b ∧ 0 ≤ m ∧ r = fndF (fun j => dcd (b + j).toNat z) w m.toNat
def pKnw (z w : Int) : Prop := ∃ i : Int, 0 ≤ i ∧ i ≤ 18 ∧ dcd i.toNat z = w
def pBit (t k r : Int) : Prop := 0 ≤ t ∧ t ≤ 63 ∧ 0 ≤ k ∧ k ≤ 5 ∧ r = bitI t k
def pSetb (y t k : Int) : Prop := 0 ≤ t ∧ t ≤ 63 ∧ 0 ≤ k ∧ k ≤ 5 ∧ y = t + @ite Int (bitI t k = 1) (Int.instDecidableEq _ _) 0 (2 ^ k.toNat)
def pBitf (z u k r : Int) : Prop := 0 ≤ u ∧ pBit (dcd u.toNat z) k r
def pNslp (z b i r : Int) : Prop := 0 ≤ b ∧ ∀ j : Int, 0 ≤ j → j < i → dcd (b + j).toNat z ≠ r
def pSlp (z b m r o : Int) : Prop := iff1 (∃ j : Int, 0 ≤ j ∧ j < m ∧ dcd (b + j).toNat z = r) o
def sg8 (x : Int) : Int := (x + 128) % 256 - 128
def us8 (x : Int) : Int := x % 256
def pTape (c r n : Int) : Prop := ∀ j : Int, 0 ≤ j → j < n → j < 4096 → ∃ x : Int, dcd j.toNat c = sg8 x ∧ dcd j.toNat r = us8 x
/-- byte k of four -/
def by4 (x : Int) (k : Int) : Int := x / 2 ^ (24 - 8 * k).toNat
def pAdd (g : Int → Int) (z' z n x : Int) : Prop := 0 ≤ n ∧ n ≤ 940 ∧ (∀ j : Int, 0 ≤ j → j < 4096 → (j < n ∨ n + 4 ≤ j) → dcd j.toNat z' = dcd j.toNat z) ∧ ∀ k : Int, 0 ≤ k → k < 4 → dcd (n + k).toNat z' = g (by4 x k)
def pFeed (g : Int → Int) (z' z n a b c d e : Int) : Prop := 0 ≤ n ∧ n ≤ 940 ∧ (∀ j : Int, 0 ≤ j → j < 4096 → (j < n ∨ n + 20 ≤ j) → dcd j.toNat z' = dcd j.toNat z) ∧ ∀ k : Int, 0 ≤ k → k < 4 → dcd (n + k).toNat z' = g (by4 a k) ∧ dcd (n + 4 + k).toNat z' = g (by4 b k) ∧ dcd (n + 8 + k).toNat z' = g (by4 c k) ∧ dcd (n + 12 + k).toNat z' = g (by4 d k) ∧ dcd (n + 16 + k).toNat z' = g (by4 e k)
def kw27 : List Int := [237227, 355280, 262776, 10502473, 4562600, 365647, 4137608, 6888374364, 279109036, 10656676, 174879964, 12384399, 2968, 423, 1111, 10631, 16922, 8903, 257, 5878, 129458, 8863997, 2236391, 212302449]
def pWof (k r : Int) : Prop := 0 ≤ k ∧ k < 24 ∧ r = kw27.getD k.toNat 0
def pIsw (kd w k r : Int) : Prop := iff1 (kd = 2 ∧ w = kw27.getD k.toNat 0) r
def pIsn (w k : Int) : Prop := ∀ j : Nat, (j : Int) < k → j < 24 → w ≠ kw27.getD j 0
def pNamr (kd w r : Int) : Prop := iff1 (kd = 2 ∧ ∀ j : Nat, j < 24 → w ≠ kw27.getD j 0) r
def pCtr (z c h : Int) : Prop := 0 ≤ c ∧ dcd c.toNat z = h
def pCnt (z c m r : Int) : Prop := iff1 (dcd c.toNat z = m) r ∧ 0 ≤ c
def pFndr (zm zr b c w i : Int) : Prop := 0 ≤ c ∧ pFnd zm b (dcd c.toNat zr) w i
def pNkr (zm zr w : Int) : Prop := pFndr zm zr 0 0 w (-1) ∧ pFndr zm zr 5 1 w (-1) ∧ pFndr zm zr 13 2 w (-1)
def pKnr (zm zr w : Int) : Prop := ∃ i : Int, 0 ≤ i ∧ (pFndr zm zr 0 0 w i ∨ pFndr zm zr 5 1 w i ∨ pFndr zm zr 13 2 w i)
def pPC (z n q p k zn zf zs zt h r g ev ri ml so t u : Int) : Prop := ∃ (i : Nat) (s : AS), Rch z n i s ∧ s 0 = q ∧ s 1 = p ∧ s 2 = k ∧ s 3 = u ∧ (∀ j : Int, 0 ≤ j → j < 19 → dcd j.toNat zn = s (100 + j)) ∧ (∀ j : Int, 0 ≤ j → j < 6 → dcd j.toNat zf = s (254 + j)) ∧ (∀ j : Int, 0 ≤ j → j < 6 → dcd j.toNat zs = s (260 + j)) ∧ (∀ j : Int, 0 ≤ j → (j < s 201 ∨ (q = 12 ∧ j = s 201)) → j < 8 → dcd j.toNat zt = s (226 + j)) ∧ h = s 200 ∧ r = s 201 ∧ g = s 202 ∧ ev = s 203 ∧ ri = s 204 ∧ ml = s 205 ∧ so = s 206 ∧ t = s 10 + 2 * s 11 + 4 * s 12 + 8 * s 13
def pend (s : AS) (j : Int) : Prop := ((s 0 = 7 ∨ s 0 = 8) ∧ j = s 200) ∨ ((s 0 = 10 ∨ s 0 = 11 ∨ s 0 = 12) ∧ j = 5 + s 201) ∨ ((s 0 = 14 ∨ s 0 = 15) ∧ j = 13 + s 202)
def pPR (z n q p k zr zm o0 o1 o2 o3 u : Int) : Prop := ∃ (i : Nat) (s : AS), Rch z n i s ∧ s 0 = q ∧ s 1 = p ∧ s 2 = k ∧ s 3 = u ∧ (∀ j : Int, 0 ≤ j → j < 72 → (q = 20 → j ≠ 60 + u % 8) → dcd j.toNat zr = s (200 + j)) ∧ (q = 20 → dcd (60 + u % 8).toNat zr = u / 8) ∧ (∀ j : Int, kslot s j ∨ pend s j → 0 ≤ j → j < 19 → dcd j.toNat zm = c27 8 (s (100 + j))) ∧ o0 = s 10 ∧ o1 = s 11 ∧ o2 = s 12 ∧ o3 = s 13
def pPRT (z n q k zr zm o0 o1 o2 o3 u kd fr to nu sg w : Int) : Prop := ∃ p : Int, pPR z n q p k zr zm o0 o1 o2 o3 u ∧ pTokR z n 900 p kd fr to nu sg w
end
