noncomputable section
/-! T6: the readers of a BOOK and of a SENTENCE (printed by wip/v5/gen/proofs8.py) -/
abbrev S5 : Type := Int × Int × Int × Int × Int
abbrev S3 : Type := Int × Int × Int
abbrev EnF : Type := Int → Int → Int
def RchG {σ : Type} (pos : σ → Int) (F : σ → Int → Int → Int → Int → Int → Int → σ ⊕ (Int × Int)) (M : Int) (s0 : σ) (z n : Int) : Nat → σ → Prop
  | 0, s => s = s0
  | t + 1, s => ∃ (s' : σ) (kd pl fi kw va wo : Int), RchG pos F M s0 z n t s' ∧ Tok z n M (pos s') kd pl fi kw va wo ∧ F s' kd pl fi kw va wo = .inl s
def ansG {σ : Type} (pos : σ → Int) (F : σ → Int → Int → Int → Int → Int → Int → σ ⊕ (Int × Int)) (M : Int) (s0 : σ) (z n a f : Int) : Prop := ∃ (t : Nat) (s : σ) (kd pl fi kw va wo : Int), RchG pos F M s0 z n t s ∧ Tok z n M (pos s) kd pl fi kw va wo ∧ F s kd pl fi kw va wo = .inr (a, f)
def hl5 (pl f : Int) : S5 ⊕ (Int × Int) := .inr (-1 - pl, f)
def hl3 (pl f : Int) : S3 ⊕ (Int × Int) := .inr (-1 - pl, f)
def sS0 (c w L kd pl fi kw va : Int) : S5 ⊕ (Int × Int) := cI ((kd = 4 ∧ va = 40) ∨ (15 ≤ kw ∧ kw ≤ 23)) (cI (20 ≤ c ∨ 9 ≤ w) (hl5 pl 4) (cI (kd = 4 ∧ va = 40) (.inl (0, fi, c + 1, w + 1, 16 * L + w + 1)) (cI (kw = 15) (.inl (0, fi, c + 1, w + 1, L)) (cI (kw ≤ 17) (.inl (1, fi, c + 1, 0, L)) (cI (kw = 18) (.inl (2, fi, c + 1, 0, L)) (cI (kw = 19) (.inl (3, fi, c + 1, 0, L)) (.inl (4, fi, c + 1, 0, L)))))))) (hl5 pl 1)
def sS1 (c L kd pl fi kw va : Int) : S5 ⊕ (Int × Int) := cI (kw = 13 ∨ kw = 14) (.inl (0, fi, c, L % 16, L)) (cI (L < 16) (cI (kd = 1) (.inr (c, 0)) (hl5 pl 1)) (cI (kd = 4 ∧ va = 41) (.inl (1, fi, c, 0, L / 16)) (hl5 pl 1)))
def sS2 (i c L kd pl fi kw : Int) : S5 ⊕ (Int × Int) := cI (kd = 2 ∧ kw = -1) (cI (i < 0) (hl5 pl 3) (.inl (1, fi, c, 0, L))) (hl5 pl 1)
def sS4 (c L kd pl fi va : Int) : S5 ⊕ (Int × Int) := cI (kd = 4 ∧ 60 ≤ va ∧ va ≤ 62) (.inl (5, fi, c, 0, L)) (hl5 pl 1)
def sS5 (c L kd pl fi : Int) : S5 ⊕ (Int × Int) := cI (kd = 3) (.inl (1, fi, c, 0, L)) (hl5 pl 1)
def stS6 (E : EnF) (s : S5) (kd pl fi kw va wo : Int) : S5 ⊕ (Int × Int) := match s.1.toNat with
  | 0 => sS0 s.2.2.1 s.2.2.2.1 s.2.2.2.2 kd pl fi kw va
  | 1 => sS1 s.2.2.1 s.2.2.2.2 kd pl fi kw va
  | 2 => sS2 (E 0 wo) s.2.2.1 s.2.2.2.2 kd pl fi kw
  | 3 => sS2 (E 13 wo) s.2.2.1 s.2.2.2.2 kd pl fi kw
  | 4 => sS4 s.2.2.1 s.2.2.2.2 kd pl fi va
  | 5 => sS5 s.2.2.1 s.2.2.2.2 kd pl fi
  | _ => hl5 pl 1
def sB0 (i k kd pl fi kw : Int) : S3 ⊕ (Int × Int) := cI (kd = 1) (.inr (k, 0)) (cI (kw = 11 ∨ kw = 12) (cI (40 ≤ k) (hl3 pl 4) (.inl (kw - 10, fi, k))) (cI (kd = 2 ∧ kw = -1) (cI (i < 0) (hl3 pl 3) (cI (40 ≤ k) (hl3 pl 4) (.inl (3, fi, k)))) (hl3 pl 1)))
def sBn (k kd pl fi va lo hi : Int) : S3 ⊕ (Int × Int) := cI (kd = 3) (cI (lo ≤ va ∧ va ≤ hi) (.inl (6, fi, k)) (hl3 pl 2)) (hl3 pl 1)
def sB3 (k pl fi kw : Int) : S3 ⊕ (Int × Int) := cI (kw = 10) (.inl (6, fi, k)) (cI (kw = 9) (.inl (4, fi, k)) (hl3 pl 1))
def sB4 (i k kd pl fi kw : Int) : S3 ⊕ (Int × Int) := cI (kd = 2 ∧ kw = -1) (cI (i < 0) (hl3 pl 3) (.inl (5, fi, k))) (hl3 pl 1)
def sB6 (k kd pl fi va : Int) : S3 ⊕ (Int × Int) := cI (kd = 4 ∧ va = 59) (.inl (0, fi, k + 1)) (hl3 pl 1)
def stB6 (E : EnF) (s : S3) (kd pl fi kw va wo : Int) : S3 ⊕ (Int × Int) := match s.1.toNat with
  | 0 => sB0 (E 13 wo) s.2.2 kd pl fi kw
  | 1 => sBn s.2.2 kd pl fi va 0 5
  | 2 => sBn s.2.2 kd pl fi va 1 60
  | 3 => sB3 s.2.2 pl fi kw
  | 4 => sB4 (E 5 wo) s.2.2 kd pl fi kw
  | 5 => sBn s.2.2 kd pl fi va 1 30
  | 6 => sB6 s.2.2 kd pl fi va
  | _ => hl3 pl 1
def cn3 (b h r g : Int) : Int := @ite Int (b = 0) (Int.instDecidableEq _ _) h (@ite Int (b = 5) (Int.instDecidableEq _ _) r g)
def ci3 (b : Int) : Int := cn3 b 0 1 2
def eC (zn h r g : Int) : EnF := fun b wo => fndF (fun j => dcd (b + j).toNat zn) wo (cn3 b h r g).toNat
def eR (zm zr : Int) : EnF := fun b wo => fndF (fun j => dcd (b + j).toNat zm) (c27 8 wo) (dcd (ci3 b).toNat zr).toNat
def p5 (s : S5) : Int := s.2.1
def p3S (s : S3) : Int := s.2.1
def pPSC (z n q p c w L zn h r g : Int) : Prop := ∃ t : Nat, RchG p5 (stS6 (eC zn h r g)) 200 (0, 0, 0, 1, 1) z n t (q, p, c, w, L)
def pPS (z n q c w L zn h r g kd pl fi kw va wo : Int) : Prop := ∃ p : Int, pPSC z n q p c w L zn h r g ∧ pTokC z n 200 p kd pl fi kw va wo
def pPSP (z n q p c w L zm zr : Int) : Prop := ∃ t : Nat, RchG p5 (stS6 (eR zm zr)) 200 (0, 0, 0, 1, 1) z n t (q, p, c, w, L)
def pPSR (z n q c w L zm zr kd fr to nu sg wo : Int) : Prop := ∃ p : Int, pPSP z n q p c w L zm zr ∧ pTokR z n 200 p kd fr to nu sg wo
def pSAC (z n zn h r g a f : Int) : Prop := ansG p5 (stS6 (eC zn h r g)) 200 (0, 0, 0, 1, 1) z n a f
def pSAR (z n zm zr a f : Int) : Prop := ansG p5 (stS6 (eR zm zr)) 200 (0, 0, 0, 1, 1) z n a f
def pTopl (L b : Int) : Prop := 1 ≤ b ∧ b ≤ 9 ∧ 1 ≤ L ∧ L % 16 = b
def pSz (a b c d : Int) : Prop := a - 2 * b + 1 ≤ c - 2 * d
def pSzp (a b : Int) : Prop := a ≤ 2 * b
def pNbg (kw : Int) : Prop := kw ≤ 14 ∨ 24 ≤ kw
def pNe (kw c : Int) : Prop := kw ≠ c
def pNwd (kd w k : Int) : Prop := 15 ≤ k ∧ ∀ j : Nat, 15 ≤ j → (j : Int) < k → j < 24 → ¬ (kd = 2 ∧ w = kw27.getD j 0)
def pPBC (z n q p k zn h r g : Int) : Prop := ∃ t : Nat, RchG p3S (stB6 (eC zn h r g)) 400 (0, 0, 0) z n t (q, p, k)
def pPBT (z n q k zn h r g kd pl fi kw va wo : Int) : Prop := ∃ p : Int, pPBC z n q p k zn h r g ∧ pTokC z n 400 p kd pl fi kw va wo
def pPBP (z n q p k zm zr : Int) : Prop := ∃ t : Nat, RchG p3S (stB6 (eR zm zr)) 400 (0, 0, 0) z n t (q, p, k)
def pPBR (z n q k zm zr kd fr to nu sg wo : Int) : Prop := ∃ p : Int, pPBP z n q p k zm zr ∧ pTokR z n 400 p kd fr to nu sg wo
def pBAC (z n zn h r g a f : Int) : Prop := ansG p3S (stB6 (eC zn h r g)) 400 (0, 0, 0) z n a f
def pBAR (z n zm zr a f : Int) : Prop := ansG p3S (stB6 (eR zm zr)) 400 (0, 0, 0) z n a f
def pBAF (z n zn h r g f : Int) : Prop := ∃ a : Int, pBAC z n zn h r g a f
def pBRF (z n zm zr f : Int) : Prop := ∃ a : Int, pBAR z n zm zr a f
end
