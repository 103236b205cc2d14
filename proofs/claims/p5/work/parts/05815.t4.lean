noncomputable section
/-! T4: the VALLEY that is had (printed by wip/v5/gen/proofs6.py) -/
def agC (s : AS) (zn zt h r g ev ri ml so : Int) : Prop := (∀ j : Int, 0 ≤ j → j < 19 → dcd j.toNat zn = s (100 + j)) ∧ (∀ j : Int, 0 ≤ j → j < s 201 → j < 8 → dcd j.toNat zt = s (226 + j)) ∧ h = s 200 ∧ r = s 201 ∧ g = s 202 ∧ ev = s 203 ∧ ri = s 204 ∧ ml = s 205 ∧ so = s 206
def agR (s : AS) (zr o zm o' : Int) : Prop := (∀ j : Int, 0 ≤ j → j < 72 → dcd (o + j).toNat zr = s (200 + j)) ∧ ∀ j : Int, kslot s j → 0 ≤ j → j < 19 → dcd (o' + j).toNat zm = c27 8 (s (100 + j))
def wfS (s : AS) : Prop := (∃ (z n : Int) (t : Nat), Rch z n t s) ∨ (s 200 = 0 ∧ s 201 = 0 ∧ s 202 = 0)
def pEnd (z n : Int) (s : AS) : Prop := ∃ (t : Nat) (a kd pl fi kw va wo : Int), Rch z n t s ∧ Tok z n 900 (s 1) kd pl fi kw va wo ∧ stepA s kd pl fi kw va wo = .inr (a, 0)
def pEC (z n zn zt h r g ev ri ml so : Int) : Prop := ∃ s : AS, pEnd z n s ∧ agC s zn zt h r g ev ri ml so
def pER (z n zr zm : Int) : Prop := ∃ s : AS, pEnd z n s ∧ agR s zr 0 zm 0
def pVV (zr zm zn zt h r g ev ri ml so : Int) : Prop := ∃ s : AS, wfS s ∧ agC s zn zt h r g ev ri ml so ∧ agR s zr 0 zm 0
def pVI (b zk zy k zn zt h r g ev ri ml so : Int) : Prop := b = 1 → ∃ s : AS, wfS s ∧ agC s zn zt h r g ev ri ml so ∧ agR s zk (350 * k) zy (19 * k)
end
