noncomputable section
/-! T3: what holds of every state of the reading (printed by wip/v5/gen/auto.py) -/
def own (s : AS) (j : Int) : Prop := kslot s j ∨ pend s j
def I1 (n : Int) (s : AS) : Prop := 0 ≤ s 0 ∧ s 0 ≤ 30 ∧ 0 ≤ s 200 ∧ s 200 ≤ 5 ∧ 0 ≤ s 201 ∧ s 201 ≤ 8 ∧ 0 ≤ s 202 ∧ s 202 ≤ 6 ∧ (s 0 = 6 ∨ s 0 = 7 ∨ s 0 = 8 → s 200 ≤ 4) ∧ (9 ≤ s 0 ∧ s 0 ≤ 12 → s 201 ≤ 7) ∧ (13 ≤ s 0 ∧ s 0 ≤ 15 → s 202 ≤ 5) ∧ (s 10 = 0 ∨ s 10 = 1) ∧ (s 11 = 0 ∨ s 11 = 1) ∧ (s 12 = 0 ∨ s 12 = 1) ∧ (s 13 = 0 ∨ s 13 = 1) ∧ 0 ≤ s 1 ∧ 0 ≤ s 2 ∧ (s 1 ≤ n ∨ s 1 = 0) ∧ 2 * s 2 ≤ s 1 ∧ (s 0 ≠ 0 → 2 * s 2 + 1 ≤ s 1) ∧ (s 0 = 17 ∨ s 0 = 19 → 0 ≤ s 3 ∧ s 3 < s 202) ∧ (s 0 = 20 → 0 ≤ s 3 % 8 ∧ s 3 % 8 < s 202 ∧ 0 ≤ s 3 / 8 ∧ s 3 / 8 < 8)
def I2 (s : AS) : Prop := ∀ j : Int, 0 ≤ j → j < 6 → 0 ≤ s (254 + j) ∧ s (254 + j) ≤ 63
def I3 (s : AS) : Prop := ∀ j : Int, s 202 ≤ j → j < 6 → s (260 + j) = -1
def I4 (s : AS) : Prop := (∀ j : Int, 0 ≤ j → j < 19 → ¬ own s j → s (100 + j) = 0) ∧ ∀ j : Int, own s j → vW (s (100 + j))
def Inv (n : Int) (s : AS) : Prop := I1 n s ∧ I2 s ∧ I3 s ∧ I4 s
theorem I2_c {s s' : AS} (h : I2 s) (e : ∀ j : Int, 0 ≤ j → j < 6 → s' (254 + j) = s (254 + j)) : I2 s' := fun j j0 j1 => by
  rw [e j j0 j1]
  exact h j j0 j1
theorem I3_c {s s' : AS} (h : I3 s) (h0 : 0 ≤ s 202) (h1 : s 202 ≤ s' 202) (e : ∀ j : Int, s 202 ≤ j → j < 6 → s' (260 + j) = s (260 + j)) : I3 s' := fun j j0 j1 => by
  rw [e j (by omega) j1]
  exact h j (by omega) j1
theorem I4_c {s s' : AS} (h : I4 s) (e : ∀ j : Int, 0 ≤ j → j < 19 → s' (100 + j) = s (100 + j)) (hr : ∀ j : Int, own s j → 0 ≤ j ∧ j < 19) (ho : ∀ j : Int, own s' j ↔ own s j) : I4 s' := ⟨fun j j0 j1 j2 => by
  rw [e j j0 j1]
  exact h.1 j j0 j1 (fun q => j2 ((ho j).mpr q)), fun j q => by
  have q' := (ho j).mp q
  rw [e j (hr j q').1 (hr j q').2]
  exact h.2 j q'⟩
theorem I4_w {s s' : AS} {k w : Int} (h : I4 s) (e : ∀ j : Int, 0 ≤ j → j < 19 → j ≠ k → s' (100 + j) = s (100 + j)) (hr : ∀ j : Int, own s j → 0 ≤ j ∧ j < 19) (ek : s' (100 + k) = w) (hw : vW w) (ho : ∀ j : Int, own s' j ↔ own s j ∨ j = k) : I4 s' := ⟨fun j j0 j1 j2 => by
  have n1 : ¬ own s j := fun q => j2 ((ho j).mpr (Or.inl q))
  have n2 : j ≠ k := fun q => j2 ((ho j).mpr (Or.inr q))
  rw [e j j0 j1 n2]
  exact h.1 j j0 j1 n1, fun j q => by
  by_cases ej : j = k
  · rw [ej, ek]
    exact hw
  · rcases (ho j).mp q with q' | q'
    · rw [e j (hr j q').1 (hr j q').2 ej]
      exact h.2 j q'
    · exact absurd q' ej⟩
theorem own_r {n : Int} {s : AS} (h : I1 n s) {j : Int} (q : own s j) : 0 ≤ j ∧ j < 19 := by
  unfold I1 at h
  unfold own kslot pend at q
  omega
theorem sA_0 {s : AS} {kd pl fi kw va wo : Int} (h : s 0 = 0) : stepA s kd pl fi kw va wo = st0 s kd pl fi kw := by
  unfold stepA
  rw [h]
  rfl
theorem sA_1 {s : AS} {kd pl fi kw va wo : Int} (h : s 0 = 1) : stepA s kd pl fi kw va wo = stNum s kd pl fi va 0 99 30 (up s 207 va) := by
  unfold stepA
  rw [h]
  rfl
theorem sA_2 {s : AS} {kd pl fi kw va wo : Int} (h : s 0 = 2) : stepA s kd pl fi kw va wo = stNum s kd pl fi va 1 30 3 (up s 203 va) := by
  unfold stepA
  rw [h]
  rfl
theorem sA_3 {s : AS} {kd pl fi kw va wo : Int} (h : s 0 = 3) : stepA s kd pl fi kw va wo = stNum s kd pl fi va 0 9 30 (up s 204 va) := by
  unfold stepA
  rw [h]
  rfl
theorem sA_4 {s : AS} {kd pl fi kw va wo : Int} (h : s 0 = 4) : stepA s kd pl fi kw va wo = stNum s kd pl fi va 0 99 30 (up s 205 va) := by
  unfold stepA
  rw [h]
  rfl
theorem sA_5 {s : AS} {kd pl fi kw va wo : Int} (h : s 0 = 5) : stepA s kd pl fi kw va wo = stNum s kd pl fi va 0 12 30 (up s 206 va) := by
  unfold stepA
  rw [h]
  rfl
theorem sA_6 {s : AS} {kd pl fi kw va wo : Int} (h : s 0 = 6) : stepA s kd pl fi kw va wo = stNew s kd pl fi kw wo (s 200) 7 := by
  unfold stepA
  rw [h]
  rfl
theorem sA_7 {s : AS} {kd pl fi kw va wo : Int} (h : s 0 = 7) : stepA s kd pl fi kw va wo = stNum s kd pl fi va 0 20 8 (up s (208 + s 200) va) := by
  unfold stepA
  rw [h]
  rfl
theorem sA_8 {s : AS} {kd pl fi kw va wo : Int} (h : s 0 = 8) : stepA s kd pl fi kw va wo = stNum s kd pl fi va 0 20 30 (up (up s (213 + s 200) va) 200 (s 200 + 1)) := by
  unfold stepA
  rw [h]
  rfl
theorem sA_9 {s : AS} {kd pl fi kw va wo : Int} (h : s 0 = 9) : stepA s kd pl fi kw va wo = stNew s kd pl fi kw wo (5 + s 201) 10 := by
  unfold stepA
  rw [h]
  rfl
theorem sA_10 {s : AS} {kd pl fi kw va wo : Int} (h : s 0 = 10) : stepA s kd pl fi kw va wo = stFnd s kd pl kw wo 0 (s 200) (fun i => .inl (adv (up s (218 + s 201) i) 11 fi)) := by
  unfold stepA
  rw [h]
  rfl
theorem sA_11 {s : AS} {kd pl fi kw va wo : Int} (h : s 0 = 11) : stepA s kd pl fi kw va wo = stNum s kd pl fi va 0 99 12 (up s (226 + s 201) va) := by
  unfold stepA
  rw [h]
  rfl
theorem sA_12 {s : AS} {kd pl fi kw va wo : Int} (h : s 0 = 12) : stepA s kd pl fi kw va wo = stNum s kd pl fi va 1 30 30 (up (up s (234 + s 201) va) 201 (s 201 + 1)) := by
  unfold stepA
  rw [h]
  rfl
theorem sA_13 {s : AS} {kd pl fi kw va wo : Int} (h : s 0 = 13) : stepA s kd pl fi kw va wo = stNew s kd pl fi kw wo (13 + s 202) 14 := by
  unfold stepA
  rw [h]
  rfl
theorem sA_14 {s : AS} {kd pl fi kw va wo : Int} (h : s 0 = 14) : stepA s kd pl fi kw va wo = stNum s kd pl fi va 0 99 15 (up s (242 + s 202) va) := by
  unfold stepA
  rw [h]
  rfl
theorem sA_15 {s : AS} {kd pl fi kw va wo : Int} (h : s 0 = 15) : stepA s kd pl fi kw va wo = stNum s kd pl fi va 0 20 30 (up (up s (248 + s 202) va) 202 (s 202 + 1)) := by
  unfold stepA
  rw [h]
  rfl
theorem sA_16 {s : AS} {kd pl fi kw va wo : Int} (h : s 0 = 16) : stepA s kd pl fi kw va wo = stFnd s kd pl kw wo 13 (s 202) (fun i => .inl (adv (up s 3 i) 17 fi)) := by
  unfold stepA
  rw [h]
  rfl
theorem sA_17 {s : AS} {kd pl fi kw va wo : Int} (h : s 0 = 17) : stepA s kd pl fi kw va wo = stFnd s kd pl kw wo 13 (s 202) (fun i => cI (i = s 3 ∨ bitI (s (254 + s 3)) i = 1) (hlt pl 3) (.inl (adv (up (up (up s (254 + s 3) (s (254 + s 3) + 2 ^ i.toNat)) (254 + i) (s (254 + i) + @ite Int (bitI (s (254 + i)) (s 3) = 1) (Int.instDecidableEq _ _) 0 (2 ^ (s 3).toNat))) 3 0) 30 fi))) := by
  unfold stepA
  rw [h]
  rfl
theorem sA_18 {s : AS} {kd pl fi kw va wo : Int} (h : s 0 = 18) : stepA s kd pl fi kw va wo = stFnd s kd pl kw wo 13 (s 202) (fun i => cI (s (260 + i) = -1) (.inl (adv (up s 3 i) 19 fi)) (hlt pl 3)) := by
  unfold stepA
  rw [h]
  rfl
theorem sA_19 {s : AS} {kd pl fi kw va wo : Int} (h : s 0 = 19) : stepA s kd pl fi kw va wo = stFnd s kd pl kw wo 5 (s 201) (fun i => cI (∃ j : Int, 0 ≤ j ∧ j < s 202 ∧ s (260 + j) = i) (hlt pl 3) (.inl (adv (up s 3 (s 3 + 8 * i)) 20 fi))) := by
  unfold stepA
  rw [h]
  rfl
theorem sA_20 {s : AS} {kd pl fi kw va wo : Int} (h : s 0 = 20) : stepA s kd pl fi kw va wo = stNum s kd pl fi va 1 30 30 (up (up (up s (260 + s 3 % 8) (s 3 / 8)) (266 + s 3 % 8) va) 3 0) := by
  unfold stepA
  rw [h]
  rfl
theorem sA_30 {s : AS} {kd pl fi kw va wo : Int} (h : s 0 = 30) : stepA s kd pl fi kw va wo = cI (kd = 4 ∧ va = 59) (.inl (adv (up s 2 (s 2 + 1)) 0 fi)) (hlt pl 1) := by
  unfold stepA
  rw [h]
  rfl
theorem st0_1 {s : AS} {kd pl fi kw : Int} (h : kd = 1) : st0 s kd pl fi kw = .inr (s 2, 0) := by
  unfold st0
  rw [cI_t h]
theorem st0_t0 {s : AS} {kd pl fi kw : Int} (h : ¬ kd = 1) (hk : kw = 0) (hc : ¬ (s 10 = 1)) : st0 s kd pl fi kw = .inl (adv (up s 10 1) 1 fi) := by
  unfold st0
  rw [cI_f h, cI_t hk, cI_f hc]
theorem st0_f0 {s : AS} {kd pl fi kw : Int} (h : ¬ kd = 1) (hk : kw = 0) (hc : s 10 = 1) : st0 s kd pl fi kw = hlt pl 3 := by
  unfold st0
  rw [cI_f h, cI_t hk, cI_t hc]
theorem st0_t1 {s : AS} {kd pl fi kw : Int} (h : ¬ kd = 1) (hk : kw = 1) (hc : ¬ (s 11 = 1)) : st0 s kd pl fi kw = .inl (adv (up s 11 1) 2 fi) := by
  unfold st0
  rw [cI_f h, cI_f (show ¬ kw = 0 by omega), cI_t hk, cI_f hc]
theorem st0_f1 {s : AS} {kd pl fi kw : Int} (h : ¬ kd = 1) (hk : kw = 1) (hc : s 11 = 1) : st0 s kd pl fi kw = hlt pl 3 := by
  unfold st0
  rw [cI_f h, cI_f (show ¬ kw = 0 by omega), cI_t hk, cI_t hc]
theorem st0_t2 {s : AS} {kd pl fi kw : Int} (h : ¬ kd = 1) (hk : kw = 2) (hc : ¬ (s 12 = 1)) : st0 s kd pl fi kw = .inl (adv (up s 12 1) 4 fi) := by
  unfold st0
  rw [cI_f h, cI_f (show ¬ kw = 0 by omega), cI_f (show ¬ kw = 1 by omega), cI_t hk, cI_f hc]
theorem st0_f2 {s : AS} {kd pl fi kw : Int} (h : ¬ kd = 1) (hk : kw = 2) (hc : s 12 = 1) : st0 s kd pl fi kw = hlt pl 3 := by
  unfold st0
  rw [cI_f h, cI_f (show ¬ kw = 0 by omega), cI_f (show ¬ kw = 1 by omega), cI_t hk, cI_t hc]
theorem st0_t3 {s : AS} {kd pl fi kw : Int} (h : ¬ kd = 1) (hk : kw = 3) (hc : ¬ (s 13 = 1)) : st0 s kd pl fi kw = .inl (adv (up s 13 1) 5 fi) := by
  unfold st0
  rw [cI_f h, cI_f (show ¬ kw = 0 by omega), cI_f (show ¬ kw = 1 by omega), cI_f (show ¬ kw = 2 by omega), cI_t hk, cI_f hc]
theorem st0_f3 {s : AS} {kd pl fi kw : Int} (h : ¬ kd = 1) (hk : kw = 3) (hc : s 13 = 1) : st0 s kd pl fi kw = hlt pl 3 := by
  unfold st0
  rw [cI_f h, cI_f (show ¬ kw = 0 by omega), cI_f (show ¬ kw = 1 by omega), cI_f (show ¬ kw = 2 by omega), cI_t hk, cI_t hc]
theorem st0_t4 {s : AS} {kd pl fi kw : Int} (h : ¬ kd = 1) (hk : kw = 4) (hc : ¬ (5 ≤ s 200)) : st0 s kd pl fi kw = .inl (adv s 6 fi) := by
  unfold st0
  rw [cI_f h, cI_f (show ¬ kw = 0 by omega), cI_f (show ¬ kw = 1 by omega), cI_f (show ¬ kw = 2 by omega), cI_f (show ¬ kw = 3 by omega), cI_t hk, cI_f hc]
theorem st0_f4 {s : AS} {kd pl fi kw : Int} (h : ¬ kd = 1) (hk : kw = 4) (hc : 5 ≤ s 200) : st0 s kd pl fi kw = hlt pl 4 := by
  unfold st0
  rw [cI_f h, cI_f (show ¬ kw = 0 by omega), cI_f (show ¬ kw = 1 by omega), cI_f (show ¬ kw = 2 by omega), cI_f (show ¬ kw = 3 by omega), cI_t hk, cI_t hc]
theorem st0_t5 {s : AS} {kd pl fi kw : Int} (h : ¬ kd = 1) (hk : kw = 5) (hc : ¬ (8 ≤ s 201)) : st0 s kd pl fi kw = .inl (adv s 9 fi) := by
  unfold st0
  rw [cI_f h, cI_f (show ¬ kw = 0 by omega), cI_f (show ¬ kw = 1 by omega), cI_f (show ¬ kw = 2 by omega), cI_f (show ¬ kw = 3 by omega), cI_f (show ¬ kw = 4 by omega), cI_t hk, cI_f hc]
theorem st0_f5 {s : AS} {kd pl fi kw : Int} (h : ¬ kd = 1) (hk : kw = 5) (hc : 8 ≤ s 201) : st0 s kd pl fi kw = hlt pl 4 := by
  unfold st0
  rw [cI_f h, cI_f (show ¬ kw = 0 by omega), cI_f (show ¬ kw = 1 by omega), cI_f (show ¬ kw = 2 by omega), cI_f (show ¬ kw = 3 by omega), cI_f (show ¬ kw = 4 by omega), cI_t hk, cI_t hc]
theorem st0_t6 {s : AS} {kd pl fi kw : Int} (h : ¬ kd = 1) (hk : kw = 6) (hc : ¬ (6 ≤ s 202)) : st0 s kd pl fi kw = .inl (adv s 13 fi) := by
  unfold st0
  rw [cI_f h, cI_f (show ¬ kw = 0 by omega), cI_f (show ¬ kw = 1 by omega), cI_f (show ¬ kw = 2 by omega), cI_f (show ¬ kw = 3 by omega), cI_f (show ¬ kw = 4 by omega), cI_f (show ¬ kw = 5 by omega), cI_t hk, cI_f hc]
theorem st0_f6 {s : AS} {kd pl fi kw : Int} (h : ¬ kd = 1) (hk : kw = 6) (hc : 6 ≤ s 202) : st0 s kd pl fi kw = hlt pl 4 := by
  unfold st0
  rw [cI_f h, cI_f (show ¬ kw = 0 by omega), cI_f (show ¬ kw = 1 by omega), cI_f (show ¬ kw = 2 by omega), cI_f (show ¬ kw = 3 by omega), cI_f (show ¬ kw = 4 by omega), cI_f (show ¬ kw = 5 by omega), cI_t hk, cI_t hc]
theorem st0_t7 {s : AS} {kd pl fi kw : Int} (h : ¬ kd = 1) (hk : kw = 7) : st0 s kd pl fi kw = .inl (adv s 16 fi) := by
  unfold st0
  rw [cI_f h, cI_f (show ¬ kw = 0 by omega), cI_f (show ¬ kw = 1 by omega), cI_f (show ¬ kw = 2 by omega), cI_f (show ¬ kw = 3 by omega), cI_f (show ¬ kw = 4 by omega), cI_f (show ¬ kw = 5 by omega), cI_f (show ¬ kw = 6 by omega), cI_t hk]
theorem st0_t8 {s : AS} {kd pl fi kw : Int} (h : ¬ kd = 1) (hk : kw = 8) : st0 s kd pl fi kw = .inl (adv s 18 fi) := by
  unfold st0
  rw [cI_f h, cI_f (show ¬ kw = 0 by omega), cI_f (show ¬ kw = 1 by omega), cI_f (show ¬ kw = 2 by omega), cI_f (show ¬ kw = 3 by omega), cI_f (show ¬ kw = 4 by omega), cI_f (show ¬ kw = 5 by omega), cI_f (show ¬ kw = 6 by omega), cI_f (show ¬ kw = 7 by omega), cI_t hk]
theorem st0_z {s : AS} {kd pl fi kw : Int} (h : ¬ kd = 1) (hk : kw < 0 ∨ 9 ≤ kw) : st0 s kd pl fi kw = hlt pl 1 := by
  unfold st0
  rw [cI_f h, cI_f (show ¬ kw = 0 by omega), cI_f (show ¬ kw = 1 by omega), cI_f (show ¬ kw = 2 by omega), cI_f (show ¬ kw = 3 by omega), cI_f (show ¬ kw = 4 by omega), cI_f (show ¬ kw = 5 by omega), cI_f (show ¬ kw = 6 by omega), cI_f (show ¬ kw = 7 by omega), cI_f (show ¬ kw = 8 by omega)]
end
