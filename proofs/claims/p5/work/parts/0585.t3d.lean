noncomputable section
/-! T3: finding, steps -/
theorem fndF_sp (f : Nat → Int) (w : Int) : ∀ n : Nat, (fndF f w n = -1 ∧ ∀ j, j < n → f j ≠ w) ∨ ∃ i : Nat, i < n ∧ fndF f w n = (i : Int) ∧ f i = w ∧ ∀ j, j < i → f j ≠ w
  | 0 => Or.inl ⟨rfl, fun j hj => by omega⟩
  | n + 1 => by
    have e : fndF f w (n + 1) = cI (0 ≤ fndF f w n) (fndF f w n) (cI (f n = w) (n : Int) (-1)) := rfl
    rw [e]
    rcases fndF_sp f w n with ⟨h1, h2⟩ | ⟨i, h1, h2, h3, h4⟩
    · rw [h1, cI_f (by omega)]
      by_cases g : f n = w
      · rw [cI_t g]
        exact Or.inr ⟨n, by omega, rfl, g, h2⟩
      · rw [cI_f g]
        refine Or.inl ⟨rfl, fun j hj => ?_⟩
        by_cases ej : j = n
        · rw [ej]; exact g
        · exact h2 j (by omega)
    · rw [h2, cI_t (by omega)]
      exact Or.inr ⟨i, by omega, rfl, h3, h4⟩
theorem fndF_neg {f : Nat → Int} {w : Int} {n : Nat} (h : fndF f w n < 0) {j : Nat} (hj : j < n) : f j ≠ w := by
  rcases fndF_sp f w n with ⟨h1, h2⟩ | ⟨i, h1, h2, h3, h4⟩
  · exact h2 j hj
  · omega
theorem fndF_pos {f : Nat → Int} {w r : Int} {n : Nat} (h : 0 ≤ r) (e : r = fndF f w n) : r < n ∧ f r.toNat = w := by
  rcases fndF_sp f w n with ⟨h1, h2⟩ | ⟨i, h1, h2, h3, h4⟩
  · omega
  · have ei : r.toNat = i := by omega
    rw [ei]
    exact ⟨by omega, h3⟩
theorem fndF_hit {f : Nat → Int} {w : Int} {n i : Nat} (hi : i < n) (h : f i = w) (h' : ∀ j, j < i → f j ≠ w) : fndF f w n = (i : Int) := by
  rcases fndF_sp f w n with ⟨h1, h2⟩ | ⟨k, h1, h2, h3, h4⟩
  · exact absurd h (h2 i hi)
  · have : k = i := by
      rcases Nat.lt_trichotomy k i with g | g | g
      · exact absurd h3 (h' k g)
      · exact g
      · exact absurd h (h4 i g)
    rw [h2, this]
theorem fndF_miss {f : Nat → Int} {w : Int} {n : Nat} (h : ∀ j, j < n → f j ≠ w) : fndF f w n = -1 := by
  rcases fndF_sp f w n with ⟨h1, h2⟩ | ⟨k, h1, h2, h3, h4⟩
  · exact h1
  · exact absurd h3 (h k h1)
theorem fndF_map {f g : Nat → Int} {w w' : Int} : ∀ {n : Nat}, (∀ j, j < n → (f j = w ↔ g j = w')) → fndF f w n = fndF g w' n
  | 0, _ => rfl
  | n + 1, h => by
    have e : fndF f w (n + 1) = cI (0 ≤ fndF f w n) (fndF f w n) (cI (f n = w) (n : Int) (-1)) := rfl
    have e' : fndF g w' (n + 1) = cI (0 ≤ fndF g w' n) (fndF g w' n) (cI (g n = w') (n : Int) (-1)) := rfl
    rw [e, e', fndF_map (n := n) (fun j hj => h j (by omega))]
    by_cases q : f n = w
    · rw [cI_t q, cI_t ((h n (by omega)).mp q)]
    · rw [cI_f q, cI_f (fun q' => q ((h n (by omega)).mpr q'))]
/-! arrays that hold registers -/
theorem adv_0 {s : AS} {q f : Int} : adv s q f 0 = q := (up_n (by decide)).trans up_s
theorem adv_1 {s : AS} {q f : Int} : adv s q f 1 = f := up_s
theorem adv_n {s : AS} {q f j : Int} (h0 : j ≠ 0) (h1 : j ≠ 1) : adv s q f j = s j := (up_n h1).trans (up_n h0)
def aAg (z : Int) (s : AS) (b n : Int) : Prop := ∀ j : Int, 0 ≤ j → j < n → dcd j.toNat z = s (b + j)
theorem aAg_w {z z' i v i' v' b n : Int} {s : AS} (h : aAg z s b n) (u : pUpd z' z i v) (hn : n ≤ 4096) (e : i' = b + i) (ev : v = v') : aAg z' (up s i' v') b n := by
  obtain ⟨u1, u2, u3, rfl⟩ := u
  intro j j0 j1
  by_cases q : j = i
  · rw [q, dcd_us u3 (by omega), e, up_s]
    exact ev
  · rw [dcd_un u3 (by omega) (by omega), up_n (by omega)]
    exact h j j0 j1
theorem aAg_k {z z' i v b n : Int} {s : AS} (h : aAg z s b n) (u : pUpd z' z i v) (hn : n ≤ 4096) (e : i < n → s (b + i) = v) : aAg z' s b n := by
  obtain ⟨u1, u2, u3, rfl⟩ := u
  intro j j0 j1
  by_cases q : j = i
  · subst q
    rw [dcd_us u3 (by omega)]
    exact (e j1).symm
  · rw [dcd_un u3 (by omega) (by omega)]
    exact h j j0 j1
theorem aAg_o {z i v b n : Int} {s : AS} (h : aAg z s b n) (hi : i < b ∨ b + n ≤ i) : aAg z (up s i v) b n := fun j j0 j1 => by
  rw [up_n (by omega)]
  exact h j j0 j1
theorem aAg_a {z q f b n : Int} {s : AS} (h : aAg z s b n) (hb : 2 ≤ b) : aAg z (adv s q f) b n := aAg_o (aAg_o h (Or.inl (by omega))) (Or.inl (by omega))
/-! one step, forwards -/
theorem hlt_i {pl f : Int} {s : AS} (h : hlt pl f = .inl s) : False := by
  unfold hlt at h
  cases h
theorem stNum_t {s g : AS} {kd pl fi va lo hi q : Int} (h1 : kd = 3) (h2 : lo ≤ va) (h3 : va ≤ hi) : stNum s kd pl fi va lo hi q g = .inl (adv g q fi) := by
  unfold stNum
  rw [cI_t h1, cI_t ⟨h2, h3⟩]
theorem stNum_k {s g : AS} {kd pl fi va lo hi q : Int} (h1 : kd ≠ 3) : stNum s kd pl fi va lo hi q g = hlt pl 1 := by
  unfold stNum
  rw [cI_f h1]
theorem stNum_v {s g : AS} {kd pl fi va lo hi q : Int} (h1 : kd = 3) (h2 : ¬ (lo ≤ va ∧ va ≤ hi)) : stNum s kd pl fi va lo hi q g = hlt pl 2 := by
  unfold stNum
  rw [cI_t h1, cI_f h2]
theorem stNum_i {s g s' : AS} {kd pl fi va lo hi q : Int} (h : stNum s kd pl fi va lo hi q g = .inl s') : kd = 3 ∧ lo ≤ va ∧ va ≤ hi ∧ adv g q fi = s' := by
  by_cases h1 : kd = 3
  · by_cases h2 : lo ≤ va ∧ va ≤ hi
    · rw [stNum_t h1 h2.1 h2.2] at h
      exact ⟨h1, h2.1, h2.2, Sum.inl.inj h⟩
    · rw [stNum_v h1 h2] at h
      exact (hlt_i h).elim
  · rw [stNum_k h1] at h
    exact (hlt_i h).elim
theorem stNew_t {s : AS} {kd pl fi kw wo slot q : Int} (h1 : kd = 2 ∧ kw = -1) (h2 : ¬ ∃ j : Int, kslot s j ∧ s (100 + j) = wo) : stNew s kd pl fi kw wo slot q = .inl (adv (up s (100 + slot) wo) q fi) := by
  unfold stNew
  rw [cI_t h1, cI_f h2]
theorem stNew_k {s : AS} {kd pl fi kw wo slot q : Int} (h1 : ¬ (kd = 2 ∧ kw = -1)) : stNew s kd pl fi kw wo slot q = hlt pl 1 := by
  unfold stNew
  rw [cI_f h1]
theorem stNew_b {s : AS} {kd pl fi kw wo slot q : Int} (h1 : kd = 2 ∧ kw = -1) (h2 : ∃ j : Int, kslot s j ∧ s (100 + j) = wo) : stNew s kd pl fi kw wo slot q = hlt pl 3 := by
  unfold stNew
  rw [cI_t h1, cI_t h2]
theorem stNew_i {s s' : AS} {kd pl fi kw wo slot q : Int} (h : stNew s kd pl fi kw wo slot q = .inl s') : kd = 2 ∧ adv (up s (100 + slot) wo) q fi = s' := by
  by_cases h1 : kd = 2 ∧ kw = -1
  · by_cases h2 : ∃ j : Int, kslot s j ∧ s (100 + j) = wo
    · rw [stNew_b h1 h2] at h
      exact (hlt_i h).elim
    · rw [stNew_t h1 h2] at h
      exact ⟨h1.1, Sum.inl.inj h⟩
  · rw [stNew_k h1] at h
    exact (hlt_i h).elim
theorem stFnd_t {s : AS} {kd pl kw wo base cnt i : Int} {g : Int → ASr} (h1 : kd = 2 ∧ kw = -1) (h2 : i = fndF (fun j => s (100 + base + j)) wo cnt.toNat) (h3 : 0 ≤ i) : stFnd s kd pl kw wo base cnt g = g i := by
  unfold stFnd
  rw [cI_t h1, cI_f (by omega), ← h2]
theorem stFnd_k {s : AS} {kd pl kw wo base cnt : Int} {g : Int → ASr} (h1 : ¬ (kd = 2 ∧ kw = -1)) : stFnd s kd pl kw wo base cnt g = hlt pl 1 := by
  unfold stFnd
  rw [cI_f h1]
theorem stFnd_b {s : AS} {kd pl kw wo base cnt : Int} {g : Int → ASr} (h1 : kd = 2 ∧ kw = -1) (h2 : fndF (fun j => s (100 + base + j)) wo cnt.toNat < 0) : stFnd s kd pl kw wo base cnt g = hlt pl 3 := by
  unfold stFnd
  rw [cI_t h1, cI_t h2]
theorem stFnd_i {s s' : AS} {kd pl kw wo base cnt : Int} {g : Int → ASr} (h : stFnd s kd pl kw wo base cnt g = .inl s') (hc : 0 ≤ cnt) : kd = 2 ∧ ∃ i : Int, 0 ≤ i ∧ i < cnt ∧ g i = .inl s' := by
  by_cases h1 : kd = 2 ∧ kw = -1
  · by_cases h2 : fndF (fun j => s (100 + base + j)) wo cnt.toNat < 0
    · rw [stFnd_b h1 h2] at h
      exact (hlt_i h).elim
    · rw [stFnd_t h1 rfl (by omega)] at h
      have := (fndF_pos (f := fun j => s (100 + base + j)) (w := wo) (n := cnt.toNat) (by omega) rfl).1
      exact ⟨h1.1, _, by omega, by omega, h⟩
  · rw [stFnd_k h1] at h
    exact (hlt_i h).elim
/-! bits -/
theorem setb_n : ∀ t : Nat, t < 64 → ∀ k : Nat, k < 6 → t + (if t / 2 ^ k % 2 = 1 then 0 else 2 ^ k) < 64 := by decide +kernel
theorem bitI_n (t k : Nat) : bitI (t : Int) (k : Int) = ((t / 2 ^ k % 2 : Nat) : Int) := by
  unfold bitI
  have e : ((2 : Int) ^ k) = ((2 ^ k : Nat) : Int) := (Int.natCast_pow 2 k).symm
  rw [Int.toNat_natCast, e]
  rfl
theorem setI_r {t k : Int} (h0 : 0 ≤ t) (h1 : t ≤ 63) (k0 : 0 ≤ k) (k1 : k ≤ 5) : 0 ≤ t + @ite Int (bitI t k = 1) (Int.instDecidableEq _ _) 0 (2 ^ k.toNat) ∧ t + @ite Int (bitI t k = 1) (Int.instDecidableEq _ _) 0 (2 ^ k.toNat) ≤ 63 := by
  obtain ⟨a, rfl⟩ := Int.eq_ofNat_of_zero_le h0
  obtain ⟨b, rfl⟩ := Int.eq_ofNat_of_zero_le k0
  have h := setb_n a (by omega) b (by omega)
  rw [bitI_n, Int.toNat_natCast]
  by_cases e : a / 2 ^ b % 2 = 1
  · rw [if_pos (by rw [e]; rfl)]
    omega
  · rw [if_neg (by omega)]
    rw [if_neg e] at h
    have e2 : ((2 : Int) ^ b) = ((2 ^ b : Nat) : Int) := (Int.natCast_pow 2 b).symm
    rw [e2]
    have hp : 0 < (2 : Nat) ^ b := Nat.two_pow_pos b
    omega
end
