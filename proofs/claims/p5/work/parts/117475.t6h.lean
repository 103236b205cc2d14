noncomputable section
/-! T6: readers of tokens (printed by wip/v5/gen/proofs8.py) -/
section
variable {σ : Type} {pos : σ → Int} {F F' : σ → Int → Int → Int → Int → Int → Int → σ ⊕ (Int × Int)} {M : Int} {s0 : σ}
theorem RchG_t {y z n : Int} (h : eqT y z n) : ∀ {t : Nat} {s : σ}, RchG pos F M s0 y n t s → RchG pos F M s0 z n t s
  | 0, s, q => q
  | t + 1, s, q => by
    obtain ⟨s', kd, pl, fi, kw, va, wo, h1, h2, h3⟩ := q
    exact ⟨s', kd, pl, fi, kw, va, wo, RchG_t h h1, Tok_t h h2, h3⟩
theorem RchG_u {z n : Int} : ∀ {t : Nat} {s s' : σ}, RchG pos F M s0 z n t s → RchG pos F M s0 z n t s' → s = s'
  | 0, s, s', q, q' => by
    have e : s = s0 := q
    have e' : s' = s0 := q'
    rw [e, e']
  | t + 1, s, s', q, q' => by
    obtain ⟨s1, kd, pl, fi, kw, va, wo, h1, h2, h3⟩ := q
    obtain ⟨s2, kd', pl', fi', kw', va', wo', g1, g2, g3⟩ := q'
    have e := RchG_u h1 g1
    subst e
    obtain ⟨rfl, rfl, rfl, rfl, rfl, rfl⟩ := Tok_u h2 g2
    rw [h3] at g3
    exact Sum.inl.inj g3
theorem RchG_p {z n : Int} {t : Nat} : ∀ {d : Nat} {s : σ}, RchG pos F M s0 z n (t + (d + 1)) s → ∃ (a b : σ) (kd pl fi kw va wo : Int), RchG pos F M s0 z n t a ∧ Tok z n M (pos a) kd pl fi kw va wo ∧ F a kd pl fi kw va wo = .inl b
  | 0, s, q => by
    obtain ⟨s', kd, pl, fi, kw, va, wo, h1, h2, h3⟩ := q
    exact ⟨s', s, kd, pl, fi, kw, va, wo, h1, h2, h3⟩
  | d + 1, s, q => by
    obtain ⟨s', kd, pl, fi, kw, va, wo, h1, h2, h3⟩ := q
    exact RchG_p (d := d) h1
theorem ansG_no {z n a f : Int} {t t' : Nat} {s s' : σ} {kd pl fi kw va wo : Int} (h1 : RchG pos F M s0 z n t s) (h2 : Tok z n M (pos s) kd pl fi kw va wo) (h3 : F s kd pl fi kw va wo = .inr (a, f)) (h : RchG pos F M s0 z n t' s') (hl : t < t') : False := by
  obtain ⟨d, rfl⟩ : ∃ d, t' = t + (d + 1) := ⟨t' - t - 1, by omega⟩
  obtain ⟨a0, b0, kd', pl', fi', kw', va', wo', g1, g2, g3⟩ := RchG_p h
  have e := RchG_u h1 g1
  subst e
  obtain ⟨rfl, rfl, rfl, rfl, rfl, rfl⟩ := Tok_u h2 g2
  rw [h3] at g3
  cases g3
theorem ansG_u {z n a f b g : Int} (h : ansG pos F M s0 z n a f) (h' : ansG pos F M s0 z n b g) : a = b ∧ f = g := by
  obtain ⟨t, s, kd, pl, fi, kw, va, wo, h1, h2, h3⟩ := h
  obtain ⟨t', s', kd', pl', fi', kw', va', wo', g1, g2, g3⟩ := h'
  rcases Nat.lt_trichotomy t t' with q | q | q
  · exact (ansG_no h1 h2 h3 g1 q).elim
  · subst q
    have e := RchG_u h1 g1
    subst e
    obtain ⟨rfl, rfl, rfl, rfl, rfl, rfl⟩ := Tok_u h2 g2
    rw [h3] at g3
    have e2 := Sum.inr.inj g3
    exact ⟨congrArg Prod.fst e2, congrArg Prod.snd e2⟩
  · exact (ansG_no g1 g2 g3 h1 q).elim
theorem ansG_t {y z n a f : Int} (h : eqT y z n) (q : ansG pos F M s0 y n a f) : ansG pos F M s0 z n a f := by
  obtain ⟨t, s, kd, pl, fi, kw, va, wo, h1, h2, h3⟩ := q
  exact ⟨t, s, kd, pl, fi, kw, va, wo, RchG_t h h1, Tok_t h h2, h3⟩
theorem RchG_e (hF : ∀ (s : σ) (kd pl fi kw va wo : Int), (kd = 2 → vW wo) → F s kd pl fi kw va wo = F' s kd pl fi kw va wo) {z n : Int} : ∀ {t : Nat} {s : σ}, RchG pos F M s0 z n t s → RchG pos F' M s0 z n t s
  | 0, s, q => q
  | t + 1, s, q => by
    obtain ⟨s', kd, pl, fi, kw, va, wo, h1, h2, h3⟩ := q
    exact ⟨s', kd, pl, fi, kw, va, wo, RchG_e hF h1, h2, by rw [← hF s' kd pl fi kw va wo (fun k => Tok_8 h2 k)]; exact h3⟩
theorem ansG_e (hF : ∀ (s : σ) (kd pl fi kw va wo : Int), (kd = 2 → vW wo) → F s kd pl fi kw va wo = F' s kd pl fi kw va wo) {z n a f : Int} (q : ansG pos F M s0 z n a f) : ansG pos F' M s0 z n a f := by
  obtain ⟨t, s, kd, pl, fi, kw, va, wo, h1, h2, h3⟩ := q
  exact ⟨t, s, kd, pl, fi, kw, va, wo, RchG_e hF h1, h2, by rw [← hF s kd pl fi kw va wo (fun k => Tok_8 h2 k)]; exact h3⟩
end
theorem sS2_e {i j c L kd pl fi kw : Int} (h : kd = 2 → i = j) : sS2 i c L kd pl fi kw = sS2 j c L kd pl fi kw := by
  by_cases k : kd = 2
  · rw [h k]
  · unfold sS2
    rw [cI_f (P := kd = 2 ∧ kw = -1) (fun q => k q.1), cI_f (P := kd = 2 ∧ kw = -1) (fun q => k q.1)]
theorem sB0_e {i j k kd pl fi kw : Int} (h : kd = 2 → i = j) : sB0 i k kd pl fi kw = sB0 j k kd pl fi kw := by
  by_cases e : kd = 2
  · rw [h e]
  · unfold sB0
    rw [cI_f (P := kd = 2 ∧ kw = -1) (fun q => e q.1), cI_f (P := kd = 2 ∧ kw = -1) (fun q => e q.1)]
theorem sB4_e {i j k kd pl fi kw : Int} (h : kd = 2 → i = j) : sB4 i k kd pl fi kw = sB4 j k kd pl fi kw := by
  by_cases e : kd = 2
  · rw [h e]
  · unfold sB4
    rw [cI_f (P := kd = 2 ∧ kw = -1) (fun q => e q.1), cI_f (P := kd = 2 ∧ kw = -1) (fun q => e q.1)]
theorem stS_e {E E' : EnF} (hE : ∀ b wo : Int, (b = 0 ∨ b = 5 ∨ b = 13) → vW wo → E b wo = E' b wo) (s : S5) (kd pl fi kw va wo : Int) (h : kd = 2 → vW wo) : stS6 E s kd pl fi kw va wo = stS6 E' s kd pl fi kw va wo := by
  unfold stS6
  generalize s.1.toNat = m
  match m with
  | 0 => rfl
  | 1 => rfl
  | 2 => exact sS2_e (fun k => hE 0 wo (Or.inl rfl) (h k))
  | 3 => exact sS2_e (fun k => hE 13 wo (Or.inr (Or.inr rfl)) (h k))
  | 4 => rfl
  | 5 => rfl
  | _ + 6 => rfl
theorem stB_e {E E' : EnF} (hE : ∀ b wo : Int, (b = 0 ∨ b = 5 ∨ b = 13) → vW wo → E b wo = E' b wo) (s : S3) (kd pl fi kw va wo : Int) (h : kd = 2 → vW wo) : stB6 E s kd pl fi kw va wo = stB6 E' s kd pl fi kw va wo := by
  unfold stB6
  generalize s.1.toNat = m
  match m with
  | 0 => exact sB0_e (fun k => hE 13 wo (Or.inr (Or.inr rfl)) (h k))
  | 1 => rfl
  | 2 => rfl
  | 3 => rfl
  | 4 => exact sB4_e (fun k => hE 5 wo (Or.inr (Or.inl rfl)) (h k))
  | 5 => rfl
  | 6 => rfl
  | _ + 7 => rfl
theorem cn3_0 (h r g : Int) : cn3 0 h r g = h := if_pos rfl
theorem cn3_5 (h r g : Int) : cn3 5 h r g = r := by
  unfold cn3
  rw [if_neg (by decide), if_pos rfl]
theorem cn3_13 (h r g : Int) : cn3 13 h r g = g := by
  unfold cn3
  rw [if_neg (by decide), if_neg (by decide)]
theorem wfS_w {s : AS} (h : wfS s) : (0 ≤ s 200 ∧ s 200 ≤ 5 ∧ 0 ≤ s 201 ∧ s 201 ≤ 8 ∧ 0 ≤ s 202 ∧ s 202 ≤ 6) ∧ ∀ j : Int, kslot s j → vW (s (100 + j)) := by
  rcases h with ⟨z, n, t, h⟩ | h
  · obtain ⟨h1, _, _, h4⟩ := Rch_I h
    exact ⟨I1_b h1, fun j k => h4.2 j (Or.inl k)⟩
  · refine ⟨by omega, fun j k => ?_⟩
    unfold kslot at k
    omega
theorem env_al {zr zm zn zt h r g ev ri ml so : Int} (p : pVV zr zm zn zt h r g ev ri ml so) : ∀ b wo : Int, (b = 0 ∨ b = 5 ∨ b = 13) → vW wo → eC zn h r g b wo = eR zm zr b wo := by
  obtain ⟨s, w, ⟨c1, _, e0, e1, e2, _⟩, g1, g2⟩ := p
  obtain ⟨bd, vw⟩ := wfS_w w
  have z0 := g1 0 (by omega) (by omega)
  have z1 := g1 1 (by omega) (by omega)
  have z2 := g1 2 (by omega) (by omega)
  rw [Int.zero_add, show (200 : Int) + 0 = 200 by decide] at z0
  rw [Int.zero_add, show (200 : Int) + 1 = 201 by decide] at z1
  rw [Int.zero_add, show (200 : Int) + 2 = 202 by decide] at z2
  intro b wo hb hw
  have key : ∀ m : Int, (∀ j : Int, b ≤ j → j < b + m → kslot s j) → b + m ≤ 19 → fndF (fun j => dcd (b + j).toNat zn) wo m.toNat = fndF (fun j => dcd (b + j).toNat zm) (c27 8 wo) m.toNat := fun m hk hm => by
    refine fndF_map (fun j hj => ?_)
    have ks := hk (b + j) (by omega) (by omega)
    have q1 := c1 (b + j) (by omega) (by omega)
    have q2 := g2 (b + j) ks (by omega) (by omega)
    rw [Int.zero_add] at q2
    show dcd (b + (j : Int)).toNat zn = wo ↔ dcd (b + (j : Int)).toNat zm = c27 8 wo
    rw [q1, q2]
    exact ⟨fun q => by rw [q], fun q => vW_u (vw _ ks) hw q⟩
  unfold eC eR ci3
  rcases hb with rfl | rfl | rfl
  · rw [cn3_0, cn3_0, z0, e0]
    refine key _ (fun j j0 j1 => ?_) (by omega)
    unfold kslot
    omega
  · rw [cn3_5, cn3_5, z1, e1]
    refine key _ (fun j j0 j1 => ?_) (by omega)
    unfold kslot
    omega
  · rw [cn3_13, cn3_13, z2, e2]
    refine key _ (fun j j0 j1 => ?_) (by omega)
    unfold kslot
    omega
theorem inl5 {a b c d e a' b' c' d' e' : Int} (h1 : a = a') (h2 : b = b') (h3 : c = c') (h4 : d = d') (h5 : e = e') : (Sum.inl (a, b, c, d, e) : S5 ⊕ (Int × Int)) = .inl (a', b', c', d', e') := by
  rw [h1, h2, h3, h4, h5]
theorem inl3 {a b c a' b' c' : Int} (h1 : a = a') (h2 : b = b') (h3 : c = c') : (Sum.inl (a, b, c) : S3 ⊕ (Int × Int)) = .inl (a', b', c') := by
  rw [h1, h2, h3]
theorem inr5 {a b a' b' : Int} (h1 : a = a') (h2 : b = b') : (Sum.inr (a, b) : S5 ⊕ (Int × Int)) = .inr (a', b') := by
  rw [h1, h2]
theorem inr3 {a b a' b' : Int} (h1 : a = a') (h2 : b = b') : (Sum.inr (a, b) : S3 ⊕ (Int × Int)) = .inr (a', b') := by
  rw [h1, h2]
theorem numF_9 {z s e : Int} (h : isN z s e) (h0 : s ≤ e) : 0 ≤ numF z s (e - s).toNat ∧ numF z s (e - s).toNat ≤ 999 := by
  obtain ⟨h1, h2⟩ := h
  have d : ∀ k : Nat, (k : Int) < e - s → 48 ≤ tB z (s + k) ∧ tB z (s + k) ≤ 57 := fun k hk => h1 (s + k) (by omega) (by omega)
  have hk : (e - s).toNat = 0 ∨ (e - s).toNat = 1 ∨ (e - s).toNat = 2 ∨ (e - s).toNat = 3 := by omega
  rcases hk with q | q | q | q
  · rw [q]
    show (0 : Int) ≤ 0 ∧ (0 : Int) ≤ 999
    omega
  · have a := d 0 (by omega)
    rw [q]
    show 0 ≤ 10 * 0 + tB z (s + ((0 : Nat) : Int)) - 48 ∧ 10 * 0 + tB z (s + ((0 : Nat) : Int)) - 48 ≤ 999
    omega
  · have a := d 0 (by omega)
    have b := d 1 (by omega)
    rw [q]
    show 0 ≤ 10 * (10 * 0 + tB z (s + ((0 : Nat) : Int)) - 48) + tB z (s + ((1 : Nat) : Int)) - 48 ∧ 10 * (10 * 0 + tB z (s + ((0 : Nat) : Int)) - 48) + tB z (s + ((1 : Nat) : Int)) - 48 ≤ 999
    omega
  · have a := d 0 (by omega)
    have b := d 1 (by omega)
    have c := d 2 (by omega)
    rw [q]
    show 0 ≤ 10 * (10 * (10 * 0 + tB z (s + ((0 : Nat) : Int)) - 48) + tB z (s + ((1 : Nat) : Int)) - 48) + tB z (s + ((2 : Nat) : Int)) - 48 ∧ 10 * (10 * (10 * 0 + tB z (s + ((0 : Nat) : Int)) - 48) + tB z (s + ((1 : Nat) : Int)) - 48) + tB z (s + ((2 : Nat) : Int)) - 48 ≤ 999
    omega
theorem Tok_num {z n M p pl fi kw va wo : Int} (h : Tok z n M p 3 pl fi kw va wo) : 0 ≤ va ∧ va ≤ 999 := by
  obtain ⟨s, hs, h⟩ := h
  rcases h with ⟨_, _, h, _⟩ | ⟨_, _, h, _⟩ | ⟨_, _, _, _, e, he, h⟩ | ⟨_, _, _, _, h⟩
  · omega
  · omega
  · rcases h with ⟨_, h, _⟩ | ⟨h1, _, _, _, h5, _⟩ | ⟨_, _, h, _⟩
    · omega
    · rw [h5]
      exact numF_9 h1 he.1
    · omega
  · rcases h with ⟨_, h, _⟩ | ⟨_, h, _⟩
    · omega
    · omega
end
