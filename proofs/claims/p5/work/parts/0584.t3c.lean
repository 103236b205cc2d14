noncomputable section
/-! T3: words as numbers -/
def vG (g : Nat → Int) : Nat → Int
  | 0 => 0
  | k + 1 => 27 * vG g k + g k - 96
def wG (g : Nat → Int) : Nat → Int
  | 0 => 0
  | k + 1 => 32 * wG g k + g k - 96
theorem vF_G (z s : Int) : ∀ k : Nat, vF z s k = vG (fun j => tB z (s + j)) k
  | 0 => rfl
  | k + 1 => by
    show 27 * vF z s k + _ - 96 = 27 * vG _ k + _ - 96
    rw [vF_G z s k]
theorem wF_G (z s : Int) : ∀ k : Nat, wF z s k = wG (fun j => tB z (s + j)) k
  | 0 => rfl
  | k + 1 => by
    show 32 * wF z s k + _ - 96 = 32 * wG _ k + _ - 96
    rw [wF_G z s k]
theorem vG_c {g g' : Nat → Int} : ∀ {k : Nat}, (∀ j, j < k → g j = g' j) → vG g k = vG g' k
  | 0, _ => rfl
  | k + 1, h => by
    show 27 * vG g k + _ - 96 = 27 * vG g' k + _ - 96
    rw [vG_c (k := k) (fun j hj => h j (by omega)), h k (by omega)]
theorem wG_c {g g' : Nat → Int} : ∀ {k : Nat}, (∀ j, j < k → g j = g' j) → wG g k = wG g' k
  | 0, _ => rfl
  | k + 1, h => by
    show 32 * wG g k + _ - 96 = 32 * wG g' k + _ - 96
    rw [wG_c (k := k) (fun j hj => h j (by omega)), h k (by omega)]
def gLt (g : Nat → Int) (k : Nat) : Prop := ∀ j, j < k → bLt (g j)
theorem vG_nn {g : Nat → Int} : ∀ {k : Nat}, gLt g k → 0 ≤ vG g k
  | 0, _ => by show (0 : Int) ≤ 0; omega
  | k + 1, h => by
    have h1 := vG_nn (k := k) (fun j hj => h j (by omega))
    have h2 := h k (by omega)
    unfold bLt at h2
    show 0 ≤ 27 * vG g k + g k - 96
    omega
theorem vG_u {g g' : Nat → Int} : ∀ {k k' : Nat}, gLt g k → gLt g' k' → vG g k = vG g' k' → k = k' ∧ ∀ j, j < k → g j = g' j
  | 0, 0, _, _, _ => ⟨rfl, fun j hj => by omega⟩
  | 0, k' + 1, _, h', e => by
    have h1 := vG_nn (k := k') (fun j hj => h' j (by omega))
    have h2 := h' k' (by omega)
    unfold bLt at h2
    change 0 = 27 * vG g' k' + g' k' - 96 at e
    omega
  | k + 1, 0, h, _, e => by
    have h1 := vG_nn (k := k) (fun j hj => h j (by omega))
    have h2 := h k (by omega)
    unfold bLt at h2
    change 27 * vG g k + g k - 96 = 0 at e
    omega
  | k + 1, k' + 1, h, h', e => by
    have h2 := h k (by omega)
    have h3 := h' k' (by omega)
    unfold bLt at h2 h3
    change 27 * vG g k + g k - 96 = 27 * vG g' k' + g' k' - 96 at e
    have e1 : vG g k = vG g' k' := by omega
    obtain ⟨a, b⟩ := vG_u (fun j hj => h j (by omega)) (fun j hj => h' j (by omega)) e1
    refine ⟨by omega, fun j hj => ?_⟩
    by_cases ej : j = k
    · subst ej
      subst a
      omega
    · exact b j (by omega)
theorem c27_0 : ∀ m : Nat, c27 m 0 = 0
  | 0 => rfl
  | m + 1 => by
    show 27 * c27 m (0 / 32) + 0 % 32 = 0
    rw [show (0 : Int) / 32 = 0 by decide, c27_0 m]
    decide
theorem c27_G {g : Nat → Int} : ∀ {m k : Nat}, k ≤ m → gLt g k → c27 m (wG g k) = vG g k
  | m, 0, _, _ => c27_0 m
  | m + 1, k + 1, hk, h => by
    have h2 := h k (by omega)
    unfold bLt at h2
    show 27 * c27 m ((32 * wG g k + g k - 96) / 32) + (32 * wG g k + g k - 96) % 32 = 27 * vG g k + g k - 96
    rw [show (32 * wG g k + g k - 96) / 32 = wG g k by omega, c27_G (m := m) (k := k) (by omega) (fun j hj => h j (by omega))]
    omega
/-- a word -/
def vW (w : Int) : Prop := ∃ (g : Nat → Int) (k : Nat), 1 ≤ k ∧ k ≤ 7 ∧ gLt g k ∧ w = wG g k
theorem wG_nn {g : Nat → Int} : ∀ {k : Nat}, gLt g k → 0 ≤ wG g k
  | 0, _ => by show (0 : Int) ≤ 0; omega
  | k + 1, h => by
    have h1 := wG_nn (k := k) (fun j hj => h j (by omega))
    have h2 := h k (by omega)
    unfold bLt at h2
    show 0 ≤ 32 * wG g k + g k - 96
    omega
theorem vW_pos {w : Int} (h : vW w) : 0 < w := by
  obtain ⟨g, k, h1, h2, h3, rfl⟩ := h
  obtain ⟨m, rfl⟩ : ∃ m, k = m + 1 := ⟨k - 1, by omega⟩
  have h4 := wG_nn (k := m) (fun j hj => h3 j (by omega))
  have h5 := h3 m (by omega)
  unfold bLt at h5
  show 0 < 32 * wG g m + g m - 96
  omega
theorem vW_u {w w' : Int} (h : vW w) (h' : vW w') (e : c27 8 w = c27 8 w') : w = w' := by
  obtain ⟨g, k, h1, h2, h3, rfl⟩ := h
  obtain ⟨g', k', g1, g2, g3, rfl⟩ := h'
  rw [c27_G (by omega) h3, c27_G (by omega) g3] at e
  obtain ⟨a, b⟩ := vG_u h3 g3 e
  subst a
  exact wG_c b
theorem bRn_lt {z s e : Int} (hs : s < e) (h : aAll bLt z s e) : gLt (fun j => tB z (s + j)) (e - s).toNat := fun j hj => h (s + j) (by omega) (by omega)
theorem wF_c27 {z s e : Int} (h : isW z s e) (hs : s < e) : c27 8 (wF z s (e - s).toNat) = vF z s (e - s).toNat := by
  rw [wF_G, vF_G, c27_G (by have := h.2; omega) (bRn_lt hs h.1)]
theorem wF_vW {z s e : Int} (h : isW z s e) (hs : s < e) : vW (wF z s (e - s).toNat) := ⟨_, (e - s).toNat, by omega, by have := h.2; omega, bRn_lt hs h.1, wF_G _ _ _⟩
theorem kw_vG : ∀ k : Nat, k < 24 → kwL' k ≤ 7 ∧ 1 ≤ kwL' k ∧ vG (fun j => kwB (kwS' k + j)) (kwL' k) = kw27.getD k 0 ∧ ∀ j : Nat, j < kwL' k → 97 ≤ kwB (kwS' k + j) ∧ kwB (kwS' k + j) ≤ 122 := by decide +kernel
theorem kw_is {z s e : Int} {k : Nat} (hk : k < 24) (h : isW z s e) (hs : s < e) : kwE z s e k ↔ vF z s (e - s).toNat = kw27.getD k 0 := by
  obtain ⟨t1, t2, t3, t4⟩ := kw_vG k hk
  rw [← t3, vF_G]
  constructor
  · intro ⟨a, b⟩
    rw [show (e - s).toNat = kwL' k by omega]
    exact vG_c b
  · intro q
    obtain ⟨a, b⟩ := vG_u (bRn_lt hs h.1) (fun j hj => t4 j hj) q
    exact ⟨by omega, fun j hj => b j (by omega)⟩
/-! one token, one reading -/
theorem aRe_lt {z n s e : Int} (h : aRe z n s e) (hn : s < n) (hb : bRn (tB z s)) : s < e := by
  obtain ⟨a1, a2, a3, a4⟩ := h
  rcases a4 with q | q
  · omega
  · by_cases g : s = e
    · rw [← g] at q
      exact absurd hb q
    · omega
theorem WN {z s e : Int} (hs : s < e) (h : isW z s e) (h' : isN z s e) : False := lt_dg (h.1 s (by omega) hs) (h'.1 s (by omega) hs)
theorem Tok_u {z n M p kd pl fi kw va wo kd' pl' fi' kw' va' wo' : Int} (h : Tok z n M p kd pl fi kw va wo) (h' : Tok z n M p kd' pl' fi' kw' va' wo') : kd = kd' ∧ pl = pl' ∧ fi = fi' ∧ kw = kw' ∧ va = va' ∧ wo = wo' := by
  obtain ⟨s, hs, h⟩ := h
  obtain ⟨s', hs', h'⟩ := h'
  have es := aSk_u hs hs'
  subst es
  rcases h with ⟨a1, a2, a3, a4, a5, a6, a7, a8⟩ | ⟨a1, a2, a3, a4, a5, a6, a7, a8⟩ | ⟨a1, a2, a3, a4, e, a5, a6⟩ | ⟨a1, a2, a3, a4, a5⟩
  · rcases h' with ⟨b1, b2, b3, b4, b5, b6, b7, b8⟩ | ⟨b1, b2, b3, b4, b5, b6, b7, b8⟩ | ⟨b1, b2, b3, b4, e', b5, b6⟩ | ⟨b1, b2, b3, b4, b5⟩
    · omega
    · exact absurd ⟨a1, a2⟩ b1
    · exact absurd ⟨a1, a2⟩ b1
    · exact absurd ⟨a1, a2⟩ b1
  · rcases h' with ⟨b1, b2, b3, b4, b5, b6, b7, b8⟩ | ⟨b1, b2, b3, b4, b5, b6, b7, b8⟩ | ⟨b1, b2, b3, b4, e', b5, b6⟩ | ⟨b1, b2, b3, b4, b5⟩
    · exact absurd ⟨b1, b2⟩ a1
    · omega
    · omega
    · omega
  · rcases h' with ⟨b1, b2, b3, b4, b5, b6, b7, b8⟩ | ⟨b1, b2, b3, b4, b5, b6, b7, b8⟩ | ⟨b1, b2, b3, b4, e', b5, b6⟩ | ⟨b1, b2, b3, b4, b5⟩
    · exact absurd ⟨b1, b2⟩ a1
    · omega
    · have ee := aRe_u a5 b5
      subst ee
      have hlt := aRe_lt a5 a2 a4
      rcases a6 with ⟨c1, c2, c3, c4, c5, c6⟩ | ⟨c1, c2, c3, c4, c5, c6⟩ | ⟨c1, c0, c2, c3, c4, c5, c6⟩
      · rcases b6 with ⟨d1, d2, d3, d4, d5, d6⟩ | ⟨d1, d2, d3, d4, d5, d6⟩ | ⟨d1, d0, d2, d3, d4, d5, d6⟩
        · have := aKw_u c4 d4
          omega
        · exact (WN hlt c1 d1).elim
        · exact absurd c1 d1
      · rcases b6 with ⟨d1, d2, d3, d4, d5, d6⟩ | ⟨d1, d2, d3, d4, d5, d6⟩ | ⟨d1, d0, d2, d3, d4, d5, d6⟩
        · exact (WN hlt d1 c1).elim
        · omega
        · exact absurd c1 d0
      · rcases b6 with ⟨d1, d2, d3, d4, d5, d6⟩ | ⟨d1, d2, d3, d4, d5, d6⟩ | ⟨d1, d0, d2, d3, d4, d5, d6⟩
        · exact absurd d1 c1
        · exact absurd d1 c0
        · omega
    · exact absurd a4 b4
  · rcases h' with ⟨b1, b2, b3, b4, b5, b6, b7, b8⟩ | ⟨b1, b2, b3, b4, b5, b6, b7, b8⟩ | ⟨b1, b2, b3, b4, e', b5, b6⟩ | ⟨b1, b2, b3, b4, b5⟩
    · exact absurd ⟨b1, b2⟩ a1
    · omega
    · exact absurd b4 a4
    · rcases a5 with ⟨c1, c2, c3, c4, c5, c6⟩ | ⟨c1, c2, c3, c4, c5, c6⟩ <;> rcases b5 with ⟨d1, d2, d3, d4, d5, d6⟩ | ⟨d1, d2, d3, d4, d5, d6⟩
      · omega
      · exact absurd c1 d1
      · exact absurd d1 c1
      · omega
/-- what a token is, in short -/
theorem Tok_p {z n M p kd pl fi kw va wo : Int} (h : Tok z n M p kd pl fi kw va wo) : 0 ≤ p ∧ 0 ≤ kd ∧ kd ≤ 4 ∧ -1 ≤ kw ∧ kw ≤ 23 ∧ (kd ≠ 2 → kw = -1) ∧ (2 ≤ kd → p < fi ∧ fi ≤ n) ∧ (kd = 2 → vW wo ∧ ∀ k : Nat, k < 24 → (kw = k ↔ c27 8 wo = kw27.getD k 0)) := by
  obtain ⟨s, hs, h⟩ := h
  obtain ⟨⟨q1, q2, q3⟩, q4, q5⟩ := hs
  rcases h with ⟨a1, a2, a3, a4, a5, a6, a7, a8⟩ | ⟨a1, a2, a3, a4, a5, a6, a7, a8⟩ | ⟨a1, a2, a3, a4, e, a5, a6⟩ | ⟨a1, a2, a3, a4, a5⟩
  · exact ⟨q1, by omega, by omega, by omega, by omega, fun _ => by omega, fun _ => by omega, fun _ => by omega⟩
  · exact ⟨q1, by omega, by omega, by omega, by omega, fun _ => by omega, fun _ => by omega, fun _ => by omega⟩
  · have hlt := aRe_lt a5 a2 a4
    have hle := a5.2.1
    rcases a6 with ⟨c1, c2, c3, c4, c5, c6⟩ | ⟨c1, c2, c3, c4, c5, c6⟩ | ⟨c1, c0, c2, c3, c4, c5, c6⟩
    · have r := aKw_r c4
      refine ⟨q1, by omega, by omega, by omega, by omega, fun _ => by omega, fun _ => by omega, fun _ => ?_⟩
      rw [c6]
      refine ⟨wF_vW c1 hlt, fun k hk => ?_⟩
      rw [wF_c27 c1 hlt, ← kw_is hk c1 hlt]
      constructor
      · intro e1
        rcases c4 with ⟨m, h1, h2, h3⟩ | ⟨h1, h2⟩
        · have : m = k := by omega
          rw [← this]; exact h3
        · omega
      · intro e1
        exact aKw_u c4 (Or.inl ⟨k, hk, rfl, e1⟩)
    · exact ⟨q1, by omega, by omega, by omega, by omega, fun _ => by omega, fun _ => by omega, fun _ => by omega⟩
    · exact ⟨q1, by omega, by omega, by omega, by omega, fun _ => by omega, fun _ => by omega, fun _ => by omega⟩
  · rcases a5 with ⟨c1, c2, c3, c4, c5, c6⟩ | ⟨c1, c2, c3, c4, c5, c6⟩ <;> exact ⟨q1, by omega, by omega, by omega, by omega, fun _ => by omega, fun _ => by omega, fun _ => by omega⟩
/-- what the reference is told of it -/
theorem TokR_p {z n M p kr fr to nu sg wr : Int} (h : pTokR z n M p kr fr to nu sg wr) : ∃ kd f kw v w : Int, Tok z n M p kd fr f kw v w ∧ ((kd = 0 ∧ kr = 1) ∨ (kd = 1 ∧ kr = 0) ∨ (2 ≤ kd ∧ kr = kd)) ∧ (2 ≤ kd → to = f) ∧ (kd = 3 → nu = v) ∧ (kd = 4 → sg = v) ∧ (kd = 2 → wr = c27 8 w ∧ vW w ∧ ∀ k : Nat, k < 24 → (kw = k ↔ wr = kw27.getD k 0)) ∧ (kd ≠ 2 → kw = -1) ∧ -1 ≤ kw ∧ kw ≤ 23 := by
  obtain ⟨kd, f, kw, v, w, h1, h2, h3, h4, h5, h6⟩ := h
  obtain ⟨t1, t2, t3, t4, t5, t6, t7, t8⟩ := Tok_p h1
  refine ⟨kd, f, kw, v, w, h1, h2, h3, h4, h5, fun e => ⟨h6 e, (t8 e).1, ?_⟩, t6, t4, t5⟩
  rw [h6 e]
  exact (t8 e).2
theorem tc_tok {z n M p kd pl fi kw va wo : Int} (h : Tok z n M p kd pl fi kw va wo) {fi' va' wo' : Int} (h1 : 2 ≤ kd → fi' = fi) (h2 : kd = 3 ∨ kd = 4 → va' = va) (h3 : kd = 2 → wo' = wo) : pTokC z n M p kd pl fi' kw va' wo' := ⟨fi, va, wo, h, h1, h2, h3⟩
theorem rk_2 {z s e : Int} (h : aRk z s e 2) : isW z s e := by
  rcases h with ⟨_, h⟩ | ⟨h, _⟩ | ⟨h, _⟩
  · exact h
  · omega
  · omega
theorem rk_3 {z s e : Int} (h : aRk z s e 3) : isN z s e := by
  rcases h with ⟨h, _⟩ | ⟨_, h⟩ | ⟨h, _⟩
  · omega
  · exact h
  · omega
theorem rk_0 {z s e : Int} (h : aRk z s e 0) : ¬ isW z s e ∧ ¬ isN z s e := by
  rcases h with ⟨h, _⟩ | ⟨h, _⟩ | ⟨_, h⟩
  · omega
  · omega
  · exact h
theorem nrn {z s b : Int} (h : pDec b z s) (h1 : pLet b 0) (h2 : pDig b 0) : ¬ bRn (tB z s) := by
  rw [dec_tB h]
  intro q
  rcases q with q | q
  · exact iff1_f h1 rfl q
  · exact iff1_f h2 rfl q
theorem t_0 {z n M p s : Int} (h : aSk z n p s) (h1 : M ≤ s) (h2 : M < n) : Tok z n M p 0 M 0 (-1) 0 0 := ⟨s, h, Or.inl ⟨h2, h1, rfl, rfl, rfl, rfl, rfl, rfl⟩⟩
theorem t_1 {z n M p s : Int} (h : aSk z n p s) (h1 : pInl n M s) (h2 : n ≤ s) : Tok z n M p 1 s 0 (-1) 0 0 := ⟨s, h, Or.inr (Or.inl ⟨h1, by have := h.2.1; omega, rfl, rfl, rfl, rfl, rfl, rfl⟩)⟩
theorem t_2 {z n M p s e kw : Int} (h : aSk z n p s) (h1 : pInl n M s) (h2 : s < n) (h3 : pRn z s) (h4 : aRe z n s e) (h5 : aRk z s e 2) (h6 : aKw z s e kw) : Tok z n M p 2 s e kw 0 (wF z s (e - s).toNat) := ⟨s, h, Or.inr (Or.inr (Or.inl ⟨h1, h2, rfl, h3, e, h4, Or.inl ⟨rk_2 h5, rfl, rfl, h6, rfl, rfl⟩⟩))⟩
theorem t_3 {z n M p s e : Int} (h : aSk z n p s) (h1 : pInl n M s) (h2 : s < n) (h3 : pRn z s) (h4 : aRe z n s e) (h5 : aRk z s e 3) : Tok z n M p 3 s e (-1) (numF z s (e - s).toNat) 0 := ⟨s, h, Or.inr (Or.inr (Or.inl ⟨h1, h2, rfl, h3, e, h4, Or.inr (Or.inl ⟨rk_3 h5, rfl, rfl, rfl, rfl, rfl⟩)⟩))⟩
theorem t_x {z n M p s e : Int} (h : aSk z n p s) (h1 : pInl n M s) (h2 : s < n) (h3 : pRn z s) (h4 : aRe z n s e) (h5 : aRk z s e 0) : Tok z n M p 0 s 0 (-1) 0 0 := ⟨s, h, Or.inr (Or.inr (Or.inl ⟨h1, h2, rfl, h3, e, h4, Or.inr (Or.inr ⟨(rk_0 h5).1, (rk_0 h5).2, rfl, rfl, rfl, rfl, rfl⟩)⟩))⟩
theorem t_4 {z n M p s b : Int} (h : aSk z n p s) (h1 : pInl n M s) (h2 : s < n) (h3 : pDec b z s) (h4 : pLet b 0) (h5 : pDig b 0) (h6 : pSig b 1) : Tok z n M p 4 s (s + 1) (-1) b 0 := ⟨s, h, Or.inr (Or.inr (Or.inr ⟨h1, h2, rfl, nrn h3 h4 h5, Or.inl ⟨by rw [dec_tB h3]; exact iff1_t h6 rfl, rfl, rfl, rfl, (dec_tB h3).symm, rfl⟩⟩))⟩
theorem t_y {z n M p s b : Int} (h : aSk z n p s) (h1 : pInl n M s) (h2 : s < n) (h3 : pDec b z s) (h4 : pLet b 0) (h5 : pDig b 0) (h6 : pSig b 0) : Tok z n M p 0 s 0 (-1) 0 0 := ⟨s, h, Or.inr (Or.inr (Or.inr ⟨h1, h2, rfl, nrn h3 h4 h5, Or.inr ⟨by rw [dec_tB h3]; exact iff1_f h6 rfl, rfl, rfl, rfl, rfl, rfl⟩⟩))⟩
theorem wd_F {z s e w : Int} (h : aWd z s e w) (h' : isW z s e) : w = wF z s (e - s).toNat := (h.2.2 h'.2).2.2 h'.1
theorem wr_F {z s e w : Int} (h : aWr z s e w) (h' : isW z s e) : w = vF z s (e - s).toNat := (h.2.2 h'.2).2.2 h'.1
theorem val_F {z s e v : Int} (h : aVal z s e v) (h' : isN z s e) : v = numF z s (e - s).toNat := h.2.2.2.2.2.2 h'.2 h'.1
/-- the reference's kinds -/
theorem tr_0 {z n M p s f v g w : Int} (h : Tok z n M p 0 s 0 (-1) 0 0) : pTokR z n M p 1 s f v g w := ⟨0, 0, -1, 0, 0, h, by omega, by omega, by omega, by omega, by omega⟩
theorem tr_1 {z n M p s f v g w : Int} (h : Tok z n M p 1 s 0 (-1) 0 0) : pTokR z n M p 0 s f v g w := ⟨1, 0, -1, 0, 0, h, by omega, by omega, by omega, by omega, by omega⟩
theorem tr_2 {z n M p s e v g w : Int} (h : aSk z n p s) (h1 : pInl n M s) (h2 : s < n) (h3 : pRn z s) (h4 : aRe z n s e) (h5 : aRk z s e 2) (h6 : aWr z s e w) : pTokR z n M p 2 s e v g w := by
  obtain ⟨kw, hk⟩ := aKw_ex z s e
  refine ⟨2, e, kw, 0, wF z s (e - s).toNat, t_2 h h1 h2 h3 h4 h5 hk, by omega, fun _ => rfl, by omega, by omega, fun _ => ?_⟩
  rw [wF_c27 (rk_2 h5) (aRe_lt h4 h2 h3)]
  exact wr_F h6 (rk_2 h5)
theorem tr_3 {z n M p s e v g w : Int} (h : aSk z n p s) (h1 : pInl n M s) (h2 : s < n) (h3 : pRn z s) (h4 : aRe z n s e) (h5 : aRk z s e 3) (h6 : aVal z s e v) : pTokR z n M p 3 s e v g w := ⟨3, e, -1, numF z s (e - s).toNat, 0, t_3 h h1 h2 h3 h4 h5, by omega, fun _ => rfl, fun _ => val_F h6 (rk_3 h5), by omega, by omega⟩
theorem tr_4 {z n M p s b v w : Int} (h : Tok z n M p 4 s (s + 1) (-1) b 0) : pTokR z n M p 4 s (s + 1) v b w := ⟨4, s + 1, -1, b, 0, h, by omega, fun _ => rfl, by omega, fun _ => rfl, by omega⟩
end
