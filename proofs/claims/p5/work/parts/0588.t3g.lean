noncomputable section
/-! T3: two tapes, one answer -/
def eqB (b c : Int) : Prop := ∀ x : Int, 0 ≤ x → x ≤ 127 → (b = x ↔ c = x)
def eqT (y z n : Int) : Prop := ∀ j : Int, 0 ≤ j → j < n → eqB (tB y j) (tB z j)
theorem tape_eq {c r n : Int} (h : pTape c r n) (hn : n ≤ 4096) : eqT c r n := fun j j0 j1 => by
  obtain ⟨x, h1, h2⟩ := h j j0 j1 (by omega)
  intro y y0 y1
  show dcd j.toNat c = y ↔ dcd j.toNat r = y
  rw [h1, h2]
  unfold sg8 us8
  omega
theorem eqB_s {b c : Int} (h : eqB b c) : eqB c b := fun x x0 x1 => (h x x0 x1).symm
theorem eqB_l {b c : Int} (h : eqB b c) (hb : bLt b) : c = b := by
  unfold bLt at hb
  exact (h b (by omega) (by omega)).mp rfl
theorem eqB_d {b c : Int} (h : eqB b c) (hb : bDg b) : c = b := by
  unfold bDg at hb
  exact (h b (by omega) (by omega)).mp rfl
theorem eqB_g {b c : Int} (h : eqB b c) (hb : bSg b) : c = b := by
  unfold bSg at hb
  exact (h b (by omega) (by omega)).mp rfl
theorem eqB_b {b c : Int} (h : eqB b c) (hb : bBl b) : c = b := by
  unfold bBl at hb
  exact (h b (by omega) (by omega)).mp rfl
theorem eqB_r {b c : Int} (h : eqB b c) (hb : bRn b) : c = b := by
  rcases hb with q | q
  · exact eqB_l h q
  · exact eqB_d h q
theorem all_t {P : Int → Prop} (hP : ∀ b c : Int, eqB b c → P b → P c) {y z n s e : Int} (h : eqT y z n) (hs : 0 ≤ s) (he : e ≤ n) (a : aAll P y s e) : aAll P z s e := fun j j0 j1 => hP _ _ (h j (by omega) (by omega)) (a j j0 j1)
theorem P_l (b c : Int) (h : eqB b c) (q : bLt b) : bLt c := by rw [eqB_l h q]; exact q
theorem P_d (b c : Int) (h : eqB b c) (q : bDg b) : bDg c := by rw [eqB_d h q]; exact q
theorem P_g (b c : Int) (h : eqB b c) (q : bSg b) : bSg c := by rw [eqB_g h q]; exact q
theorem P_b (b c : Int) (h : eqB b c) (q : bBl b) : bBl c := by rw [eqB_b h q]; exact q
theorem P_r (b c : Int) (h : eqB b c) (q : bRn b) : bRn c := by rw [eqB_r h q]; exact q
theorem eqT_s {y z n : Int} (h : eqT y z n) : eqT z y n := fun j j0 j1 => eqB_s (h j j0 j1)
theorem sk_t {y z n p s : Int} (h : eqT y z n) (a : aSk y n p s) : aSk z n p s := by
  obtain ⟨⟨a1, a2, a3⟩, a4, a5⟩ := a
  refine ⟨⟨a1, a2, all_t P_b h a1 a4 a3⟩, a4, ?_⟩
  by_cases e : s = n
  · exact Or.inl e
  · rcases a5 with a5 | a5
    · exact Or.inl a5
    · exact Or.inr (fun q => a5 (P_b _ _ (eqB_s (h s (by omega) (by omega))) q))
theorem re_t {y z n s e : Int} (h : eqT y z n) (hs : 0 ≤ s) (a : aRe y n s e) : aRe z n s e := by
  obtain ⟨a1, a2, a3, a4⟩ := a
  refine ⟨a1, a2, all_t P_r h hs a2 a3, ?_⟩
  by_cases g : e = n
  · exact Or.inl g
  · rcases a4 with a4 | a4
    · exact Or.inl a4
    · exact Or.inr (fun q => a4 (P_r _ _ (eqB_s (h e (by omega) (by omega))) q))
theorem isW_t {y z n s e : Int} (h : eqT y z n) (hs : 0 ≤ s) (he : e ≤ n) (a : isW y s e) : isW z s e := ⟨all_t P_l h hs he a.1, a.2⟩
theorem isN_t {y z n s e : Int} (h : eqT y z n) (hs : 0 ≤ s) (he : e ≤ n) (a : isN y s e) : isN z s e := ⟨all_t P_d h hs he a.1, a.2⟩
theorem kwE_t {y z n s e : Int} {k : Nat} (hk : k < 24) (h : eqT y z n) (hs : 0 ≤ s) (he : e ≤ n) (a : kwE y s e k) : kwE z s e k := by
  obtain ⟨t1, t2, t3, t4⟩ := kw_vG k hk
  refine ⟨a.1, fun j hj => ?_⟩
  have a1 := a.1
  have q := t4 j hj
  exact (h (s + j) (by omega) (by omega) _ (by omega) (by omega)).mp (a.2 j hj)
theorem aKw_t {y z n s e k : Int} (h : eqT y z n) (hs : 0 ≤ s) (he : e ≤ n) (a : aKw y s e k) : aKw z s e k := by
  rcases a with ⟨m, a1, a2, a3⟩ | ⟨a1, a2⟩
  · exact Or.inl ⟨m, a1, a2, kwE_t a1 h hs he a3⟩
  · exact Or.inr ⟨a1, fun k hk q => a2 k hk (kwE_t hk (eqT_s h) hs he q)⟩
theorem numF_c {y z s : Int} : ∀ {k : Nat}, (∀ j : Nat, j < k → tB z (s + j) = tB y (s + j)) → numF z s k = numF y s k
  | 0, _ => rfl
  | k + 1, h => by
    show 10 * numF z s k + tB z (s + k) - 48 = 10 * numF y s k + tB y (s + k) - 48
    rw [numF_c (k := k) (fun j hj => h j (by omega)), h k (by omega)]
theorem wF_c {y z s : Int} : ∀ {k : Nat}, (∀ j : Nat, j < k → tB z (s + j) = tB y (s + j)) → wF z s k = wF y s k
  | 0, _ => rfl
  | k + 1, h => by
    show 32 * wF z s k + tB z (s + k) - 96 = 32 * wF y s k + tB y (s + k) - 96
    rw [wF_c (k := k) (fun j hj => h j (by omega)), h k (by omega)]
theorem Tok_t {y z n M p kd pl fi kw va wo : Int} (h : eqT y z n) (a : Tok y n M p kd pl fi kw va wo) : Tok z n M p kd pl fi kw va wo := by
  obtain ⟨s, hs, a⟩ := a
  have s0 : 0 ≤ s := by
    have := hs.1.1
    have := hs.1.2.1
    omega
  refine ⟨s, sk_t h hs, ?_⟩
  rcases a with a | a | ⟨a1, a2, a3, a4, e, a5, a6⟩ | ⟨a1, a2, a3, a4, a5⟩
  · exact Or.inl a
  · exact Or.inr (Or.inl a)
  · refine Or.inr (Or.inr (Or.inl ⟨a1, a2, a3, P_r _ _ (h s s0 a2) a4, e, re_t h s0 a5, ?_⟩))
    have he := a5.2.1
    rcases a6 with ⟨c1, c2, c3, c4, c5, c6⟩ | ⟨c1, c2, c3, c4, c5, c6⟩ | ⟨c1, c0, c2, c3, c4, c5, c6⟩
    · refine Or.inl ⟨isW_t h s0 he c1, c2, c3, aKw_t h s0 he c4, c5, ?_⟩
      rw [c6]
      exact (wF_c (fun j hj => eqB_l (h (s + j) (by omega) (by omega)) (c1.1 (s + j) (by omega) (by omega)))).symm
    · refine Or.inr (Or.inl ⟨isN_t h s0 he c1, c2, c3, c4, ?_, c6⟩)
      rw [c5]
      exact (numF_c (fun j hj => eqB_d (h (s + j) (by omega) (by omega)) (c1.1 (s + j) (by omega) (by omega)))).symm
    · exact Or.inr (Or.inr ⟨fun q => c1 (isW_t (eqT_s h) s0 he q), fun q => c0 (isN_t (eqT_s h) s0 he q), c2, c3, c4, c5, c6⟩)
  · refine Or.inr (Or.inr (Or.inr ⟨a1, a2, a3, fun q => a4 (P_r _ _ (eqB_s (h s s0 a2)) q), ?_⟩))
    rcases a5 with ⟨c1, c2, c3, c4, c5, c6⟩ | ⟨c1, c2, c3, c4, c5, c6⟩
    · refine Or.inl ⟨P_g _ _ (h s s0 a2) c1, c2, c3, c4, ?_, c6⟩
      rw [c5]
      exact (eqB_g (h s s0 a2) c1).symm
    · exact Or.inr ⟨fun q => c1 (P_g _ _ (eqB_s (h s s0 a2)) q), c2, c3, c4, c5, c6⟩
theorem Rch_t {y z n : Int} (h : eqT y z n) : ∀ {t : Nat} {s : AS}, Rch y n t s → Rch z n t s
  | 0, s, q => q
  | t + 1, s, q => by
    obtain ⟨s', kd, pl, fi, kw, va, wo, h1, h2, h3⟩ := q
    exact ⟨s', kd, pl, fi, kw, va, wo, Rch_t h h1, Tok_t h h2, h3⟩
theorem Rch_u {z n : Int} : ∀ {t : Nat} {s s' : AS}, Rch z n t s → Rch z n t s' → s = s'
  | 0, s, s', q, q' => by
    have e : s = sI := q
    have e' : s' = sI := q'
    rw [e, e']
  | t + 1, s, s', q, q' => by
    obtain ⟨s1, kd, pl, fi, kw, va, wo, h1, h2, h3⟩ := q
    obtain ⟨s2, kd', pl', fi', kw', va', wo', g1, g2, g3⟩ := q'
    have e := Rch_u h1 g1
    subst e
    obtain ⟨rfl, rfl, rfl, rfl, rfl, rfl⟩ := Tok_u h2 g2
    rw [h3] at g3
    exact Sum.inl.inj g3
theorem Rch_p {z n : Int} {t : Nat} : ∀ {d : Nat} {s : AS}, Rch z n (t + (d + 1)) s → ∃ (s0 s1 : AS) (kd pl fi kw va wo : Int), Rch z n t s0 ∧ Tok z n 900 (s0 1) kd pl fi kw va wo ∧ stepA s0 kd pl fi kw va wo = .inl s1
  | 0, s, q => by
    obtain ⟨s', kd, pl, fi, kw, va, wo, h1, h2, h3⟩ := q
    exact ⟨s', s, kd, pl, fi, kw, va, wo, h1, h2, h3⟩
  | d + 1, s, q => by
    obtain ⟨s', kd, pl, fi, kw, va, wo, h1, h2, h3⟩ := q
    exact Rch_p (d := d) h1
theorem ans_no {z n a f : Int} {t t' : Nat} {s s' : AS} {kd pl fi kw va wo : Int} (h1 : Rch z n t s) (h2 : Tok z n 900 (s 1) kd pl fi kw va wo) (h3 : stepA s kd pl fi kw va wo = .inr (a, f)) (h : Rch z n t' s') (hl : t < t') : False := by
  obtain ⟨d, rfl⟩ : ∃ d, t' = t + (d + 1) := ⟨t' - t - 1, by omega⟩
  obtain ⟨s0, s1, kd', pl', fi', kw', va', wo', g1, g2, g3⟩ := Rch_p h
  have e := Rch_u h1 g1
  subst e
  obtain ⟨rfl, rfl, rfl, rfl, rfl, rfl⟩ := Tok_u h2 g2
  rw [h3] at g3
  cases g3
theorem ans_u {z n a f b g : Int} (h : pAns z n a f) (h' : pAns z n b g) : a = b ∧ f = g := by
  obtain ⟨t, s, kd, pl, fi, kw, va, wo, h1, h2, h3⟩ := h
  obtain ⟨t', s', kd', pl', fi', kw', va', wo', g1, g2, g3⟩ := h'
  rcases Nat.lt_trichotomy t t' with q | q | q
  · exact (ans_no h1 h2 h3 g1 q).elim
  · subst q
    have e := Rch_u h1 g1
    subst e
    obtain ⟨rfl, rfl, rfl, rfl, rfl, rfl⟩ := Tok_u h2 g2
    rw [h3] at g3
    have e2 := Sum.inr.inj g3
    exact ⟨congrArg Prod.fst e2, congrArg Prod.snd e2⟩
  · exact (ans_no g1 g2 g3 h1 q).elim
theorem ans_t {y z n a f : Int} (h : eqT y z n) (q : pAns y n a f) : pAns z n a f := by
  obtain ⟨t, s, kd, pl, fi, kw, va, wo, h1, h2, h3⟩ := q
  exact ⟨t, s, kd, pl, fi, kw, va, wo, Rch_t h h1, Tok_t h h2, h3⟩
theorem ans_mk {z n a f pl kd fi kw va wo F : Int} {t : Nat} {s : AS} (h1 : Rch z n t s) (h2 : Tok z n 900 (s 1) kd pl fi kw va wo) (h3 : stepA s kd pl fi kw va wo = hlt pl F) (e : a = -1 - pl) (e2 : f = F) : pAns z n a f := by
  subst e
  subst e2
  exact ⟨t, s, kd, pl, fi, kw, va, wo, h1, h2, h3⟩
/-! names, found by either -/
theorem fnd_c {zn w i b cnt : Int} {s : AS} (hn : aAg zn s 100 19) (hb : 0 ≤ b) (hc : b + cnt ≤ 19) (h : pFnd zn b cnt w i) : i = fndF (fun j => s (100 + b + j)) w cnt.toNat := by
  obtain ⟨h1, h2, h3⟩ := h
  rw [h3]
  refine fndF_map (fun j hj => ?_)
  show dcd (b + j).toNat zn = w ↔ s (100 + b + j) = w
  rw [hn (b + j) (by omega) (by omega), show 100 + (b + (j : Int)) = 100 + b + j by omega]
theorem fnd_r {zm w v i b c cnt : Int} {s : AS} {zr : Int} (hm : ∀ j : Int, kslot s j ∨ pend s j → 0 ≤ j → j < 19 → dcd j.toNat zm = c27 8 (s (100 + j))) (h4 : I4 s) (hw : w = c27 8 v) (hv : vW v) (hb : 0 ≤ b) (hc : b + cnt ≤ 19) (hk : ∀ j : Int, b ≤ j → j < b + cnt → kslot s j) (hz : dcd c.toNat zr = cnt) (h : pFndr zm zr b c w i) : i = fndF (fun j => s (100 + b + j)) v cnt.toNat := by
  obtain ⟨g0, h1, h2, h3⟩ := h
  rw [hz] at h2 h3
  rw [h3]
  refine fndF_map (fun j hj => ?_)
  show dcd (b + j).toNat zm = w ↔ s (100 + b + j) = v
  have k := hk (b + j) (by omega) (by omega)
  rw [hm (b + j) (Or.inl k) (by omega) (by omega), show 100 + b + (j : Int) = 100 + (b + j) by omega, hw]
  exact ⟨fun q => vW_u (h4.2 _ (Or.inl k)) hv q, fun q => by rw [q]⟩
end
