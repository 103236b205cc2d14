noncomputable section
/-! the law's loop in two pieces a round: to the switch, then by the value that it switches on -/
def zq_hd2 (env : eEv) : Bool := match lke env 0, lke env 1 with
  | some i, some j => ile 0 j.1 && ile j.2 3072 && ile 0 i.1
  | _, _ => false
def zq_ltI (T : eCut) : Bool := fbeq T.2.2.2.2.2.2.2.2 ([(1, 1)], -1) && Nat.beq T.2.2.2.2.2.2.1 0 && Nat.beq T.2.2.2.2.2.2.2.1 0 && zq_hd2 T.2.1
def zq_setT (T : eCut) (v : Nat) (i : Int × Int) : eCut := (T.1, eset T.2.1 v i, T.2.2)
theorem zq_f1 (T : eCut) (v : Nat) (i : Int × Int) : (zq_setT T v i).1 = T.1 := by
  obtain ⟨a, b, c⟩ := T
  show a = a
  rfl
theorem zq_f2 (T : eCut) (v : Nat) (i : Int × Int) : (zq_setT T v i).2.1 = eset T.2.1 v i := by
  obtain ⟨a, b, c⟩ := T
  show eset b v i = eset b v i
  rfl
theorem zq_f3 (T : eCut) (v : Nat) (i : Int × Int) : (zq_setT T v i).2.2 = T.2.2 := by
  obtain ⟨a, b, c⟩ := T
  show c = c
  rfl
/-- the template at the switch: at least one round of the script is left -/
def zq_midT (pc k : Nat) (T : eCut) : eCut := (pc, (Nat.add T.2.1.1 1, dcat (eset T.2.1 1 (6, 3072)).2 (Nat.mul 2 T.2.1.1) (epk [(0, 63)])), T.2.2.1, [.inl ([(k, 1)], 0)], T.2.2.2.2.1, T.2.2.2.2.2.1, 0, 0, ([(1, 1)], -1))
def zq_covB (hi : Int) : Int → List (Int × Int) → Bool
  | lo, [] => ile (hi + 1) lo
  | lo, i :: t => ile i.1 lo && zq_covB hi (i.2 + 1) t
theorem zq_covB_ok {hi : Int} : ∀ {P : List (Int × Int)} {lo x : Int}, zq_covB hi lo P = true → lo ≤ x → x ≤ hi → ∃ i ∈ P, ivr i x
  | [], lo, x, h, h1, h2 => by
    exfalso
    unfold zq_covB at h
    have := ile_t h
    omega
  | i :: t, lo, x, h, h1, h2 => by
    unfold zq_covB at h
    rw [Bool.and_eq_true] at h
    have h3 := ile_t h.1
    by_cases hx : x ≤ i.2
    · exact ⟨i, List.mem_cons_self, by show i.1 ≤ x; omega, hx⟩
    · obtain ⟨j, j1, j2⟩ := zq_covB_ok h.2 (show i.2 + 1 ≤ x by omega) h2
      exact ⟨j, List.mem_cons_of_mem _ j1, j2⟩
theorem zq_num1 {env : eEv} {ρ : List Int} (hE : eOk env ρ) (h : zq_hd2 env = true) : ∃ x, lfv ρ lMu x ∧ 0 ≤ x := by
  unfold zq_hd2 at h
  split at h
  · rename_i i j hi hj
    simp only [Bool.and_eq_true] at h
    obtain ⟨y1, e1, hy1⟩ := lke_ok hE hj
    refine ⟨y1, ?_, ?_⟩
    · show lev ρ [(1, 1)] = some (y1 - 0)
      rw [lev_mk (q := (1, 1)) (x := y1) (y := 0) e1 rfl]
      congr 1
      show 1 * _ + 0 = _ - 0
      omega
    · have q1 := ile_t h.1.1
      have q2 := hy1.1
      omega
  · cases h
theorem zq_pall_nil {p : Int × Int → Prop} : ∀ y ∈ ([] : List (Int × Int)), p y := fun y hy => by cases hy
theorem zq_pall_cons {p : Int × Int → Prop} {i : Int × Int} {P : List (Int × Int)} (h : p i) (g : ∀ y ∈ P, p y) : ∀ y ∈ i :: P, p y := fun y hy => by
  rcases List.mem_cons.mp hy with rfl | hy
  · exact h
  · exact g y hy
section
variable {p : Program} {l : Launch} {e : Env} {R : Room} {s : State} {m : MethodId} {args : Array Value} {below : List Frame} {meth : Method} {c : Code} {Q : State → Prop} {D : va_G} {ca : Nat → ClassId} {A : Nat → Prop} {nL : Nat} {a0 : List Nat} {own : String} {cc : ByteArray} {env : eEv} {lo : List (Nat × eSV)} {st : List eSV} {hp : eHp} {na : eNa} {nc ns pc : Nat}
theorem law_part (X : eCx p R s m args c D ca A nL own cc a0) {Rf Rl Mc Ms c0 s0 : Nat} (hRf : Rf ≤ R.frames) (hRl : Rl ≤ R.locals) (hRc : c0 + Mc * 3073 ≤ R.cells) (hRs : s0 + Ms * 3073 ≤ R.slots) {C : eCode} (hC : codOk own cc C) {KS KWS : List eK} (hKS : ∀ K ∈ KS, KMet l D ca K) (hKW : ∀ K ∈ KWS, kwOk l D ca own K) {CT : List eCut} {FL : List Nat} {b L : Nat} {xs : Nat → Int32}
    (hX : va_X b L xs s s.heap) (hbl : b < s.heap.size) (hbA : ¬ A b) (ha0 : a0[13]? = some b) (ha1 : a0.length = 14) (hL : L ≤ 3072) {T : eCut} {n1 : Nat} {an0 : List eAn} (hz : ltB nL Rf Rl Mc Ms C KS KWS CT FL (T, n1, an0) = true)
    (hret : ∀ (cb sb : Nat) (r1 : List Int) (a1 : List Nat), cb ≤ c0 + Mc * 3072 → sb ≤ s0 + Ms * 3072 → ∀ (a : eAn) (env : eEv) (lo : List (Nat × eSV)) (hp : eHp) (na : eNa) (nc ns pc : Nat) (f : eLF), decode cc pc = .ok (.ireturn, 1) → lawB Mc Ms a (env, lo, [.inl f], hp, na, nc, ns, pc) (some (.inl f)) = true → eG p l e R s m args below meth c Q D ca A nL cb sb r1 a1 env lo [.inl f] hp na nc ns pc)
    {ρ : List Int} {α : List Nat} {ls : Array Slot} {lvl : List (Nat × Value)} {stk : List Value} {ws : va_W} {H : Heap} {locs : List Loc} (hh : eRep s D ca A nL [(L : Int)] a0 T.2.1 T.2.2.1 T.2.2.2.1 T.2.2.2.2.1 T.2.2.2.2.2.1 ρ α ls lvl stk ws H locs) {x : Int} (hx : lfv ρ lMu x) (hx0 : 0 ≤ x) (hxL : x ≤ (L : Int))
    (kT : ∀ T' ∈ CT, ∀ (ρ2 : List Int) (α2 : List Nat) (ls2 : Array Slot) (lvl2 : List (Nat × Value)) (stk2 : List Value) (ws2 : va_W) (H2 : Heap) (locs2 : List Loc), eRep s D ca A nL [(L : Int)] a0 T'.2.1 T'.2.2.1 T'.2.2.2.1 T'.2.2.2.2.1 T'.2.2.2.2.2.1 ρ2 α2 ls2 lvl2 stk2 ws2 H2 locs2 → ∀ y, lfv ρ2 T'.2.2.2.2.2.2.2.2 y → y + 1 ≤ x → W p l e R s m args below meth c H2 locs2 (c0 + Mc * (3072 - x).toNat + T'.2.2.2.2.2.2.1) (s0 + Ms * (3072 - x).toNat + T'.2.2.2.2.2.2.2.1) Q (F0 m T'.1 ls2 stk2)) :
    W p l e R s m args below meth c H locs (c0 + Mc * (3072 - x).toNat) (s0 + Ms * (3072 - x).toNat) Q (F0 m T.1 ls stk) := by
  obtain ⟨i, hi⟩ : ∃ i : Nat, (L : Int) - x = (i : Int) := ⟨((L : Int) - x).toNat, by omega⟩
  have z1 : [(L : Int)] <+: ρ := hh.2.1.2.1
  have z2 : a0 <+: α := hh.2.1.2.2
  obtain ⟨ρx, hρx⟩ := z1
  have hρ0 : lfv ρ lLf (L : Int) := by
    rw [← hρx]
    show lev ((L : Int) :: ρx) [(0, 1)] = some ((L : Int) - 0)
    rw [lev_mk (q := (0, 1)) (x := (L : Int)) (y := 0) rfl rfl]
    congr 1
    show 1 * _ + 0 = _ - 0
    omega
  have hbs : lfv ρ lBs (i : Int) := by
    have q := fsub_ok hρ0 hx
    have e : fsub lLf lMu = lBs := by decide
    rw [e, hi] at q
    exact q
  have hlen : T.2.1.1 = ρ.length := hh.1.1.symm
  have z1' : [(L : Int)] <+: ρ ++ xs6 xs i := List.IsPrefix.trans ⟨ρx, hρx⟩ (List.prefix_append _ _)
  have hv : ∀ k, k < 6 → i + k < L → (ρ ++ xs6 xs i)[T.2.1.1 + k]? = some (xs (i + k)).toInt := by
    intro k hk _
    rw [hlen, List.getElem?_append_right (Nat.le_add_right _ _), Nat.add_sub_cancel_left]
    exact xs6_get xs i k hk
  have hcb : c0 + Mc * (3072 - x).toNat ≤ c0 + Mc * 3072 := Nat.add_le_add_left (Nat.mul_le_mul_left _ (by omega)) _
  have hsb : s0 + Ms * (3072 - x).toNat ≤ s0 + Ms * 3072 := Nat.add_le_add_left (Nat.mul_le_mul_left _ (by omega)) _
  have hRc' : (c0 + Mc * (3072 - x).toNat) + Mc ≤ R.cells := by
    have e : Mc * 3073 = Mc * 3072 + Mc := by omega
    omega
  have hRs' : (s0 + Ms * (3072 - x).toNat) + Ms ≤ R.slots := by
    have e : Ms * 3073 = Ms * 3072 + Ms := by omega
    omega
  unfold ltB at hz
  split at hz
  · rename_i a1 an1 hane
    obtain ⟨an2, hs⟩ := Option.isSome_iff_exists.mp hz
    have hstF : ∀ rec : eRc, (∀ an S an', rec an S = some an' → GS p l e R s m args below meth c Q D ca A nL (c0 + Mc * (3072 - x).toNat) (s0 + Ms * (3072 - x).toNat) (ρ ++ xs6 xs i) α S) → ∀ an S an', lstep2 nL Rf Rl Mc Ms C KS KWS lLf lBs T.2.1.1 (lawB Mc Ms) rec an S = some an' → GS p l e R s m args below meth c Q D ca A nL (c0 + Mc * (3072 - x).toNat) (s0 + Ms * (3072 - x).toNat) (ρ ++ xs6 xs i) α S := fun rec hrec =>
      lstep2_ok (eCx_mono X z2) hlib hRf hRl hRc' hRs' hC hKS hKW hX hbl hbA (by obtain ⟨αx, hαx⟩ := z2; rw [← hαx]; exact getE_mono αx ha0) (lfv_mono _ hρ0) (lfv_mono _ hbs) hv
        (fun a env lo hp na nc ns pc hd hq => by cases hq) (hret _ _ _ _ hcb hsb)
        ⟨fun a env lo hp na nc ns pc f hd hq => (by cases hq), fun a env lo hp na nc ns pc i hd hq => (by cases hq)⟩ rec hrec
    have ihr : ∀ an S an', runF (lstep2 nL Rf Rl Mc Ms C KS KWS lLf lBs T.2.1.1 (lawB Mc Ms)) CT FL 1 14 (some lMu) n1 an S = some an' → GS p l e R s m args below meth c Q D ca A nL (c0 + Mc * (3072 - x).toNat) (s0 + Ms * (3072 - x).toNat) (ρ ++ xs6 xs i) α S := fun an S an' hr => runF_ok hstF (fun a' S' hc => cut_ok z1' z2 rfl ha1 (fun μ hμ => by cases hμ; exact ⟨x, lfv_mono _ hx⟩) hc (fun T' hT' ρ2 α2 ls2 lvl2 stk2 ws2 H2 locs2 hh2 hm2 => by
        obtain ⟨y, y1, y2⟩ := hm2 _ x rfl (lfv_mono _ hx)
        exact kT T' hT' ρ2 α2 ls2 lvl2 stk2 ws2 H2 locs2 hh2 y y1 y2)) n1 an S an' hr
    have G := opG_ok (S := stL T) ihr (hstF _ ihr) hs
    have hr2 := rep_env (env' := efu T.2.1) (σ := xs6 xs i) hh (efu_ok hh.1 xs i)
    exact G _ α ls lvl stk ws H locs ⟨hr2.1, ⟨hr2.2.1.1, List.prefix_refl _, List.prefix_refl _⟩, hr2.2.2⟩
  · cases hz
theorem law_loop3 (X : eCx p R s m args c D ca A nL own cc a0) {Rf Rl Mc Ms c0 s0 : Nat} (hRf : Rf ≤ R.frames) (hRl : Rl ≤ R.locals) (hRc : c0 + Mc * 3073 ≤ R.cells) (hRs : s0 + Ms * 3073 ≤ R.slots) {C : eCode} (hC : codOk own cc C) {KS KWS : List eK} (hKS : ∀ K ∈ KS, KMet l D ca K) (hKW : ∀ K ∈ KWS, kwOk l D ca own K) {CT : List eCut} {FL : List Nat} {b L : Nat} {xs : Nat → Int32}
    (hX : va_X b L xs s s.heap) (hbl : b < s.heap.size) (hbA : ¬ A b) (ha0 : a0[13]? = some b) (ha1 : a0.length = 14) (hL : L ≤ 3072)
    (hO : ∀ T ∈ CT, ltO Mc Ms T = true) (hZ : ∀ T ∈ CT, ∃ (T1 : eCut) (n : Nat) (an : List eAn) (v : Nat) (i0 : Int × Int) (P : List (Int × Int)), ltB nL Rf Rl Mc Ms C KS KWS [T1] FL (T, n, an) = true ∧ zq_ltI T1 = true ∧ lke T1.2.1 v = some i0 ∧ zq_covB i0.2 i0.1 P = true ∧ ∀ i ∈ P, ∃ (n' : Nat) (an' : List eAn), ltB nL Rf Rl Mc Ms C KS KWS CT FL (zq_setT T1 v i, n', an') = true)
    (hret : ∀ (cb sb : Nat) (r1 : List Int) (a1 : List Nat), cb ≤ c0 + Mc * 3072 → sb ≤ s0 + Ms * 3072 → ∀ (a : eAn) (env : eEv) (lo : List (Nat × eSV)) (hp : eHp) (na : eNa) (nc ns pc : Nat) (f : eLF), decode cc pc = .ok (.ireturn, 1) → lawB Mc Ms a (env, lo, [.inl f], hp, na, nc, ns, pc) (some (.inl f)) = true → eG p l e R s m args below meth c Q D ca A nL cb sb r1 a1 env lo [.inl f] hp na nc ns pc) :
    ∀ (N : Nat) (T : eCut), T ∈ CT → ∀ (ρ : List Int) (α : List Nat) (ls : Array Slot) (lvl : List (Nat × Value)) (stk : List Value) (ws : va_W) (H : Heap) (locs : List Loc), eRep s D ca A nL [(L : Int)] a0 T.2.1 T.2.2.1 T.2.2.2.1 T.2.2.2.2.1 T.2.2.2.2.2.1 ρ α ls lvl stk ws H locs → ∀ x, lfv ρ lMu x → x < (N : Int) → x ≤ (L : Int) →
      W p l e R s m args below meth c H locs (c0 + Mc * (3072 - x).toNat) (s0 + Ms * (3072 - x).toNat) Q (F0 m T.1 ls stk) := by
  intro N
  induction N with
  | zero =>
    intro T hT ρ α ls lvl stk ws H locs hh x hx hN _
    exfalso
    have h0 := hO T hT
    unfold ltO at h0
    rw [Bool.and_eq_true] at h0
    have h1 := h0.2
    split at h1
    · rename_i i j hi hj
      simp only [Bool.and_eq_true] at h1
      obtain ⟨y1, e1, hy1⟩ := lke_ok hh.1 hj
      have hx1 : lfv ρ lMu y1 := by
        show lev ρ [(1, 1)] = some (y1 - 0)
        rw [lev_mk (q := (1, 1)) (x := y1) (y := 0) e1 rfl]
        congr 1
        show 1 * _ + 0 = _ - 0
        omega
      have e2 := lfv_fun hx hx1
      have q1 := ile_t h1.1.1
      have q2 := hy1.1
      omega
    · cases h1
  | succ N ih =>
    intro T hT ρ α ls lvl stk ws H locs hh x hx hN hxL
    have h0 := hO T hT
    unfold ltO at h0
    rw [Bool.and_eq_true, Bool.and_eq_true, Bool.and_eq_true] at h0
    obtain ⟨⟨⟨h01, h02⟩, h03⟩, h04⟩ := h0
    have hx0 : 0 ≤ x := by
      split at h04
      · rename_i i j hi hj
        simp only [Bool.and_eq_true] at h04
        obtain ⟨y1, e1, hy1⟩ := lke_ok hh.1 hj
        have hx1 : lfv ρ lMu y1 := by
          show lev ρ [(1, 1)] = some (y1 - 0)
          rw [lev_mk (q := (1, 1)) (x := y1) (y := 0) e1 rfl]
          congr 1
          show 1 * _ + 0 = _ - 0
          omega
        have e2 := lfv_fun hx hx1
        have q1 := ile_t h04.1.1
        have q2 := hy1.1
        omega
      · cases h04
    obtain ⟨T1, n1, an0, v, i0, P, hz, hI, hv1, hP, hPz⟩ := hZ T hT
    refine law_part X hRf hRl hRc hRs hC hKS hKW hX hbl hbA ha0 ha1 hL hz hret hh hx hx0 hxL (fun T' hT' ρ2 α2 ls2 lvl2 stk2 ws2 H2 locs2 hh2 y y1 y2 => ?_)
    have e0 : T' = T1 := by
      rcases List.mem_cons.mp hT' with h | h
      · exact h
      · cases h
    rw [e0] at hh2 y1 ⊢
    unfold zq_ltI at hI
    rw [Bool.and_eq_true, Bool.and_eq_true, Bool.and_eq_true] at hI
    obtain ⟨⟨⟨i1, i2⟩, i3⟩, i4⟩ := hI
    obtain ⟨x1, x2, x3⟩ := zq_num1 hh2.1 i4
    rw [fbeq_t i1] at y1
    have q9 := fpl_ok (-1) x2
    have e9 : fpl lMu (-1) = ([(1, 1)], -1) := by decide
    rw [e9] at q9
    have e1 := lfv_fun y1 q9
    have e2 := Nat.eq_of_beq_eq_true i2
    have e3 := Nat.eq_of_beq_eq_true i3
    have hxx : x1 ≤ x := by omega
    obtain ⟨w, w1, w2⟩ := lke_ok hh2.1 hv1
    obtain ⟨iv, iv1, iv2⟩ := zq_covB_ok hP w2.1 w2.2
    obtain ⟨n', an', hz'⟩ := hPz iv iv1
    obtain ⟨T2, hT2⟩ : ∃ T2, T2 = zq_setT T1 v iv := ⟨_, rfl⟩
    have f1 : T1.1 = T2.1 := by rw [hT2, zq_f1]
    have f2 : T1.2.2 = T2.2.2 := by rw [hT2, zq_f3]
    have hE : eOk T2.2.1 ρ2 := by
      rw [hT2, zq_f2]
      exact eOk_set hh2.1 w1 iv2.1 iv2.2
    rw [← hT2] at hz'
    have hh4 := hh2.2
    rw [f2] at hh4
    have k0 : (3072 - x).toNat ≤ (3072 - x1).toNat := by omega
    have kc := Nat.mul_le_mul_left Mc k0
    have ks := Nat.mul_le_mul_left Ms k0
    refine W.widen (k := c0 + Mc * (3072 - x1).toNat) (n := s0 + Ms * (3072 - x1).toNat) (by rw [e2]; omega) (by rw [e3]; omega) ?_
    rw [f1]
    refine law_part (T := T2) X hRf hRl hRc hRs hC hKS hKW hX hbl hbA ha0 ha1 hL hz' hret (ρ := ρ2) (α := α2) (ls := ls2) (lvl := lvl2) (stk := stk2) (ws := ws2) (H := H2) (locs := locs2) ⟨hE, hh4⟩ x2 x3 (by omega) (fun T3 hT3 ρ3 α3 ls3 lvl3 stk3 ws3 H3 locs3 hh3 y3 y31 y32 => ?_)
    have g0 := hO T3 hT3
    unfold ltO at g0
    rw [Bool.and_eq_true, Bool.and_eq_true, Bool.and_eq_true] at g0
    obtain ⟨⟨⟨g01, g02⟩, g03⟩, -⟩ := g0
    have e6 := fbeq_t g01
    have e7 := Nat.eq_of_beq_eq_true g02
    have e8 := Nat.eq_of_beq_eq_true g03
    rw [e6] at y31
    have w3 := ih T3 hT3 ρ3 α3 ls3 lvl3 stk3 ws3 H3 locs3 hh3 y3 y31 (by omega) (by omega)
    have k1 : (3072 - x1).toNat + 1 ≤ (3072 - y3).toNat := by omega
    have k2 := Nat.mul_le_mul_left Mc k1
    have k3 := Nat.mul_le_mul_left Ms k1
    rw [Nat.mul_succ] at k2 k3
    exact W.widen (by rw [e7]; omega) (by rw [e8]; omega) w3
end
end
