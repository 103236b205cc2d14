noncomputable section
/-! what a branch tells, values, arrays in pieces -/
theorem R2.setL {A B : Type} {r : A → B → Prop} {a : A} {b : B} (hab : r a b) : ∀ {as : List A} {bs : List B}, R2 r as bs → ∀ {k : Nat}, bs[k]? = some b → R2 r (as.set k a) bs
  | [], [], _, k, hk => by simp at hk
  | x :: _, y :: _, ⟨h1, h2⟩, 0, hk => by
    simp only [List.getElem?_cons_zero, Option.some.injEq] at hk
    subst hk
    exact ⟨hab, h2⟩
  | x :: _, y :: _, ⟨h1, h2⟩, k + 1, hk => by
    simp only [List.getElem?_cons_succ] at hk
    exact ⟨h1, R2.setL hab h2 hk⟩
  | [], _ :: _, h, _, _ => h.elim
  | _ :: _, [], h, _, _ => h.elim
def rf1 (env0 : eEv) (a : Int) (q : Nat × Int) (e : eEv) : eEv := match lke env0 q.1 with
  | some i => (match q.2 with
    | Int.ofNat 1 => ehiR e q.1 (i.1 - a)
    | Int.negSucc 0 => eloR e q.1 (i.2 + a)
    | _ => e)
  | none => e
/-- a sum that is at most 0 -/
def refLe (env : eEv) (f : eLF) : Option eEv := match lrg env f.1 with
  | none => some env
  | some j => bif ile (j.1 + f.2) 0 then (bif ile (j.2 + f.2) 0 then some env else some (f.1.foldr (rf1 env (j.1 + f.2)) env)) else none
theorem lrg_mem {env : eEv} {ρ : List Int} (hE : eOk env ρ) : ∀ {t : List (Nat × Int)} {j : Int × Int} {X : Int}, lrg env t = some j → lev ρ t = some X → ∀ {q : Nat × Int}, q ∈ t → ∀ {i : Int × Int} {x : Int}, lke env q.1 = some i → ρ[q.1]? = some x →
    (q.2 = 1 → x + (j.1 - i.1) ≤ X) ∧ (q.2 = -1 → -x + (j.1 + i.2) ≤ X)
  | [], j, X, h, hX, q, hq, i, x, hi, hx => by cases hq
  | q0 :: t, j, X, h, hX, q, hq, i, x, hi, hx => by
    obtain ⟨a, b, e1, e2, rfl⟩ := lev_cons hX
    rw [lrg_cons] at h
    unfold lrg1 at h
    split at h
    · rename_i i0 j0 h1 h2
      obtain ⟨a', e3, h3⟩ := lke_ok hE h1
      rw [e1] at e3
      cases e3
      have h4 := lrg_ok hE h2 e2
      have key : (q0.2 * a ≥ j.1 - j0.1) := by
        split at h
        · rename_i n hn
          have hp : 0 ≤ q0.2 := by rw [hn]; exact Int.natCast_nonneg n
          simp only [sadd_eq, smul_eq] at h
          cases h
          have := Int.mul_le_mul_of_nonneg_left h3.1 hp
          show q0.2 * i0.1 + j0.1 - j0.1 ≤ q0.2 * a
          omega
        · rename_i n hn
          have hp : q0.2 ≤ 0 := by rw [hn]; exact Int.le_of_lt (Int.negSucc_lt_zero n)
          cases h
          have := Int.mul_le_mul_of_nonpos_left hp h3.2
          show q0.2 * i0.2 + j0.1 - j0.1 ≤ q0.2 * a
          omega
      rcases List.mem_cons.mp hq with rfl | hq
      · rw [h1] at hi
        cases hi
        rw [e1] at hx
        cases hx
        have h5 := h4.1
        refine ⟨fun hk => ?_, fun hk => ?_⟩
        · split at h
          · simp only [sadd_eq, smul_eq] at h
            cases h
            dsimp only
            rw [hk]
            omega
          · rename_i n hn
            rw [hn] at hk
            cases hk
        · split at h
          · rename_i n hn
            rw [hn] at hk
            cases hk
          · cases h
            dsimp only
            rw [hk]
            omega
      · obtain ⟨g1, g2⟩ := lrg_mem hE h2 e2 hq hi hx
        refine ⟨fun hk => ?_, fun hk => ?_⟩
        · have := g1 hk
          omega
        · have := g2 hk
          omega
    · cases h
theorem rf_fold {env : eEv} {ρ : List Int} (hE : eOk env ρ) {f : List (Nat × Int)} {j : Int × Int} {X c : Int} (hj : lrg env f = some j) (hX : lev ρ f = some X) (hc : X + c ≤ 0) : ∀ t : List (Nat × Int), (∀ q ∈ t, q ∈ f) → eOk (t.foldr (rf1 env (j.1 + c)) env) ρ
  | [], _ => hE
  | q :: t, hs => by
    have ih := rf_fold hE hj hX hc t (fun q hq => hs q (List.mem_cons_of_mem _ hq))
    show eOk (rf1 env (j.1 + c) q (t.foldr (rf1 env (j.1 + c)) env)) ρ
    generalize t.foldr (rf1 env (j.1 + c)) env = e at ih
    unfold rf1
    split
    · rename_i i h1
      obtain ⟨x, e1, h3⟩ := lke_ok hE h1
      obtain ⟨g1, g2⟩ := lrg_mem hE hj hX (hs q List.mem_cons_self) h1 e1
      split
      · rename_i hk
        have g := g1 hk
        exact eOk_hi ih e1 (by omega)
      · rename_i hk
        have g := g2 hk
        exact eOk_lo ih e1 (by omega)
      · exact ih
    · exact ih
theorem refLe_ok {env : eEv} {ρ : List Int} (hE : eOk env ρ) {f : eLF} {x : Int} (hx : lfv ρ f x) (h0 : x ≤ 0) : ∃ e, refLe env f = some e ∧ eOk e ρ := by
  unfold refLe
  split
  · exact ⟨env, rfl, hE⟩
  · rename_i j hj
    have h1 := lrg_ok hE hj hx
    have h2 := h1.1
    have e1 : ile (j.1 + f.2) 0 = true := by
      cases hb : ile (j.1 + f.2) 0
      · have := ile_f hb; omega
      · rfl
    rw [e1]
    dsimp only [cond_true]
    cases hb : ile (j.2 + f.2) 0
    · refine ⟨_, rfl, rf_fold (c := f.2) hE hj hx (by omega) f.1 (fun _ h => h)⟩
    · exact ⟨env, rfl, hE⟩
def cLe (env : eEv) (x y : eLF) : Option eEv := match irg env x, irg env y with
  | some _, some _ => refLe env (fsub x y)
  | _, _ => some env
def cLt (env : eEv) (x y : eLF) : Option eEv := match irg env x, irg env y with
  | some _, some _ => refLe env (fpl (fsub x y) 1)
  | _, _ => some env
def cEq (env : eEv) (x y : eLF) : Option eEv := match cLe env x y with
  | some e => cLe e y x
  | none => none
def cNe (env : eEv) (x y : eLF) : Option eEv := match irg env x, irg env y with
  | some _, some _ => (match lrg env (fsub x y).1 with
    | some j => bif i0 (j.1 + (fsub x y).2) then refLe env (fpl (fsub y x) 1) else bif i0 (j.2 + (fsub x y).2) then refLe env (fpl (fsub x y) 1) else some env
    | none => some env)
  | _, _ => some env
theorem i0_t {x : Int} (h : i0 x = true) : x = 0 := by
  unfold i0 at h
  split at h
  · rfl
  · cases h
theorem cLe_ok {env : eEv} {ρ : List Int} (hE : eOk env ρ) {x y : eLF} {a b : Int} (hx : lfv ρ x a) (hy : lfv ρ y b) (h : (Int32.ofInt a).toInt ≤ (Int32.ofInt b).toInt) : ∃ e, cLe env x y = some e ∧ eOk e ρ := by
  unfold cLe
  split
  · rename_i i j hi hj
    rw [(irg_ok hE hi hx).2, (irg_ok hE hj hy).2] at h
    exact refLe_ok hE (fsub_ok hx hy) (by omega)
  · exact ⟨env, rfl, hE⟩
theorem cLt_ok {env : eEv} {ρ : List Int} (hE : eOk env ρ) {x y : eLF} {a b : Int} (hx : lfv ρ x a) (hy : lfv ρ y b) (h : (Int32.ofInt a).toInt < (Int32.ofInt b).toInt) : ∃ e, cLt env x y = some e ∧ eOk e ρ := by
  unfold cLt
  split
  · rename_i i j hi hj
    rw [(irg_ok hE hi hx).2, (irg_ok hE hj hy).2] at h
    exact refLe_ok hE (fpl_ok 1 (fsub_ok hx hy)) (by omega)
  · exact ⟨env, rfl, hE⟩
theorem cEq_ok {env : eEv} {ρ : List Int} (hE : eOk env ρ) {x y : eLF} {a b : Int} (hx : lfv ρ x a) (hy : lfv ρ y b) (h : (Int32.ofInt a).toInt = (Int32.ofInt b).toInt) : ∃ e, cEq env x y = some e ∧ eOk e ρ := by
  unfold cEq
  obtain ⟨e, h1, h2⟩ := cLe_ok hE hx hy (Int.le_of_eq h)
  rw [h1]
  exact cLe_ok h2 hy hx (Int.le_of_eq h.symm)
theorem cNe_ok {env : eEv} {ρ : List Int} (hE : eOk env ρ) {x y : eLF} {a b : Int} (hx : lfv ρ x a) (hy : lfv ρ y b) (h : ¬ (Int32.ofInt a).toInt = (Int32.ofInt b).toInt) : ∃ e, cNe env x y = some e ∧ eOk e ρ := by
  unfold cNe
  split
  · rename_i i j hi hj
    rw [(irg_ok hE hi hx).2, (irg_ok hE hj hy).2] at h
    split
    · rename_i r hr
      have h1 := fsub_ok hx hy
      have h2 := lrg_ok hE hr h1
      have h3 := h2.1
      have h4 := h2.2
      cases hb : i0 (r.1 + (fsub x y).2)
      · cases hb2 : i0 (r.2 + (fsub x y).2)
        · exact ⟨env, rfl, hE⟩
        · have := i0_t hb2
          exact refLe_ok hE (fpl_ok 1 h1) (by omega)
      · have := i0_t hb
        exact refLe_ok hE (fpl_ok 1 (fsub_ok hy hx)) (by omega)
    · exact ⟨env, rfl, hE⟩
  · exact ⟨env, rfl, hE⟩
/-! longs -/
def jrg (env : eEv) (f : eLF) : Option (Int × Int) := match lrg env f.1 with
  | some j => bif ile mnL (j.1 + f.2) && ile (j.2 + f.2) mxL then some (j.1 + f.2, j.2 + f.2) else none
  | none => none
theorem jrg_ok {env : eEv} {ρ : List Int} (hE : eOk env ρ) {f : eLF} {i : Int × Int} {x : Int} (h : jrg env f = some i) (hx : lfv ρ f x) : ivr i x ∧ (Int64.ofInt x).toInt = x := by
  unfold jrg at h
  split at h
  · rename_i j hj
    have h1 := lrg_ok hE hj hx
    cases hb : ile mnL (j.1 + f.2) && ile (j.2 + f.2) mxL
    · rw [hb] at h; cases h
    · rw [hb] at h
      cases h
      rw [Bool.and_eq_true] at hb
      have h2 := ile_t hb.1
      have h3 := ile_t hb.2
      unfold ivr at h1 ⊢
      unfold mnL at h2
      unfold mxL at h3
      refine ⟨⟨by omega, by omega⟩, Int64.toInt_ofInt_of_le (by omega) (by omega)⟩
  · cases h
def kLt (env : eEv) (x y : eLF) : Option eEv := match jrg env x, jrg env y with
  | some _, some _ => refLe env (fpl (fsub x y) 1)
  | _, _ => some env
def kEq (env : eEv) (x y : eLF) : Option eEv := match jrg env x, jrg env y with
  | some _, some _ => (match refLe env (fsub x y) with
    | some e => refLe e (fsub y x)
    | none => none)
  | _, _ => some env
theorem kLt_ok {env : eEv} {ρ : List Int} (hE : eOk env ρ) {x y : eLF} {a b : Int} (hx : lfv ρ x a) (hy : lfv ρ y b) (h : (Int64.ofInt a).toInt < (Int64.ofInt b).toInt) : ∃ e, kLt env x y = some e ∧ eOk e ρ := by
  unfold kLt
  split
  · rename_i i j hi hj
    rw [(jrg_ok hE hi hx).2, (jrg_ok hE hj hy).2] at h
    exact refLe_ok hE (fpl_ok 1 (fsub_ok hx hy)) (by omega)
  · exact ⟨env, rfl, hE⟩
theorem kEq_ok {env : eEv} {ρ : List Int} (hE : eOk env ρ) {x y : eLF} {a b : Int} (hx : lfv ρ x a) (hy : lfv ρ y b) (h : (Int64.ofInt a).toInt = (Int64.ofInt b).toInt) : ∃ e, kEq env x y = some e ∧ eOk e ρ := by
  unfold kEq
  split
  · rename_i i j hi hj
    rw [(jrg_ok hE hi hx).2, (jrg_ok hE hj hy).2] at h
    obtain ⟨e, h1, h2⟩ := refLe_ok hE (fsub_ok hx hy) (by omega)
    rw [h1]
    exact refLe_ok h2 (fsub_ok hy hx) (by omega)
  · exact ⟨env, rfl, hE⟩
/-! values -/
abbrev eSV : Type := eLF ⊕ (eLF ⊕ Option Nat)
def vok (ρ : List Int) (α : List Nat) (v : eSV) (w : Value) : Prop := match v with
  | .inl f => ∃ x, lfv ρ f x ∧ w = .int (Int32.ofInt x)
  | .inr (.inl f) => ∃ x, lfv ρ f x ∧ w = .long (Int64.ofInt x)
  | .inr (.inr (some i)) => ∃ a, α[i]? = some a ∧ w = .ref a
  | .inr (.inr none) => w = .null
theorem getE_mono {A : Type} {l : List A} (m : List A) {i : Nat} {a : A} (h : l[i]? = some a) : (l ++ m)[i]? = some a := by
  rw [List.getElem?_append_left (List.getElem?_eq_some_iff.mp h).1]
  exact h
theorem vok_mono {ρ : List Int} {α : List Nat} (σ : List Int) (β : List Nat) {v : eSV} {w : Value} (h : vok ρ α v w) : vok (ρ ++ σ) (α ++ β) v w := by
  unfold vok at h ⊢
  split
  · obtain ⟨x, h1, h2⟩ := h; exact ⟨x, lfv_mono σ h1, h2⟩
  · obtain ⟨x, h1, h2⟩ := h; exact ⟨x, lfv_mono σ h1, h2⟩
  · obtain ⟨a, h1, h2⟩ := h; exact ⟨a, getE_mono β h1, h2⟩
  · exact h
def ecat (v : eSV) : Nat := match v with
  | .inr (.inl _) => 2
  | _ => 1
theorem vok_cat {ρ : List Int} {α : List Nat} {v : eSV} {w : Value} (h : vok ρ α v w) : w.category = ecat v := by
  unfold vok at h
  split at h
  · obtain ⟨x, h1, rfl⟩ := h; rfl
  · obtain ⟨x, h1, rfl⟩ := h; rfl
  · obtain ⟨a, h1, rfl⟩ := h; rfl
  · subst h; rfl
/-! arrays in pieces: how many, and what each of them is -/
abbrev eEl : Type := (Int × Int) ⊕ eSV
/-- a piece: the same for all, or numbers one behind another (0: ints, else longs) -/
abbrev ePc : Type := eEl ⊕ (Nat × Nat)
abbrev eSg : Type := List (Nat × ePc)
def pcA (c : ePc) (j : Nat) : eEl := match c with
  | .inl e => e
  | .inr q => .inr (bq (Nat.beq q.1 0) (.inl ([(Nat.add q.2 j, 1)], 0)) (.inr (.inl ([(Nat.add q.2 j, 1)], 0))))
def pcS (c : ePc) (d : Nat) : ePc := match c with
  | .inl e => .inl e
  | .inr q => .inr (q.1, Nat.add q.2 d)
theorem pcA_S (c : ePc) (d j : Nat) : pcA (pcS c d) j = pcA c (d + j) := by
  cases c with
  | inl e => rfl
  | inr q =>
    show (Sum.inr (bq (Nat.beq q.1 0) (.inl ([(q.2 + d + j, 1)], 0)) (.inr (.inl ([(q.2 + d + j, 1)], 0)))) : eEl) = Sum.inr (bq (Nat.beq q.1 0) (.inl ([(q.2 + (d + j), 1)], 0)) (.inr (.inl ([(q.2 + (d + j), 1)], 0))))
    rw [Nat.add_assoc]
def sga (l : eSg) : Nat → Option eEl := @List.rec (Nat × ePc) (fun _ => Nat → Option eEl) (fun _ => none) (fun q _ ih j => bq (Nat.blt j q.1) (some (pcA q.2 j)) (ih (j - q.1))) l
def sgc (n : Nat) (c : ePc) (t : eSg) : eSg := match n with
  | 0 => t
  | n + 1 => (n + 1, c) :: t
def sgs (l : eSg) : Nat → eEl → eSg := @List.rec (Nat × ePc) (fun _ => Nat → eEl → eSg) (fun _ _ => []) (fun q t ih j e => bq (Nat.blt j q.1) (sgc j q.2 ((1, .inl e) :: sgc (q.1 - j - 1) (pcS q.2 (j + 1)) t)) (q :: ih (j - q.1) e)) l
theorem sgs_cons (q : Nat × ePc) (t : eSg) (j : Nat) (e : eEl) : sgs (q :: t) j e = (bif Nat.blt j q.1 then sgc j q.2 ((1, .inl e) :: sgc (q.1 - j - 1) (pcS q.2 (j + 1)) t) else q :: sgs t (j - q.1) e) := by
  show @Bool.rec (fun _ => eSg) (q :: sgs t (j - q.1) e) (sgc j q.2 ((1, .inl e) :: sgc (q.1 - j - 1) (pcS q.2 (j + 1)) t)) (Nat.blt j q.1) = _
  cases Nat.blt j q.1 <;> rfl
theorem blt_t {a b : Nat} (h : Nat.blt a b = true) : a < b := Nat.le_of_ble_eq_true h
theorem blt_f {a b : Nat} (h : Nat.blt a b = false) : b ≤ a := by
  rcases Nat.lt_or_ge a b with q | q
  · have : Nat.blt a b = true := Nat.ble_eq_true_of_le q
    rw [this] at h; cases h
  · exact q
theorem sga_lt {n : Nat} {c : ePc} {t : eSg} {k : Nat} (h : k < n) : sga ((n, c) :: t) k = some (pcA c k) := by
  show @Bool.rec (fun _ => Option eEl) (sga t (k - n)) (some (pcA c k)) (Nat.blt k n) = some (pcA c k)
  rw [show Nat.blt k n = true from Nat.ble_eq_true_of_le h]
theorem sga_lt1 {n : Nat} {e : eEl} {t : eSg} {k : Nat} (h : k < n) : sga ((n, .inl e) :: t) k = some e := sga_lt h
theorem sga_ge {n : Nat} {c : ePc} {t : eSg} {k : Nat} (h : n ≤ k) : sga ((n, c) :: t) k = sga t (k - n) := by
  show @Bool.rec (fun _ => Option eEl) (sga t (k - n)) (some (pcA c k)) (Nat.blt k n) = _
  cases hb : Nat.blt k n
  · rfl
  · have := blt_t hb; omega
theorem sga_c_lt {n : Nat} {c : ePc} {t : eSg} {k : Nat} (h : k < n) : sga (sgc n c t) k = some (pcA c k) := by
  unfold sgc
  split
  · omega
  · exact sga_lt h
theorem sga_c_ge {n : Nat} {c : ePc} {t : eSg} {k : Nat} (h : n ≤ k) : sga (sgc n c t) k = sga t (k - n) := by
  unfold sgc
  split
  · rfl
  · exact sga_ge h
theorem sgs_at : ∀ (l : eSg) (j : Nat) (e : eEl) {e0 : eEl}, sga l j = some e0 → sga (sgs l j e) j = some e
  | [], j, e, e0, h => by cases h
  | q :: t, j, e, e0, h => by
    rw [sgs_cons]
    cases hb : Nat.blt j q.1
    · have h1 := blt_f hb
      dsimp only [cond_false]
      rw [sga_ge h1]
      have h2 : sga (q :: t) j = sga t (j - q.1) := sga_ge h1
      exact sgs_at t _ e (by rw [← h2]; exact h)
    · dsimp only [cond_true]
      rw [sga_c_ge (Nat.le_refl j), Nat.sub_self]
      exact sga_lt1 (by decide)
theorem sgs_ne : ∀ (l : eSg) (j : Nat) (e : eEl) {k : Nat}, k ≠ j → sga (sgs l j e) k = sga l k
  | [], j, e, k, _ => rfl
  | q :: t, j, e, k, h => by
    rw [sgs_cons]
    cases hb : Nat.blt j q.1
    · have h1 := blt_f hb
      dsimp only [cond_false]
      rcases Nat.lt_or_ge k q.1 with g | g
      · exact (sga_lt (c := q.2) g).trans (sga_lt (c := q.2) g).symm
      · refine (sga_ge (c := q.2) g).trans (Eq.trans ?_ (sga_ge (c := q.2) g).symm)
        exact sgs_ne t _ e (by omega)
    · have h1 := blt_t hb
      dsimp only [cond_true]
      rcases Nat.lt_or_ge k j with g | g
      · rw [sga_c_lt g]
        exact (sga_lt (c := q.2) (by omega)).symm
      · rw [sga_c_ge g, sga_ge (n := 1) (by omega)]
        rcases Nat.lt_or_ge k q.1 with g2 | g2
        · rw [sga_c_lt (by omega), pcA_S, show j + 1 + (k - j - 1) = k by omega]
          exact (sga_lt (c := q.2) g2).symm
        · rw [sga_c_ge (by omega)]
          refine Eq.trans ?_ (sga_ge (c := q.2) g2).symm
          congr 1
          omega
/-- the numbers of a run, one by one -/
def pvs (k v : Nat) : Nat → eSg → eSg
  | 0, t => t
  | n + 1, t => (1, .inl (pcA (.inr (k, v)) 0)) :: pvs k (Nat.add v 1) n t
theorem pvs_lt : ∀ (n k v : Nat) (t : eSg) {j : Nat}, j < n → sga (pvs k v n t) j = some (pcA (.inr (k, v)) j)
  | 0, k, v, t, j, h => by omega
  | n + 1, k, v, t, 0, h => sga_lt1 (by decide)
  | n + 1, k, v, t, j + 1, h => by
    show sga ((1, .inl (pcA (.inr (k, v)) 0)) :: pvs k (v + 1) n t) (j + 1) = _
    rw [sga_ge (by omega), Nat.add_sub_cancel, pvs_lt n k (v + 1) t (by omega)]
    have e := pcA_S (.inr (k, v)) 1 j
    rw [Nat.add_comm 1 j] at e
    exact congrArg some e
theorem pvs_ge : ∀ (n k v : Nat) (t : eSg) {j : Nat}, n ≤ j → sga (pvs k v n t) j = sga t (j - n)
  | 0, k, v, t, j, h => rfl
  | n + 1, k, v, t, 0, h => by omega
  | n + 1, k, v, t, j + 1, h => by
    show sga ((1, .inl (pcA (.inr (k, v)) 0)) :: pvs k (v + 1) n t) (j + 1) = _
    rw [sga_ge (by omega), Nat.add_sub_cancel, pvs_ge n k (v + 1) t (by omega)]
    congr 1
    omega
/-- runs that lie at a .. b are taken apart there -/
def sgXh (a b o n : Nat) : Nat := bq (Nat.ble (Nat.sub (Nat.add b 1) o) n) (bq (Nat.ble (Nat.sub a o) (Nat.sub (Nat.add b 1) o)) (Nat.sub (Nat.add b 1) o) (Nat.sub a o)) n
def sgX1 (lo hi n : Nat) (r : Nat × Nat) (t : eSg) : eSg := sgc lo (.inr r) (pvs r.1 (Nat.add r.2 lo) (Nat.sub hi lo) (sgc (Nat.sub n hi) (pcS (.inr r) hi) t))
def sgX (a b : Nat) : Nat → eSg → eSg
  | _, [] => []
  | o, q :: t => bq (Nat.ble (Nat.add o q.1) a || Nat.blt b o) (q :: sgX a b (Nat.add o q.1) t) (match q.2 with
    | .inl _ => q :: sgX a b (Nat.add o q.1) t
    | .inr r => sgX1 (Nat.sub a o) (sgXh a b o q.1) q.1 r (sgX a b (Nat.add o q.1) t))
theorem sgX1_at {lo hi n : Nat} {r : Nat × Nat} {t t' : eSg} (h1 : lo ≤ hi) (h2 : hi ≤ n) (ht : ∀ j, sga t' j = sga t j) (j : Nat) : sga (sgX1 lo hi n r t') j = sga ((n, .inr r) :: t) j := by
  unfold sgX1
  rcases Nat.lt_or_ge j n with g | g
  · refine Eq.trans ?_ (sga_lt (c := .inr r) g).symm
    rcases Nat.lt_or_ge j lo with g1 | g1
    · exact sga_c_lt g1
    · rw [sga_c_ge g1]
      rcases Nat.lt_or_ge j hi with g2 | g2
      · rw [show Nat.sub hi lo = hi - lo from rfl, pvs_lt _ _ _ _ (by omega)]
        have e := pcA_S (.inr r) lo (j - lo)
        rw [show lo + (j - lo) = j by omega] at e
        exact congrArg some e
      · rw [show Nat.sub hi lo = hi - lo from rfl, pvs_ge _ _ _ _ (by omega), show Nat.sub n hi = n - hi from rfl, sga_c_lt (by omega), pcA_S, show hi + (j - lo - (hi - lo)) = j by omega]
  · refine Eq.trans ?_ (sga_ge (c := .inr r) g).symm
    rw [sga_c_ge (by omega), show Nat.sub hi lo = hi - lo from rfl, pvs_ge _ _ _ _ (by omega), show Nat.sub n hi = n - hi from rfl, sga_c_ge (by omega), ht]
    congr 1
    omega
theorem sga_tl {q : Nat × ePc} {t t' : eSg} (ht : ∀ j, sga t' j = sga t j) (j : Nat) : sga (q :: t') j = sga (q :: t) j := by
  rcases Nat.lt_or_ge j q.1 with g | g
  · exact (sga_lt (c := q.2) g).trans (sga_lt (c := q.2) g).symm
  · exact (sga_ge (c := q.2) g).trans ((ht _).trans (sga_ge (c := q.2) g).symm)
theorem sgX_at {a b : Nat} : ∀ (l : eSg) (o j : Nat), sga (sgX a b o l) j = sga l j
  | [], o, j => rfl
  | (n, c) :: t, o, j => by
    have ih := sgX_at (a := a) (b := b) t (Nat.add o n)
    unfold sgX
    cases hb : Nat.ble (Nat.add o n) a || Nat.blt b o
    · cases c with
      | inl e => exact sga_tl ih j
      | inr r =>
        rw [Bool.or_eq_false_iff] at hb
        have q1 : a < o + n := nble_f hb.1
        have q2 : o ≤ b := blt_f hb.2
        have hh : Nat.sub a o ≤ sgXh a b o n ∧ sgXh a b o n ≤ n := by
          unfold sgXh
          show a - o ≤ _ ∧ _
          cases h1 : Nat.ble (Nat.sub (Nat.add b 1) o) n
          · exact ⟨by show a - o ≤ n; omega, Nat.le_refl n⟩
          · have z1 : b + 1 - o ≤ n := Nat.le_of_ble_eq_true h1
            cases h2 : Nat.ble (Nat.sub a o) (Nat.sub (Nat.add b 1) o)
            · exact ⟨Nat.le_refl _, by show a - o ≤ n; omega⟩
            · have z2 : a - o ≤ b + 1 - o := Nat.le_of_ble_eq_true h2
              exact ⟨z2, z1⟩
        exact sgX1_at hh.1 hh.2 ih j
    · exact sga_tl ih j

/-- the interval of one -/
def elh (env : eEv) (e : eEl) : Option (Int × Int) := match e with
  | .inl i => some i
  | .inr (.inl f) => irg env f
  | _ => none
def ihull (i j : Int × Int) : Int × Int := (imin i.1 j.1, imax i.2 j.2)
theorem ihull_l {i j : Int × Int} {x : Int} (h : ivr i x) : ivr (ihull i j) x := ⟨Int.le_trans (imin_le1 i.1 j.1) h.1, Int.le_trans h.2 (imax_ge1 i.2 j.2)⟩
theorem ihull_r {i j : Int × Int} {x : Int} (h : ivr j x) : ivr (ihull i j) x := ⟨Int.le_trans (imin_le2 i.1 j.1) h.1, Int.le_trans h.2 (imax_ge2 i.2 j.2)⟩
def elhP (env : eEv) (c : ePc) : Option (Int × Int) := match c with
  | .inl e => elh env e
  | .inr _ => none
/-- a store at some place from a to b: all the pieces that it may meet are widened -/
def sgj (env : eEv) (a b : Nat) (i : Int × Int) : Nat → eSg → Option eSg
  | _, [] => some []
  | o, q :: t => match sgj env a b i (o + q.1) t with
    | some t' => bif Nat.ble (o + q.1) a || Nat.blt b o then some (q :: t') else (match elhP env q.2 with
      | some j => some ((q.1, .inl (.inl (ihull i j))) :: t')
      | none => none)
    | none => none
/-- a load at some place from a to b -/
def sgh (env : eEv) (a b : Nat) : Nat → eSg → Option (Int × Int) → Option (Int × Int)
  | _, [], r => r
  | o, q :: t, r => bif Nat.ble (o + q.1) a || Nat.blt b o then sgh env a b (o + q.1) t r else (match elhP env q.2 with
      | some j => sgh env a b (o + q.1) t (some (match r with
        | some i => ihull i j
        | none => j))
      | none => none)
def eli (ρ : List Int) (e : eEl) (x : Int32) : Prop := match e with
  | .inl i => ivr i x.toInt
  | .inr (.inl f) => ∃ y, lfv ρ f y ∧ x = Int32.ofInt y
  | _ => False
def ell (ρ : List Int) (e : eEl) (x : Int64) : Prop := match e with
  | .inl i => ivr i x.toInt
  | .inr (.inr (.inl f)) => ∃ y, lfv ρ f y ∧ x = Int64.ofInt y
  | _ => False
def elr (ρ : List Int) (α : List Nat) (e : eEl) (r : Option Nat) : Prop := match e with
  | .inr v => vok ρ α v (va_rf r)
  | _ => False
theorem eli_mono {ρ : List Int} (σ : List Int) {e : eEl} {x : Int32} (h : eli ρ e x) : eli (ρ ++ σ) e x := by
  unfold eli at h ⊢
  split at h
  · exact h
  · obtain ⟨y, h1, h2⟩ := h; exact ⟨y, lfv_mono σ h1, h2⟩
  · exact h.elim
theorem ell_mono {ρ : List Int} (σ : List Int) {e : eEl} {x : Int64} (h : ell ρ e x) : ell (ρ ++ σ) e x := by
  unfold ell at h ⊢
  split at h
  · exact h
  · obtain ⟨y, h1, h2⟩ := h; exact ⟨y, lfv_mono σ h1, h2⟩
  · exact h.elim
theorem elr_mono {ρ : List Int} {α : List Nat} (σ : List Int) (β : List Nat) {e : eEl} {r : Option Nat} (h : elr ρ α e r) : elr (ρ ++ σ) (α ++ β) e r := by
  unfold elr at h ⊢
  split at h
  · exact vok_mono σ β h
  · exact h.elim
theorem elh_ok {env : eEv} {ρ : List Int} (hE : eOk env ρ) {e : eEl} {i : Int × Int} {x : Int32} (h : elh env e = some i) (hx : eli ρ e x) : ivr i x.toInt := by
  unfold elh at h
  unfold eli at hx
  split at h
  · cases h; exact hx
  · obtain ⟨y, h1, rfl⟩ := hx; exact irg_ivr hE h h1
  · cases h
theorem elhP_ok {env : eEv} {ρ : List Int} (hE : eOk env ρ) {c : ePc} {i : Int × Int} {k : Nat} {x : Int32} (h : elhP env c = some i) (hx : eli ρ (pcA c k) x) : ivr i x.toInt := by
  cases c with
  | inl e => exact elh_ok hE h hx
  | inr q => cases h
theorem sgj_ok {env : eEv} {ρ : List Int} (hE : eOk env ρ) {a b : Nat} {i : Int × Int} : ∀ (l : eSg) (o : Nat) {l' : eSg}, sgj env a b i o l = some l' → ∀ (k : Nat) {e : eEl} {x : Int32}, sga l k = some e → eli ρ e x →
    ∃ e', sga l' k = some e' ∧ eli ρ e' x ∧ (a ≤ o + k → o + k ≤ b → ∀ y : Int32, ivr i y.toInt → eli ρ e' y)
  | [], o, l', h, k, e, x, hk, hx => by cases hk
  | q :: t, o, l', h, k, e, x, hk, hx => by
    unfold sgj at h
    split at h
    · rename_i t' ht
      cases hb : Nat.ble (o + q.1) a || Nat.blt b o
      · rw [hb] at h
        dsimp only [cond_false] at h
        split at h
        · rename_i j hj
          cases h
          rcases Nat.lt_or_ge k q.1 with g | g
          · have e1 : e = pcA q.2 k := by
              have : sga (q :: t) k = some (pcA q.2 k) := sga_lt g
              rw [this] at hk
              exact (Option.some.inj hk).symm
            subst e1
            exact ⟨.inl (ihull i j), sga_lt1 g, ihull_r (elhP_ok hE hj hx), fun _ _ y hy => ihull_l hy⟩
          · have e1 : sga (q :: t) k = sga t (k - q.1) := sga_ge g
            rw [e1] at hk
            obtain ⟨e', r1, r2, r3⟩ := sgj_ok hE t (o + q.1) ht (k - q.1) hk hx
            exact ⟨e', (sga_ge g).trans r1, r2, fun h1 h2 => r3 (by omega) (by omega)⟩
        · cases h
      · rw [hb] at h
        cases h
        rcases Nat.lt_or_ge k q.1 with g | g
        · have e1 : e = pcA q.2 k := by
            have : sga (q :: t) k = some (pcA q.2 k) := sga_lt g
            rw [this] at hk
            exact (Option.some.inj hk).symm
          subst e1
          refine ⟨_, sga_lt (c := q.2) g, hx, fun h1 h2 => ?_⟩
          rw [Bool.or_eq_true] at hb
          rcases hb with hb | hb
          · have := Nat.le_of_ble_eq_true hb; omega
          · have := blt_t hb; omega
        · have e1 : sga (q :: t) k = sga t (k - q.1) := sga_ge g
          rw [e1] at hk
          obtain ⟨e', r1, r2, r3⟩ := sgj_ok hE t (o + q.1) ht (k - q.1) hk hx
          exact ⟨e', (sga_ge (c := q.2) g).trans r1, r2, fun h1 h2 => r3 (by omega) (by omega)⟩
    · cases h
theorem sgh_acc {env : eEv} {a b : Nat} : ∀ (l : eSg) (o : Nat) {r : Option (Int × Int)} {i : Int × Int}, sgh env a b o l r = some i → ∀ j, r = some j → ∀ x, ivr j x → ivr i x
  | [], o, r, i, h, j, hr, x, hx => by
    unfold sgh at h
    rw [hr] at h
    cases h
    exact hx
  | q :: t, o, r, i, h, j, hr, x, hx => by
    unfold sgh at h
    cases hb : Nat.ble (o + q.1) a || Nat.blt b o
    · rw [hb] at h
      dsimp only [cond_false] at h
      split at h
      · rename_i j' hj
        subst hr
        exact sgh_acc t _ h _ rfl x (ihull_l hx)
      · cases h
    · rw [hb] at h
      exact sgh_acc t _ h j hr x hx
theorem sgh_ok {env : eEv} {ρ : List Int} (hE : eOk env ρ) {a b : Nat} : ∀ (l : eSg) (o : Nat) {r : Option (Int × Int)} {i : Int × Int}, sgh env a b o l r = some i → ∀ (k : Nat) {e : eEl} {x : Int32}, sga l k = some e → eli ρ e x → a ≤ o + k → o + k ≤ b → ivr i x.toInt
  | [], o, r, i, h, k, e, x, hk, hx, h1, h2 => by cases hk
  | q :: t, o, r, i, h, k, e, x, hk, hx, h1, h2 => by
    unfold sgh at h
    cases hb : Nat.ble (o + q.1) a || Nat.blt b o
    · rw [hb] at h
      dsimp only [cond_false] at h
      split at h
      · rename_i j hj
        rcases Nat.lt_or_ge k q.1 with g | g
        · have e1 : e = pcA q.2 k := by
            have : sga (q :: t) k = some (pcA q.2 k) := sga_lt g
            rw [this] at hk
            exact (Option.some.inj hk).symm
          subst e1
          have h3 := elhP_ok hE hj hx
          refine sgh_acc t _ h _ rfl _ ?_
          split
          · exact ihull_r h3
          · exact h3
        · have e1 : sga (q :: t) k = sga t (k - q.1) := sga_ge g
          rw [e1] at hk
          exact sgh_ok hE t _ h (k - q.1) hk hx (by omega) (by omega)
      · cases h
    · rw [hb] at h
      rw [Bool.or_eq_true] at hb
      rcases Nat.lt_or_ge k q.1 with g | g
      · rcases hb with hb | hb
        · have := Nat.le_of_ble_eq_true hb; omega
        · have := blt_t hb; omega
      · have e1 : sga (q :: t) k = sga t (k - q.1) := sga_ge g
        rw [e1] at hk
        exact sgh_ok hE t _ h (k - q.1) hk hx (by omega) (by omega)
end
