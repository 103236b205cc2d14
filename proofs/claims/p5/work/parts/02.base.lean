noncomputable section
/-! the words that every method has, and the lists of things that stand side by side -/
def gtbl : List Cond := lw_tbl.filter goodWord
theorem in_g {w : Cond} (h : w ∈ lw_tbl) (hg : goodWord w = true) : w ∈ gtbl := List.mem_filter.mpr ⟨h, hg⟩
def R2 {A B : Type} (r : A → B → Prop) : List A → List B → Prop
  | [], [] => True
  | a :: as, b :: bs => r a b ∧ R2 r as bs
  | _, _ => False
theorem R2.imp {A B : Type} {r r' : A → B → Prop} (h : ∀ a b, r a b → r' a b) : ∀ {as : List A} {bs : List B}, R2 r as bs → R2 r' as bs
  | [], [], _ => trivial
  | _ :: _, _ :: _, ⟨h1, h2⟩ => ⟨h _ _ h1, R2.imp h h2⟩
  | [], _ :: _, h => h.elim
  | _ :: _, [], h => h.elim
theorem R2.len {A B : Type} {r : A → B → Prop} : ∀ {as : List A} {bs : List B}, R2 r as bs → as.length = bs.length
  | [], [], _ => rfl
  | _ :: _, _ :: _, ⟨_, h2⟩ => by simp [R2.len h2]
  | [], _ :: _, h => h.elim
  | _ :: _, [], h => h.elim
theorem R2.get {A B : Type} {r : A → B → Prop} : ∀ {as : List A} {bs : List B}, R2 r as bs → ∀ {k : Nat} {a : A}, as[k]? = some a → ∃ b, bs[k]? = some b ∧ r a b
  | [], [], _, k, a, hk => by simp at hk
  | x :: _, y :: _, ⟨h1, h2⟩, 0, a, hk => by
    simp only [List.getElem?_cons_zero, Option.some.injEq] at hk
    subst hk
    exact ⟨y, rfl, h1⟩
  | x :: _, y :: _, ⟨h1, h2⟩, k + 1, a, hk => by
    simp only [List.getElem?_cons_succ] at hk ⊢
    exact R2.get h2 hk
  | [], _ :: _, h, _, _, _ => h.elim
  | _ :: _, [], h, _, _, _ => h.elim
theorem R2.getR {A B : Type} {r : A → B → Prop} : ∀ {as : List A} {bs : List B}, R2 r as bs → ∀ {k : Nat} {b : B}, bs[k]? = some b → ∃ a, as[k]? = some a ∧ r a b
  | [], [], _, k, a, hk => by simp at hk
  | x :: _, y :: _, ⟨h1, h2⟩, 0, a, hk => by
    simp only [List.getElem?_cons_zero, Option.some.injEq] at hk
    subst hk
    exact ⟨x, rfl, h1⟩
  | x :: _, y :: _, ⟨h1, h2⟩, k + 1, a, hk => by
    simp only [List.getElem?_cons_succ] at hk ⊢
    exact R2.getR h2 hk
  | [], _ :: _, h, _, _, _ => h.elim
  | _ :: _, [], h, _, _, _ => h.elim
theorem R2.set {A B : Type} {r : A → B → Prop} {a : A} {b : B} (hab : r a b) : ∀ {as : List A} {bs : List B}, R2 r as bs → ∀ (k : Nat), R2 r (as.set k a) (bs.set k b)
  | [], [], _, k => by simp [R2]
  | x :: _, y :: _, ⟨h1, h2⟩, 0 => ⟨hab, h2⟩
  | x :: _, y :: _, ⟨h1, h2⟩, k + 1 => ⟨h1, R2.set hab h2 k⟩
  | [], _ :: _, h, _ => h.elim
  | _ :: _, [], h, _ => h.elim
theorem R2.app {A B : Type} {r : A → B → Prop} : ∀ {as : List A} {bs : List B}, R2 r as bs → ∀ {as' : List A} {bs' : List B}, R2 r as' bs' → R2 r (as ++ as') (bs ++ bs')
  | [], [], _, _, _, h' => h'
  | _ :: _, _ :: _, ⟨h1, h2⟩, _, _, h' => ⟨h1, R2.app h2 h'⟩
  | [], _ :: _, h, _, _, _ => h.elim
  | _ :: _, [], h, _, _, _ => h.elim
theorem R2.one {A B : Type} {r : A → B → Prop} {a : A} {b : B} (h : r a b) : R2 r [a] [b] := ⟨h, trivial⟩
theorem R2.filter {A B : Type} {r : A → B → Prop} {p : A → Bool} {q : B → Bool} (hpq : ∀ a b, r a b → p a = q b) : ∀ {as : List A} {bs : List B}, R2 r as bs → R2 r (as.filter p) (bs.filter q)
  | [], [], _ => trivial
  | a :: as, b :: bs, ⟨h1, h2⟩ => by
    have h3 := R2.filter hpq h2
    have h4 := hpq a b h1
    cases hp : p a with
    | true =>
      rw [List.filter_cons_of_pos hp, List.filter_cons_of_pos (h4 ▸ hp)]
      exact ⟨h1, h3⟩
    | false =>
      have hq : ¬ q b = true := by rw [← h4, hp]; simp
      rw [List.filter_cons_of_neg (by rw [hp]; simp), List.filter_cons_of_neg hq]
      exact h3
  | [], _ :: _, h => h.elim
  | _ :: _, [], h => h.elim
theorem R2.nil_inv {A B : Type} {r : A → B → Prop} {bs : List B} (h : R2 r [] bs) : bs = [] := by
  cases bs with
  | nil => rfl
  | cons _ _ => exact h.elim
theorem R2.cons_inv {A B : Type} {r : A → B → Prop} {a : A} {as : List A} {bs : List B} (h : R2 r (a :: as) bs) : ∃ b bs', bs = b :: bs' ∧ r a b ∧ R2 r as bs' := by
  cases bs with
  | nil => exact h.elim
  | cons b bs' => exact ⟨b, bs', rfl, h.1, h.2⟩
/-! linear forms: numbers that are sums of named ones; intervals -/
abbrev eLF : Type := List (Nat × Int) × Int
/-- intervals packed: how many; for each a digit for its lower bound (more is tighter), one for its upper bound (more is tighter) -/
abbrev eEv : Type := Nat × Nat
def lev (ρ : List Int) : List (Nat × Int) → Option Int
  | [] => some 0
  | q :: t => match ρ[q.1]?, lev ρ t with
    | some x, some y => some (q.2 * x + y)
    | _, _ => none
def lfv (ρ : List Int) (f : eLF) (x : Int) : Prop := lev ρ f.1 = some (x - f.2)
theorem lev_cons {ρ : List Int} {q : Nat × Int} {t : List (Nat × Int)} {z : Int} (h : lev ρ (q :: t) = some z) : ∃ x y, ρ[q.1]? = some x ∧ lev ρ t = some y ∧ z = q.2 * x + y := by
  unfold lev at h
  split at h
  · rename_i x y h1 h2
    exact ⟨x, y, h1, h2, (Option.some.inj h).symm⟩
  · cases h
theorem lev_mk {ρ : List Int} {q : Nat × Int} {t : List (Nat × Int)} {x y : Int} (h1 : ρ[q.1]? = some x) (h2 : lev ρ t = some y) : lev ρ (q :: t) = some (q.2 * x + y) := by
  unfold lev
  rw [h1, h2]
theorem lev_mono {ρ : List Int} (σ : List Int) : ∀ {t : List (Nat × Int)} {z : Int}, lev ρ t = some z → lev (ρ ++ σ) t = some z
  | [], z, h => h
  | q :: t, z, h => by
    obtain ⟨x, y, h1, h2, rfl⟩ := lev_cons h
    exact lev_mk (by rw [List.getElem?_append_left (List.getElem?_eq_some_iff.mp h1).1]; exact h1) (lev_mono σ h2)
theorem lfv_mono {ρ : List Int} (σ : List Int) {f : eLF} {x : Int} (h : lfv ρ f x) : lfv (ρ ++ σ) f x := lev_mono σ h
theorem lfv_fun {ρ : List Int} {f : eLF} {x y : Int} (h : lfv ρ f x) (h' : lfv ρ f y) : x = y := by
  unfold lfv at h h'
  rw [h] at h'
  have := Option.some.inj h'
  omega
/-- one term into a sorted list -/
def lins (v : Nat) (k : Int) : List (Nat × Int) → List (Nat × Int)
  | [] => [(v, k)]
  | q :: t => bif Nat.blt v q.1 then (v, k) :: q :: t else bif Nat.beq v q.1 then (match k + q.2 with
      | Int.ofNat 0 => t
      | z => (v, z) :: t) else q :: lins v k t
theorem lins_ok {ρ : List Int} {v : Nat} {k x : Int} (hx : ρ[v]? = some x) : ∀ {t : List (Nat × Int)} {y : Int}, lev ρ t = some y → lev ρ (lins v k t) = some (k * x + y)
  | [], y, h => lev_mk (q := (v, k)) hx h
  | q :: t, y, h => by
    unfold lins
    cases h1 : Nat.blt v q.1 with
    | true => exact lev_mk (q := (v, k)) hx h
    | false =>
      cases h2 : Nat.beq v q.1 with
      | true =>
        have hv : v = q.1 := Nat.eq_of_beq_eq_true h2
        obtain ⟨x', y', e1, e2, rfl⟩ := lev_cons h
        rw [← hv, hx] at e1
        cases e1
        dsimp only [cond_true, cond_false]
        split
        · rename_i hz
          have hz' : k + q.2 = 0 := hz
          rw [e2]
          have : k = - q.2 := by omega
          rw [this]
          congr 1
          rw [Int.neg_mul]
          omega
        · rw [lev_mk (q := (v, k + q.2)) hx e2]
          congr 1
          show (k + q.2) * x + y' = k * x + (q.2 * x + y')
          rw [Int.add_mul]
          omega
      | false =>
        obtain ⟨x', y', e1, e2, rfl⟩ := lev_cons h
        dsimp only [cond_true, cond_false]
        rw [lev_mk e1 (lins_ok hx e2)]
        congr 1
        omega
def ladd : List (Nat × Int) → List (Nat × Int) → List (Nat × Int)
  | [], b => b
  | q :: t, b => lins q.1 q.2 (ladd t b)
theorem ladd_ok {ρ : List Int} {b : List (Nat × Int)} {y : Int} (hb : lev ρ b = some y) : ∀ {a : List (Nat × Int)} {x : Int}, lev ρ a = some x → lev ρ (ladd a b) = some (x + y)
  | [], x, h => by
    cases h
    rw [Int.zero_add]
    exact hb
  | q :: t, x, h => by
    obtain ⟨x', y', e1, e2, rfl⟩ := lev_cons h
    show lev ρ (lins q.1 q.2 (ladd t b)) = _
    rw [lins_ok e1 (ladd_ok hb e2)]
    congr 1
    omega
def lsc (k : Int) : List (Nat × Int) → List (Nat × Int)
  | [] => []
  | q :: t => (q.1, k * q.2) :: lsc k t
theorem lsc_ok {ρ : List Int} {k : Int} : ∀ {a : List (Nat × Int)} {x : Int}, lev ρ a = some x → lev ρ (lsc k a) = some (k * x)
  | [], x, h => by cases h; show some 0 = some (k * 0); rw [Int.mul_zero]
  | q :: t, x, h => by
    obtain ⟨x', y', e1, e2, rfl⟩ := lev_cons h
    show lev ρ ((q.1, k * q.2) :: lsc k t) = _
    rw [lev_mk (q := (q.1, k * q.2)) e1 (lsc_ok e2)]
    congr 1
    show k * q.2 * x' + k * y' = k * (q.2 * x' + y')
    rw [Int.mul_add, Int.mul_assoc]
def fadd (f g : eLF) : eLF := (ladd f.1 g.1, f.2 + g.2)
def fsc (k : Int) (f : eLF) : eLF := match k with
  | Int.ofNat 0 => ([], 0)
  | k => (lsc k f.1, k * f.2)
def fsub (f g : eLF) : eLF := fadd f (fsc (-1) g)
def fpl (f : eLF) (k : Int) : eLF := (f.1, f.2 + k)
def fc (k : Int) : eLF := ([], k)
theorem fc_ok {ρ : List Int} (k : Int) : lfv ρ (fc k) k := by
  show some (0 : Int) = some (k - k)
  rw [Int.sub_self]
theorem fc_inv {ρ : List Int} {k x : Int} (h : lfv ρ ([], k) x) : x = k := by
  have : some (0 : Int) = some (x - k) := h
  have := Option.some.inj this
  omega
theorem fadd_ok {ρ : List Int} {f g : eLF} {x y : Int} (h : lfv ρ f x) (h' : lfv ρ g y) : lfv ρ (fadd f g) (x + y) := by
  unfold lfv at *
  show lev ρ (ladd f.1 g.1) = some (x + y - (f.2 + g.2))
  rw [ladd_ok h' h]
  congr 1
  omega
theorem fsc_ok {ρ : List Int} {k : Int} {f : eLF} {x : Int} (h : lfv ρ f x) : lfv ρ (fsc k f) (k * x) := by
  unfold fsc
  split
  · show some (0 : Int) = some ((0 : Int) * x - 0)
    rw [Int.zero_mul]
    rfl
  · unfold lfv at *
    show lev ρ (lsc k f.1) = some (k * x - k * f.2)
    rw [lsc_ok h, Int.mul_sub]
theorem fsub_ok {ρ : List Int} {f g : eLF} {x y : Int} (h : lfv ρ f x) (h' : lfv ρ g y) : lfv ρ (fsub f g) (x - y) := by
  have h1 := fadd_ok h (fsc_ok (k := -1) h')
  have e : x + -1 * y = x - y := by omega
  rw [e] at h1
  exact h1
theorem fpl_ok {ρ : List Int} {f : eLF} {x : Int} (k : Int) (h : lfv ρ f x) : lfv ρ (fpl f k) (x + k) := by
  unfold lfv at *
  show lev ρ f.1 = some (x + k - (f.2 + k))
  rw [h]
  congr 1
  omega
def ivr (i : Int × Int) (x : Int) : Prop := i.1 ≤ x ∧ x ≤ i.2
/-- a digit 0 says nothing -/
def dOk (N k : Nat) (x : Int) : Prop := ((dg N (2 * k) : Int) ≤ x + 18446744073709551616 ∨ dg N (2 * k) = 0) ∧ ((dg N (2 * k + 1) : Int) ≤ 18446744073709551616 - x ∨ dg N (2 * k + 1) = 0)
def eOk (E : eEv) (ρ : List Int) : Prop := ρ.length = E.1 ∧ ∀ (k : Nat) (x : Int), ρ[k]? = some x → dOk E.2 k x
/-- the k-th of a list, in few steps -/
def lkS {A : Type} (h : A) (ih : Nat → Option A) (n : Nat) : Option A := @Nat.rec (fun _ => Option A) (some h) (fun k _ => ih k) n
def lk {A : Type} (l : List A) : Nat → Option A := @List.rec A (fun _ => Nat → Option A) (fun _ => none) (fun h _ ih n => lkS h ih n) l
theorem lk_eq {A : Type} : ∀ (l : List A) (n : Nat), lk l n = l[n]?
  | [], n => by
    rw [List.getElem?_nil]
    rfl
  | h :: t, 0 => rfl
  | h :: t, n + 1 => by
    rw [List.getElem?_cons_succ]
    exact lk_eq t n
/-- the k-th interval -/
def zlo (d : Nat) : Int := @Bool.rec (fun _ => Int) (Int.negSucc (Nat.sub 18446744073709551615 d)) (Int.ofNat (Nat.sub d 18446744073709551616)) (Nat.ble 18446744073709551616 d)
def zhi (d : Nat) : Int := @Bool.rec (fun _ => Int) (Int.negSucc (Nat.sub d 18446744073709551617)) (Int.ofNat (Nat.sub 18446744073709551616 d)) (Nat.ble d 18446744073709551616)
theorem nble_f {a b : Nat} (h : Nat.ble a b = false) : b < a := by
  rcases Nat.lt_or_ge b a with q | q
  · exact q
  · have : Nat.ble a b = true := Nat.ble_eq_true_of_le q
    rw [this] at h; cases h
theorem zlo_eq (d : Nat) : zlo d = (d : Int) - 18446744073709551616 := by
  unfold zlo
  cases h : Nat.ble 18446744073709551616 d
  · have := nble_f h
    show Int.negSucc (18446744073709551615 - d) = _
    rw [Int.negSucc_eq]
    omega
  · have := Nat.le_of_ble_eq_true h
    show ((d - 18446744073709551616 : Nat) : Int) = _
    omega
theorem zhi_eq (d : Nat) : zhi d = 18446744073709551616 - (d : Int) := by
  unfold zhi
  cases h : Nat.ble d 18446744073709551616
  · have := nble_f h
    show Int.negSucc (d - 18446744073709551617) = _
    rw [Int.negSucc_eq]
    omega
  · have := Nat.le_of_ble_eq_true h
    show ((18446744073709551616 - d : Nat) : Int) = _
    omega
def lke1 (a b : Nat) : Option (Int × Int) := bq (Nat.ble 1 a) (bq (Nat.ble 1 b) (some (zlo a, zhi b)) none) none
def lke (E : eEv) (k : Nat) : Option (Int × Int) := bq (Nat.blt k E.1) (lke1 (dg E.2 (Nat.mul 2 k)) (dg E.2 (Nat.add (Nat.mul 2 k) 1))) none
theorem lke1_some {a b : Nat} {i : Int × Int} (h : lke1 a b = some i) : 1 ≤ a ∧ 1 ≤ b ∧ i = (zlo a, zhi b) := by
  unfold lke1 at h
  cases h1 : Nat.ble 1 a
  · rw [h1] at h; cases h
  · rw [h1, bq_t] at h
    cases h2 : Nat.ble 1 b
    · rw [h2] at h; cases h
    · rw [h2, bq_t] at h
      exact ⟨Nat.le_of_ble_eq_true h1, Nat.le_of_ble_eq_true h2, (Option.some.inj h).symm⟩
theorem lke_lt {E : eEv} {k : Nat} {i : Int × Int} (h : lke E k = some i) : k < E.1 ∧ i = (zlo (dg E.2 (2 * k)), zhi (dg E.2 (2 * k + 1))) := by
  unfold lke at h
  cases hb : Nat.blt k E.1
  · rw [hb] at h; cases h
  · rw [hb] at h
    exact ⟨Nat.le_of_ble_eq_true hb, (lke1_some h).2.2⟩
theorem lke_pos {E : eEv} {k : Nat} {i : Int × Int} (h : lke E k = some i) : 1 ≤ dg E.2 (2 * k) ∧ 1 ≤ dg E.2 (2 * k + 1) := by
  unfold lke at h
  cases hb : Nat.blt k E.1
  · rw [hb] at h; cases h
  · rw [hb] at h
    exact ⟨(lke1_some h).1, (lke1_some h).2.1⟩
theorem dOk_iff {E : eEv} {k : Nat} {i : Int × Int} (h : lke E k = some i) (x : Int) : ivr i x ↔ dOk E.2 k x := by
  obtain ⟨p1, p2⟩ := lke_pos h
  rw [(lke_lt h).2]
  show zlo (dg E.2 (2 * k)) ≤ x ∧ x ≤ zhi (dg E.2 (2 * k + 1)) ↔ _
  rw [zlo_eq, zhi_eq]
  unfold dOk
  generalize dg E.2 (2 * k) = p at p1 ⊢
  generalize dg E.2 (2 * k + 1) = q at p2 ⊢
  constructor
  · rintro ⟨h1, h2⟩
    exact ⟨Or.inl (by omega), Or.inl (by omega)⟩
  · rintro ⟨h1, h2⟩
    exact ⟨by omega, by omega⟩
theorem lke_ok {E : eEv} {ρ : List Int} (hE : eOk E ρ) {k : Nat} {i : Int × Int} (h : lke E k = some i) : ∃ x, ρ[k]? = some x ∧ ivr i x := by
  have h1 := (lke_lt h).1
  rw [← hE.1] at h1
  refine ⟨ρ[k], List.getElem?_eq_getElem h1, (dOk_iff h _).mpr (hE.2 k _ (List.getElem?_eq_getElem h1))⟩
theorem lke_ex {E : eEv} {k : Nat} (h : k < E.1) (p1 : 1 ≤ dg E.2 (2 * k)) (p2 : 1 ≤ dg E.2 (2 * k + 1)) : ∃ i, lke E k = some i := by
  refine ⟨(zlo (dg E.2 (Nat.mul 2 k)), zhi (dg E.2 (Nat.add (Nat.mul 2 k) 1))), ?_⟩
  unfold lke
  rw [show Nat.blt k E.1 = true from Nat.ble_eq_true_of_le h, bq_t]
  unfold lke1
  rw [show Nat.ble 1 (dg E.2 (Nat.mul 2 k)) = true from Nat.ble_eq_true_of_le p1, bq_t, show Nat.ble 1 (dg E.2 (Nat.add (Nat.mul 2 k) 1)) = true from Nat.ble_eq_true_of_le p2, bq_t]
/-- a bound's digit; 0 says nothing -/
def elo (x : Int) : Nat := @Int.rec (fun _ => Nat) (fun n => bq (Nat.ble n 9223372036854775807) (Nat.add n 18446744073709551616) 0) (fun n => Nat.sub 18446744073709551615 n) x
def ehi (x : Int) : Nat := @Int.rec (fun _ => Nat) (fun n => Nat.sub 18446744073709551616 n) (fun n => bq (Nat.ble n 9223372036854775807) (Nat.add n 18446744073709551617) 0) x
theorem elo_lt (x : Int) : elo x < 2 ^ 72 := by
  cases x with
  | ofNat n =>
    show bq (Nat.ble n 9223372036854775807) (n + 18446744073709551616) 0 < 2 ^ 72
    cases h : Nat.ble n 9223372036854775807
    · exact Nat.two_pow_pos 72
    · have := Nat.le_of_ble_eq_true h
      show n + 18446744073709551616 < 2 ^ 72
      omega
  | negSucc n =>
    show 18446744073709551615 - n < 2 ^ 72
    omega
theorem ehi_lt (x : Int) : ehi x < 2 ^ 72 := by
  cases x with
  | ofNat n =>
    show 18446744073709551616 - n < 2 ^ 72
    omega
  | negSucc n =>
    show bq (Nat.ble n 9223372036854775807) (n + 18446744073709551617) 0 < 2 ^ 72
    cases h : Nat.ble n 9223372036854775807
    · exact Nat.two_pow_pos 72
    · have := Nat.le_of_ble_eq_true h
      show n + 18446744073709551617 < 2 ^ 72
      omega
theorem elo_ok {v x : Int} (h : v ≤ x) : (elo v : Int) ≤ x + 18446744073709551616 ∨ elo v = 0 := by
  cases v with
  | ofNat n =>
    show ((bq (Nat.ble n 9223372036854775807) (n + 18446744073709551616) 0 : Nat) : Int) ≤ _ ∨ bq (Nat.ble n 9223372036854775807) (n + 18446744073709551616) 0 = 0
    cases hb : Nat.ble n 9223372036854775807
    · exact Or.inr rfl
    · refine Or.inl ?_
      have h' : (n : Int) ≤ x := h
      show ((n + 18446744073709551616 : Nat) : Int) ≤ _
      omega
  | negSucc n =>
    rw [Int.negSucc_eq] at h
    show ((18446744073709551615 - n : Nat) : Int) ≤ _ ∨ 18446744073709551615 - n = 0
    omega
theorem ehi_ok {v x : Int} (h : x ≤ v) : (ehi v : Int) ≤ 18446744073709551616 - x ∨ ehi v = 0 := by
  cases v with
  | ofNat n =>
    have h' : x ≤ (n : Int) := h
    show ((18446744073709551616 - n : Nat) : Int) ≤ _ ∨ 18446744073709551616 - n = 0
    omega
  | negSucc n =>
    rw [Int.negSucc_eq] at h
    show ((bq (Nat.ble n 9223372036854775807) (n + 18446744073709551617) 0 : Nat) : Int) ≤ _ ∨ bq (Nat.ble n 9223372036854775807) (n + 18446744073709551617) 0 = 0
    cases hb : Nat.ble n 9223372036854775807
    · exact Or.inr rfl
    · refine Or.inl ?_
      show ((n + 18446744073709551617 : Nat) : Int) ≤ _
      omega
def eloR (E : eEv) (k : Nat) (v : Int) : eEv := (E.1, drz E.2 (Nat.mul 2 k) (elo v))
def ehiR (E : eEv) (k : Nat) (v : Int) : eEv := (E.1, drz E.2 (Nat.add (Nat.mul 2 k) 1) (ehi v))
theorem eOk_rlo {E : eEv} {ρ : List Int} (hE : eOk E ρ) {k e : Nat} {x : Int} (hx : ρ[k]? = some x) (he : e < 2 ^ 72) (h : (e : Int) ≤ x + 18446744073709551616 ∨ e = 0) : eOk (E.1, drz E.2 (2 * k) e) ρ := by
  refine ⟨hE.1, fun j y hy => ?_⟩
  have h1 := hE.2 j y hy
  unfold dOk at h1 ⊢
  dsimp only
  have e2 : dg (drz E.2 (2 * k) e) (2 * j + 1) = dg E.2 (2 * j + 1) := dg_rz_ne he (by omega)
  rw [e2]
  refine ⟨?_, h1.2⟩
  by_cases hj : j = k
  · subst hj
    rw [hx] at hy
    cases hy
    have h2 := h1.1
    have e1 : dg (drz E.2 (2 * j) e) (2 * j) = dg E.2 (2 * j) + (e - dg E.2 (2 * j)) := dg_rz_eq he
    rw [e1]
    generalize dg E.2 (2 * j) = d at h2 ⊢
    omega
  · have e1 : dg (drz E.2 (2 * k) e) (2 * j) = dg E.2 (2 * j) := dg_rz_ne he (by omega)
    rw [e1]
    exact h1.1
theorem eOk_rhi {E : eEv} {ρ : List Int} (hE : eOk E ρ) {k e : Nat} {x : Int} (hx : ρ[k]? = some x) (he : e < 2 ^ 72) (h : (e : Int) ≤ 18446744073709551616 - x ∨ e = 0) : eOk (E.1, drz E.2 (2 * k + 1) e) ρ := by
  refine ⟨hE.1, fun j y hy => ?_⟩
  have h1 := hE.2 j y hy
  unfold dOk at h1 ⊢
  dsimp only
  have e2 : dg (drz E.2 (2 * k + 1) e) (2 * j) = dg E.2 (2 * j) := dg_rz_ne he (by omega)
  rw [e2]
  refine ⟨h1.1, ?_⟩
  by_cases hj : j = k
  · subst hj
    rw [hx] at hy
    cases hy
    have h2 := h1.2
    have e1 : dg (drz E.2 (2 * j + 1) e) (2 * j + 1) = dg E.2 (2 * j + 1) + (e - dg E.2 (2 * j + 1)) := dg_rz_eq he
    rw [e1]
    generalize dg E.2 (2 * j + 1) = d at h2 ⊢
    omega
  · have e1 : dg (drz E.2 (2 * k + 1) e) (2 * j + 1) = dg E.2 (2 * j + 1) := dg_rz_ne he (by omega)
    rw [e1]
    exact h1.2
theorem eOk_lo {E : eEv} {ρ : List Int} (hE : eOk E ρ) {k : Nat} {x v : Int} (hx : ρ[k]? = some x) (h : v ≤ x) : eOk (eloR E k v) ρ := eOk_rlo hE hx (elo_lt v) (elo_ok h)
theorem eOk_hi {E : eEv} {ρ : List Int} (hE : eOk E ρ) {k : Nat} {x v : Int} (hx : ρ[k]? = some x) (h : x ≤ v) : eOk (ehiR E k v) ρ := eOk_rhi hE hx (ehi_lt v) (ehi_ok h)
/-- numbers put behind -/
theorem eOk_cat {E : eEv} {M : Nat} {ρ σ : List Int} (hE : eOk E ρ) (hs : ∀ k x, σ[k]? = some x → dOk M k x) : eOk (E.1 + σ.length, dcat E.2 (2 * E.1) M) (ρ ++ σ) := by
  refine ⟨by rw [List.length_append, hE.1], fun k x hk => ?_⟩
  rcases Nat.lt_or_ge k E.1 with g | g
  · rw [List.getElem?_append_left (by rw [hE.1]; exact g)] at hk
    have h1 := hE.2 k x hk
    unfold dOk at h1 ⊢
    dsimp only
    have e1 : dg (dcat E.2 (2 * E.1) M) (2 * k) = dg E.2 (2 * k) := dg_cat_lo (by omega)
    have e2 : dg (dcat E.2 (2 * E.1) M) (2 * k + 1) = dg E.2 (2 * k + 1) := dg_cat_lo (by omega)
    rw [e1, e2]
    exact h1
  · rw [List.getElem?_append_right (by rw [hE.1]; exact g), hE.1] at hk
    have h1 := hs _ x hk
    unfold dOk at h1 ⊢
    dsimp only
    have e1 := dg_cat_hi E.2 (2 * E.1) M (2 * (k - E.1))
    have e2 := dg_cat_hi E.2 (2 * E.1) M (2 * (k - E.1) + 1)
    rw [show 2 * E.1 + 2 * (k - E.1) = 2 * k by omega] at e1
    rw [show 2 * E.1 + (2 * (k - E.1) + 1) = 2 * k + 1 by omega] at e2
    rw [e1, e2]
    exact h1
/-- one digit put for another -/
def dput (N j e : Nat) : Nat := dcat N j (e + dsh N (j + 1) * 2 ^ 72)
theorem dg_put_eq {N j e : Nat} (he : e < 2 ^ 72) : dg (dput N j e) j = e := by
  have h := dg_cat_hi N j (e + dsh N (j + 1) * 2 ^ 72) 0
  rw [Nat.add_zero, dg_p0 he] at h
  exact h
theorem dg_put_ne {N j e i : Nat} (he : e < 2 ^ 72) (hi : i ≠ j) : dg (dput N j e) i = dg N i := by
  rcases Nat.lt_or_ge i j with g | g
  · exact dg_cat_lo g
  · obtain ⟨d, rfl⟩ : ∃ d, i = j + (d + 1) := ⟨i - j - 1, by omega⟩
    have h := dg_cat_hi N j (e + dsh N (j + 1) * 2 ^ 72) (d + 1)
    rw [dg_p1 he, dg_sh] at h
    rw [show j + (d + 1) = j + 1 + d by omega] at h ⊢
    exact h
def eset (E : eEv) (k : Nat) (i : Int × Int) : eEv := (E.1, dput (dput E.2 (2 * k) (elo i.1)) (2 * k + 1) (ehi i.2))
theorem eset_dg {E : eEv} {k : Nat} {i : Int × Int} : dg (eset E k i).2 (2 * k) = elo i.1 ∧ dg (eset E k i).2 (2 * k + 1) = ehi i.2 := by
  have e1 : dg (dput (dput E.2 (2 * k) (elo i.1)) (2 * k + 1) (ehi i.2)) (2 * k) = dg (dput E.2 (2 * k) (elo i.1)) (2 * k) := dg_put_ne (ehi_lt _) (by omega)
  have e2 : dg (dput E.2 (2 * k) (elo i.1)) (2 * k) = elo i.1 := dg_put_eq (elo_lt _)
  have e3 : dg (dput (dput E.2 (2 * k) (elo i.1)) (2 * k + 1) (ehi i.2)) (2 * k + 1) = ehi i.2 := dg_put_eq (ehi_lt _)
  unfold eset
  dsimp only
  rw [e1, e2, e3]
  exact ⟨rfl, rfl⟩
theorem eset_ne {E : eEv} {k j : Nat} {i : Int × Int} (h : j ≠ k) (x : Int) : dOk (eset E k i).2 j x ↔ dOk E.2 j x := by
  have e1 : dg (dput (dput E.2 (2 * k) (elo i.1)) (2 * k + 1) (ehi i.2)) (2 * j) = dg (dput E.2 (2 * k) (elo i.1)) (2 * j) := dg_put_ne (ehi_lt _) (by omega)
  have e2 : dg (dput E.2 (2 * k) (elo i.1)) (2 * j) = dg E.2 (2 * j) := dg_put_ne (elo_lt _) (by omega)
  have e3 : dg (dput (dput E.2 (2 * k) (elo i.1)) (2 * k + 1) (ehi i.2)) (2 * j + 1) = dg (dput E.2 (2 * k) (elo i.1)) (2 * j + 1) := dg_put_ne (ehi_lt _) (by omega)
  have e4 : dg (dput E.2 (2 * k) (elo i.1)) (2 * j + 1) = dg E.2 (2 * j + 1) := dg_put_ne (elo_lt _) (by omega)
  unfold dOk eset
  dsimp only
  rw [e1, e2, e3, e4]
theorem eOk_set {E : eEv} {ρ : List Int} {v : Nat} {w : Int} {i : Int × Int} (hE : eOk E ρ) (hw : ρ[v]? = some w) (h1 : i.1 ≤ w) (h2 : w ≤ i.2) : eOk (eset E v i) ρ := by
  obtain ⟨n, N⟩ := E
  have h0 : ρ.length = n := hE.1
  refine ⟨h0, fun k y hk => ?_⟩
  by_cases hkv : k = v
  · subst hkv
    rw [hw] at hk
    have e := Option.some.inj hk
    subst e
    obtain ⟨a1, a2⟩ := eset_dg (E := (n, N)) (k := k) (i := i)
    have d : dOk N k w := hE.2 k w hw
    unfold dOk at d ⊢
    rw [a1, a2]
    have q1 := elo_ok h1
    have q2 := ehi_ok h2
    generalize elo i.1 = p at q1 ⊢
    generalize ehi i.2 = q at q2 ⊢
    generalize dg N (2 * k) = p2 at d
    generalize dg N (2 * k + 1) = q3 at d
    exact ⟨by omega, by omega⟩
  · exact (eset_ne hkv y).mpr (hE.2 k y hk)
/-- an interval, a list of intervals, packed -/
theorem addmul_eq (a b c : Nat) : Nat.add a (Nat.mul b c) = a + b * c := rfl
theorem p72e : (4722366482869645213696 : Nat) = 2 ^ 72 := by decide
theorem dg_0 {a : Nat} (ha : a < 2 ^ 72) : dg a 0 = a := by
  have z := dg_p0 (b := 0) ha
  rw [Nat.zero_mul, Nat.add_zero] at z
  exact z
def epk1 (lo hi : Int) (t : Nat) : Nat := Nat.add (elo lo) (Nat.mul (Nat.add (ehi hi) (Nat.mul t 4722366482869645213696)) 4722366482869645213696)
theorem epk1_eq (lo hi : Int) (t : Nat) : epk1 lo hi t = elo lo + (ehi hi + t * 2 ^ 72) * 2 ^ 72 := by
  unfold epk1
  rw [addmul_eq, addmul_eq, p72e]
theorem epk1_0 (lo hi : Int) (t : Nat) : dg (epk1 lo hi t) 0 = elo lo := by
  rw [epk1_eq]
  exact dg_p0 (elo_lt lo)
theorem epk1_1 (lo hi : Int) (t : Nat) : dg (epk1 lo hi t) 1 = ehi hi := by
  rw [epk1_eq]
  have h := dg_p1 (a := elo lo) (b := ehi hi + t * 2 ^ 72) (d := 0) (elo_lt lo)
  rw [dg_p0 (ehi_lt hi)] at h
  exact h
theorem epk1_s (lo hi : Int) (t d : Nat) : dg (epk1 lo hi t) (d + 2) = dg t d := by
  rw [epk1_eq]
  have h := dg_p1 (a := elo lo) (b := ehi hi + t * 2 ^ 72) (d := d + 1) (elo_lt lo)
  rw [dg_p1 (ehi_lt hi)] at h
  exact h
theorem epk1_ok {lo hi x : Int} (t : Nat) (h1 : lo ≤ x) (h2 : x ≤ hi) (b1 : -9223372036854775808 ≤ x) (b2 : x ≤ 9223372036854775807) : dOk (epk1 lo hi t) 0 x := by
  have q1 := elo_ok h1
  have q2 := ehi_ok h2
  have e1 := epk1_0 lo hi t
  have e2 := epk1_1 lo hi t
  unfold dOk
  rw [Nat.mul_zero, Nat.zero_add, e1, e2]
  generalize elo lo = a at q1 ⊢
  generalize ehi hi = b at q2 ⊢
  exact ⟨by omega, by omega⟩
theorem epk1_k {lo hi x : Int} (t k : Nat) : dOk (epk1 lo hi t) (k + 1) x ↔ dOk t k x := by
  have e1 := epk1_s lo hi t (2 * k)
  have e2 := epk1_s lo hi t (2 * k + 1)
  unfold dOk
  rw [show 2 * (k + 1) = 2 * k + 2 by omega, show 2 * k + 2 + 1 = 2 * k + 1 + 2 by omega, e1, e2]
def epk (l : List (Int × Int)) : Nat := @List.rec (Int × Int) (fun _ => Nat) 0 (fun i _ ih => epk1 i.1 i.2 ih) l
def smul (k x : Int) : Int := match k with
  | Int.ofNat 1 => x
  | _ => k * x
theorem smul_eq (k x : Int) : smul k x = k * x := by
  unfold smul
  split
  · exact (Int.one_mul x).symm
  · rfl
def sadd (x y : Int) : Int := match y with
  | Int.ofNat 0 => x
  | _ => x + y
theorem sadd_eq (x y : Int) : sadd x y = x + y := by
  unfold sadd
  split
  · exact (Int.add_zero x).symm
  · rfl
/-- the interval of a sum -/
def lrg1 (env : eEv) (q : Nat × Int) (ih : Option (Int × Int)) : Option (Int × Int) := match lke env q.1, ih with
    | some i, some j => (match q.2 with
      | Int.ofNat _ => some (sadd (smul q.2 i.1) j.1, sadd (smul q.2 i.2) j.2)
      | Int.negSucc _ => some (q.2 * i.2 + j.1, q.2 * i.1 + j.2))
    | _, _ => none
def lrg (env : eEv) (l : List (Nat × Int)) : Option (Int × Int) := @List.rec (Nat × Int) (fun _ => Option (Int × Int)) (some (0, 0)) (fun q _ ih => lrg1 env q ih) l
theorem lrg_cons (env : eEv) (q : Nat × Int) (t : List (Nat × Int)) : lrg env (q :: t) = lrg1 env q (lrg env t) := rfl
theorem lrg_ok {env : eEv} {ρ : List Int} (hE : eOk env ρ) : ∀ {t : List (Nat × Int)} {j : Int × Int} {x : Int}, lrg env t = some j → lev ρ t = some x → ivr j x
  | [], j, x, h, hx => by
    cases h; cases hx
    exact ⟨Int.le_refl 0, Int.le_refl 0⟩
  | q :: t, j, x, h, hx => by
    obtain ⟨a, b, e1, e2, rfl⟩ := lev_cons hx
    rw [lrg_cons] at h
    unfold lrg1 at h
    split at h
    · rename_i i jj h1 h2
      obtain ⟨a', e3, h3⟩ := lke_ok hE h1
      rw [e1] at e3
      cases e3
      have h4 := lrg_ok hE h2 e2
      split at h
      · rename_i n hn
        have hp : 0 ≤ q.2 := by rw [hn]; exact Int.natCast_nonneg n
        simp only [sadd_eq, smul_eq] at h
        cases h
        exact ⟨Int.add_le_add (Int.mul_le_mul_of_nonneg_left h3.1 hp) h4.1, Int.add_le_add (Int.mul_le_mul_of_nonneg_left h3.2 hp) h4.2⟩
      · rename_i n hn
        have hp : q.2 ≤ 0 := by rw [hn]; exact Int.le_of_lt (Int.negSucc_lt_zero n)
        cases h
        exact ⟨Int.add_le_add (Int.mul_le_mul_of_nonpos_left hp h3.2) h4.1, Int.add_le_add (Int.mul_le_mul_of_nonpos_left hp h3.1) h4.2⟩
    · cases h
end
