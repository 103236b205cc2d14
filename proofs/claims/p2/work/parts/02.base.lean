noncomputable section
/-! the words that every method has, and the lists of things that stand side by side -/
def gtbl : List Cond := lw_tbl.filter goodWord
theorem in_g {w : Cond} (h : w ∈ lw_tbl) (hg : goodWord w = true) : w ∈ gtbl := List.mem_filter.mpr ⟨h, hg⟩
def R2 {A B : Type} (r : A → B → Prop) : List A → List B → Prop
  | [], [] => True
  | a :: as, b :: bs => r a b ∧ R2 r as bs
  | _, _ => False
theorem R2.imp {A B : Type} {r r' : A → B → Prop} (h : ∀ a b, r a b → r' a b) : ∀ {as : List A} {bs : List B}, R2 r as bs → R2 r' as bs
  | [], [], _ => trivial
  | _ :: _, _ :: _, ⟨h1, h2⟩ => ⟨h _ _ h1, R2.imp h h2⟩
  | [], _ :: _, h => h.elim
  | _ :: _, [], h => h.elim
theorem R2.len {A B : Type} {r : A → B → Prop} : ∀ {as : List A} {bs : List B}, R2 r as bs → as.length = bs.length
  | [], [], _ => rfl
  | _ :: _, _ :: _, ⟨_, h2⟩ => by simp [R2.len h2]
  | [], _ :: _, h => h.elim
  | _ :: _, [], h => h.elim
theorem R2.get {A B : Type} {r : A → B → Prop} : ∀ {as : List A} {bs : List B}, R2 r as bs → ∀ {k : Nat} {a : A}, as[k]? = some a → ∃ b, bs[k]? = some b ∧ r a b
  | [], [], _, k, a, hk => by simp at hk
  | x :: _, y :: _, ⟨h1, h2⟩, 0, a, hk => by
    simp only [List.getElem?_cons_zero, Option.some.injEq] at hk
    subst hk
    exact ⟨y, rfl, h1⟩
  | x :: _, y :: _, ⟨h1, h2⟩, k + 1, a, hk => by
    simp only [List.getElem?_cons_succ] at hk ⊢
    exact R2.get h2 hk
  | [], _ :: _, h, _, _, _ => h.elim
  | _ :: _, [], h, _, _, _ => h.elim
theorem R2.getR {A B : Type} {r : A → B → Prop} : ∀ {as : List A} {bs : List B}, R2 r as bs → ∀ {k : Nat} {b : B}, bs[k]? = some b → ∃ a, as[k]? = some a ∧ r a b
  | [], [], _, k, a, hk => by simp at hk
  | x :: _, y :: _, ⟨h1, h2⟩, 0, a, hk => by
    simp only [List.getElem?_cons_zero, Option.some.injEq] at hk
    subst hk
    exact ⟨x, rfl, h1⟩
  | x :: _, y :: _, ⟨h1, h2⟩, k + 1, a, hk => by
    simp only [List.getElem?_cons_succ] at hk ⊢
    exact R2.getR h2 hk
  | [], _ :: _, h, _, _, _ => h.elim
  | _ :: _, [], h, _, _, _ => h.elim
theorem R2.set {A B : Type} {r : A → B → Prop} {a : A} {b : B} (hab : r a b) : ∀ {as : List A} {bs : List B}, R2 r as bs → ∀ (k : Nat), R2 r (as.set k a) (bs.set k b)
  | [], [], _, k => by simp [R2]
  | x :: _, y :: _, ⟨h1, h2⟩, 0 => ⟨hab, h2⟩
  | x :: _, y :: _, ⟨h1, h2⟩, k + 1 => ⟨h1, R2.set hab h2 k⟩
  | [], _ :: _, h, _ => h.elim
  | _ :: _, [], h, _ => h.elim
theorem R2.app {A B : Type} {r : A → B → Prop} : ∀ {as : List A} {bs : List B}, R2 r as bs → ∀ {as' : List A} {bs' : List B}, R2 r as' bs' → R2 r (as ++ as') (bs ++ bs')
  | [], [], _, _, _, h' => h'
  | _ :: _, _ :: _, ⟨h1, h2⟩, _, _, h' => ⟨h1, R2.app h2 h'⟩
  | [], _ :: _, h, _, _, _ => h.elim
  | _ :: _, [], h, _, _, _ => h.elim
theorem R2.one {A B : Type} {r : A → B → Prop} {a : A} {b : B} (h : r a b) : R2 r [a] [b] := ⟨h, trivial⟩
theorem R2.filter {A B : Type} {r : A → B → Prop} {p : A → Bool} {q : B → Bool} (hpq : ∀ a b, r a b → p a = q b) : ∀ {as : List A} {bs : List B}, R2 r as bs → R2 r (as.filter p) (bs.filter q)
  | [], [], _ => trivial
  | a :: as, b :: bs, ⟨h1, h2⟩ => by
    have h3 := R2.filter hpq h2
    have h4 := hpq a b h1
    cases hp : p a with
    | true =>
      rw [List.filter_cons_of_pos hp, List.filter_cons_of_pos (h4 ▸ hp)]
      exact ⟨h1, h3⟩
    | false =>
      have hq : ¬ q b = true := by rw [← h4, hp]; simp
      rw [List.filter_cons_of_neg (by rw [hp]; simp), List.filter_cons_of_neg hq]
      exact h3
  | [], _ :: _, h => h.elim
  | _ :: _, [], h => h.elim
theorem R2.nil_inv {A B : Type} {r : A → B → Prop} {bs : List B} (h : R2 r [] bs) : bs = [] := by
  cases bs with
  | nil => rfl
  | cons _ _ => exact h.elim
theorem R2.cons_inv {A B : Type} {r : A → B → Prop} {a : A} {as : List A} {bs : List B} (h : R2 r (a :: as) bs) : ∃ b bs', bs = b :: bs' ∧ r a b ∧ R2 r as bs' := by
  cases bs with
  | nil => exact h.elim
  | cons b bs' => exact ⟨b, bs', rfl, h.1, h.2⟩
/-! linear forms: numbers that are sums of named ones; intervals -/
abbrev eLF : Type := List (Nat × Int) × Int
abbrev eEv : Type := List (Int × Int)
def lev (ρ : List Int) : List (Nat × Int) → Option Int
  | [] => some 0
  | q :: t => match ρ[q.1]?, lev ρ t with
    | some x, some y => some (q.2 * x + y)
    | _, _ => none
def lfv (ρ : List Int) (f : eLF) (x : Int) : Prop := lev ρ f.1 = some (x - f.2)
theorem lev_cons {ρ : List Int} {q : Nat × Int} {t : List (Nat × Int)} {z : Int} (h : lev ρ (q :: t) = some z) : ∃ x y, ρ[q.1]? = some x ∧ lev ρ t = some y ∧ z = q.2 * x + y := by
  unfold lev at h
  split at h
  · rename_i x y h1 h2
    exact ⟨x, y, h1, h2, (Option.some.inj h).symm⟩
  · cases h
theorem lev_mk {ρ : List Int} {q : Nat × Int} {t : List (Nat × Int)} {x y : Int} (h1 : ρ[q.1]? = some x) (h2 : lev ρ t = some y) : lev ρ (q :: t) = some (q.2 * x + y) := by
  unfold lev
  rw [h1, h2]
theorem lev_mono {ρ : List Int} (σ : List Int) : ∀ {t : List (Nat × Int)} {z : Int}, lev ρ t = some z → lev (ρ ++ σ) t = some z
  | [], z, h => h
  | q :: t, z, h => by
    obtain ⟨x, y, h1, h2, rfl⟩ := lev_cons h
    exact lev_mk (by rw [List.getElem?_append_left (List.getElem?_eq_some_iff.mp h1).1]; exact h1) (lev_mono σ h2)
theorem lfv_mono {ρ : List Int} (σ : List Int) {f : eLF} {x : Int} (h : lfv ρ f x) : lfv (ρ ++ σ) f x := lev_mono σ h
theorem lfv_fun {ρ : List Int} {f : eLF} {x y : Int} (h : lfv ρ f x) (h' : lfv ρ f y) : x = y := by
  unfold lfv at h h'
  rw [h] at h'
  have := Option.some.inj h'
  omega
/-- one term into a sorted list -/
def lins (v : Nat) (k : Int) : List (Nat × Int) → List (Nat × Int)
  | [] => [(v, k)]
  | q :: t => bif Nat.blt v q.1 then (v, k) :: q :: t else bif Nat.beq v q.1 then (match k + q.2 with
      | Int.ofNat 0 => t
      | z => (v, z) :: t) else q :: lins v k t
theorem lins_ok {ρ : List Int} {v : Nat} {k x : Int} (hx : ρ[v]? = some x) : ∀ {t : List (Nat × Int)} {y : Int}, lev ρ t = some y → lev ρ (lins v k t) = some (k * x + y)
  | [], y, h => lev_mk (q := (v, k)) hx h
  | q :: t, y, h => by
    unfold lins
    cases h1 : Nat.blt v q.1 with
    | true => exact lev_mk (q := (v, k)) hx h
    | false =>
      cases h2 : Nat.beq v q.1 with
      | true =>
        have hv : v = q.1 := Nat.eq_of_beq_eq_true h2
        obtain ⟨x', y', e1, e2, rfl⟩ := lev_cons h
        rw [← hv, hx] at e1
        cases e1
        dsimp only [cond_true, cond_false]
        split
        · rename_i hz
          have hz' : k + q.2 = 0 := hz
          rw [e2]
          have : k = - q.2 := by omega
          rw [this]
          congr 1
          rw [Int.neg_mul]
          omega
        · rw [lev_mk (q := (v, k + q.2)) hx e2]
          congr 1
          show (k + q.2) * x + y' = k * x + (q.2 * x + y')
          rw [Int.add_mul]
          omega
      | false =>
        obtain ⟨x', y', e1, e2, rfl⟩ := lev_cons h
        dsimp only [cond_true, cond_false]
        rw [lev_mk e1 (lins_ok hx e2)]
        congr 1
        omega
def ladd : List (Nat × Int) → List (Nat × Int) → List (Nat × Int)
  | [], b => b
  | q :: t, b => lins q.1 q.2 (ladd t b)
theorem ladd_ok {ρ : List Int} {b : List (Nat × Int)} {y : Int} (hb : lev ρ b = some y) : ∀ {a : List (Nat × Int)} {x : Int}, lev ρ a = some x → lev ρ (ladd a b) = some (x + y)
  | [], x, h => by
    cases h
    rw [Int.zero_add]
    exact hb
  | q :: t, x, h => by
    obtain ⟨x', y', e1, e2, rfl⟩ := lev_cons h
    show lev ρ (lins q.1 q.2 (ladd t b)) = _
    rw [lins_ok e1 (ladd_ok hb e2)]
    congr 1
    omega
def lsc (k : Int) : List (Nat × Int) → List (Nat × Int)
  | [] => []
  | q :: t => (q.1, k * q.2) :: lsc k t
theorem lsc_ok {ρ : List Int} {k : Int} : ∀ {a : List (Nat × Int)} {x : Int}, lev ρ a = some x → lev ρ (lsc k a) = some (k * x)
  | [], x, h => by cases h; show some 0 = some (k * 0); rw [Int.mul_zero]
  | q :: t, x, h => by
    obtain ⟨x', y', e1, e2, rfl⟩ := lev_cons h
    show lev ρ ((q.1, k * q.2) :: lsc k t) = _
    rw [lev_mk (q := (q.1, k * q.2)) e1 (lsc_ok e2)]
    congr 1
    show k * q.2 * x' + k * y' = k * (q.2 * x' + y')
    rw [Int.mul_add, Int.mul_assoc]
def fadd (f g : eLF) : eLF := (ladd f.1 g.1, f.2 + g.2)
def fsc (k : Int) (f : eLF) : eLF := match k with
  | Int.ofNat 0 => ([], 0)
  | k => (lsc k f.1, k * f.2)
def fsub (f g : eLF) : eLF := fadd f (fsc (-1) g)
def fpl (f : eLF) (k : Int) : eLF := (f.1, f.2 + k)
def fc (k : Int) : eLF := ([], k)
theorem fc_ok {ρ : List Int} (k : Int) : lfv ρ (fc k) k := by
  show some (0 : Int) = some (k - k)
  rw [Int.sub_self]
theorem fc_inv {ρ : List Int} {k x : Int} (h : lfv ρ ([], k) x) : x = k := by
  have : some (0 : Int) = some (x - k) := h
  have := Option.some.inj this
  omega
theorem fadd_ok {ρ : List Int} {f g : eLF} {x y : Int} (h : lfv ρ f x) (h' : lfv ρ g y) : lfv ρ (fadd f g) (x + y) := by
  unfold lfv at *
  show lev ρ (ladd f.1 g.1) = some (x + y - (f.2 + g.2))
  rw [ladd_ok h' h]
  congr 1
  omega
theorem fsc_ok {ρ : List Int} {k : Int} {f : eLF} {x : Int} (h : lfv ρ f x) : lfv ρ (fsc k f) (k * x) := by
  unfold fsc
  split
  · show some (0 : Int) = some ((0 : Int) * x - 0)
    rw [Int.zero_mul]
    rfl
  · unfold lfv at *
    show lev ρ (lsc k f.1) = some (k * x - k * f.2)
    rw [lsc_ok h, Int.mul_sub]
theorem fsub_ok {ρ : List Int} {f g : eLF} {x y : Int} (h : lfv ρ f x) (h' : lfv ρ g y) : lfv ρ (fsub f g) (x - y) := by
  have h1 := fadd_ok h (fsc_ok (k := -1) h')
  have e : x + -1 * y = x - y := by omega
  rw [e] at h1
  exact h1
theorem fpl_ok {ρ : List Int} {f : eLF} {x : Int} (k : Int) (h : lfv ρ f x) : lfv ρ (fpl f k) (x + k) := by
  unfold lfv at *
  show lev ρ f.1 = some (x + k - (f.2 + k))
  rw [h]
  congr 1
  omega
def ivr (i : Int × Int) (x : Int) : Prop := i.1 ≤ x ∧ x ≤ i.2
abbrev eOk (env : eEv) (ρ : List Int) : Prop := R2 ivr env ρ
/-- the k-th of a list, in few steps -/
def lkS {A : Type} (h : A) (ih : Nat → Option A) (n : Nat) : Option A := @Nat.rec (fun _ => Option A) (some h) (fun k _ => ih k) n
def lk {A : Type} (l : List A) : Nat → Option A := @List.rec A (fun _ => Nat → Option A) (fun _ => none) (fun h _ ih n => lkS h ih n) l
/-- one of two; a name of its own, so that the kernel comes back from it before it goes on -/
def bq {A : Type} (c : Bool) (a b : A) : A := @Bool.rec (fun _ => A) b a c
theorem lk_eq {A : Type} : ∀ (l : List A) (n : Nat), lk l n = l[n]?
  | [], n => by
    rw [List.getElem?_nil]
    rfl
  | h :: t, 0 => rfl
  | h :: t, n + 1 => by
    rw [List.getElem?_cons_succ]
    exact lk_eq t n
def smul (k x : Int) : Int := match k with
  | Int.ofNat 1 => x
  | _ => k * x
theorem smul_eq (k x : Int) : smul k x = k * x := by
  unfold smul
  split
  · exact (Int.one_mul x).symm
  · rfl
def sadd (x y : Int) : Int := match y with
  | Int.ofNat 0 => x
  | _ => x + y
theorem sadd_eq (x y : Int) : sadd x y = x + y := by
  unfold sadd
  split
  · exact (Int.add_zero x).symm
  · rfl
/-- the interval of a sum -/
def lrg (env : eEv) : List (Nat × Int) → Option (Int × Int)
  | [] => some (0, 0)
  | q :: t => match lk env q.1, lrg env t with
    | some i, some j => (match q.2 with
      | Int.ofNat _ => some (sadd (smul q.2 i.1) j.1, sadd (smul q.2 i.2) j.2)
      | Int.negSucc _ => some (q.2 * i.2 + j.1, q.2 * i.1 + j.2))
    | _, _ => none
theorem lrg_ok {env : eEv} {ρ : List Int} (hE : eOk env ρ) : ∀ {t : List (Nat × Int)} {j : Int × Int} {x : Int}, lrg env t = some j → lev ρ t = some x → ivr j x
  | [], j, x, h, hx => by
    cases h; cases hx
    exact ⟨Int.le_refl 0, Int.le_refl 0⟩
  | q :: t, j, x, h, hx => by
    obtain ⟨a, b, e1, e2, rfl⟩ := lev_cons hx
    unfold lrg at h
    split at h
    · rename_i i jj h1 h2
      rw [lk_eq] at h1
      obtain ⟨a', e3, h3⟩ := R2.get hE h1
      rw [e1] at e3
      cases e3
      have h4 := lrg_ok hE h2 e2
      split at h
      · rename_i n hn
        have hp : 0 ≤ q.2 := by rw [hn]; exact Int.natCast_nonneg n
        simp only [sadd_eq, smul_eq] at h
        cases h
        exact ⟨Int.add_le_add (Int.mul_le_mul_of_nonneg_left h3.1 hp) h4.1, Int.add_le_add (Int.mul_le_mul_of_nonneg_left h3.2 hp) h4.2⟩
      · rename_i n hn
        have hp : q.2 ≤ 0 := by rw [hn]; exact Int.le_of_lt (Int.negSucc_lt_zero n)
        cases h
        exact ⟨Int.add_le_add (Int.mul_le_mul_of_nonpos_left hp h3.2) h4.1, Int.add_le_add (Int.mul_le_mul_of_nonpos_left hp h3.1) h4.2⟩
    · cases h
end
