noncomputable section
def ieq (a b : Int) : Bool := match a, b with
  | Int.ofNat m, Int.ofNat n => Nat.beq m n
  | Int.negSucc m, Int.negSucc n => Nat.beq m n
  | _, _ => false
theorem ieq_t {a b : Int} (h : ieq a b = true) : a = b := by
  unfold ieq at h
  split at h
  · rw [Nat.eq_of_beq_eq_true h]
  · rw [Nat.eq_of_beq_eq_true h]
  · cases h
def lbeq : List (Nat × Int) → List (Nat × Int) → Bool
  | [], [] => true
  | p :: a, q :: b => Nat.beq p.1 q.1 && ieq p.2 q.2 && lbeq a b
  | _, _ => false
theorem lbeq_t : ∀ {a b : List (Nat × Int)}, lbeq a b = true → a = b
  | [], [], _ => rfl
  | [], _ :: _, h => by cases h
  | _ :: _, [], h => by cases h
  | p :: a, q :: b, h => by
    unfold lbeq at h
    rw [Bool.and_eq_true, Bool.and_eq_true] at h
    rw [lbeq_t h.2]
    have e1 := Nat.eq_of_beq_eq_true h.1.1
    have e2 := ieq_t h.1.2
    have : p = q := Prod.ext e1 e2
    rw [this]
def fbeq (f g : eLF) : Bool := ieq f.2 g.2 && lbeq f.1 g.1
theorem fbeq_t {f g : eLF} (h : fbeq f g = true) : f = g := by
  unfold fbeq at h
  rw [Bool.and_eq_true] at h
  exact Prod.ext (lbeq_t h.2) (ieq_t h.1)
/-! cells, states, and what is to be shown of a state -/
abbrev eSC : Type := (Nat × List eSV) ⊕ ((Nat × Nat × eSg) ⊕ ((Nat × eSg) ⊕ (Nat × Nat × eSg)))
abbrev eHp : Type := List (Nat × eSC)
def tys0 (ca : Nat → ClassId) : List (ClassId × FieldType) := [(ca 0, .byte), (ca 1, .int), (ca 2, .long), (ca 3, .boolean), (ca 4, .object "DrownedRooms$Image"), (ca 5, .object "DrownedRooms$Lake")]
/-- an array's elements from a place on as one number: said by a piece of no length at the head -/
def cdG1 (q : Nat × ePc) : Option (Nat × Nat) := bq (Nat.beq q.1 0) (match q.2 with
  | .inr r => bq (Nat.beq r.1 7) (some (Nat.div r.2 4096, Nat.mod r.2 4096)) none
  | .inl _ => none) none
def cdG (l : eSg) : Option (Nat × Nat) := match l with
  | q :: _ => cdG1 q
  | [] => none
def cdX (l : eSg) : eSg := @List.rec (Nat × ePc) (fun _ => eSg) [] (fun q t ih => bq (Nat.beq q.1 0) ih (q :: t)) l
def cdN (c o : Nat) (l : eSg) : eSg := (0, .inr (7, Nat.add (Nat.mul c 4096) o)) :: l
theorem cdX_cons (q : Nat × ePc) (t : eSg) : cdX (q :: t) = bq (Nat.beq q.1 0) (cdX t) (q :: t) := rfl
theorem cdG_X : ∀ (l : eSg), cdG (cdX l) = none
  | [] => rfl
  | q :: t => by
    rw [cdX_cons]
    cases h : Nat.beq q.1 0
    · show cdG1 q = none
      unfold cdG1
      rw [h, bq_f]
    · exact cdG_X t
theorem sga_cX : ∀ (l : eSg) (j : Nat), sga (cdX l) j = sga l j
  | [], _ => rfl
  | q :: t, j => by
    rw [cdX_cons]
    cases h : Nat.beq q.1 0
    · rfl
    · have e := Nat.eq_of_beq_eq_true h
      rw [bq_t, sga_cX t j]
      obtain ⟨n, c⟩ := q
      dsimp only at e
      subst e
      rw [sga_ge (Nat.zero_le j), Nat.sub_zero]
theorem cdG_inl (n : Nat) (e : eEl) (t : eSg) : cdG ((n, .inl e) :: t) = none := by
  show bq (Nat.beq n 0) none none = none
  cases Nat.beq n 0 <;> rfl
theorem cdG_N {c o : Nat} (h : o < 4096) (l : eSg) : cdG (cdN c o l) = some (c, o) := by
  show some ((c * 4096 + o) / 4096, (c * 4096 + o) % 4096) = some (c, o)
  rw [show (c * 4096 + o) / 4096 = c by omega, show (c * 4096 + o) % 4096 = o by omega]
theorem cdG_lt {l : eSg} {c o : Nat} (h : cdG l = some (c, o)) : o < 4096 := by
  unfold cdG at h
  split at h
  · unfold cdG1 at h
    rename_i q t
    cases hb : Nat.beq q.1 0
    · rw [hb] at h; cases h
    · rw [hb, bq_t] at h
      split at h
      · rename_i r hr
        cases hb2 : Nat.beq r.1 7
        · rw [hb2] at h; cases h
        · rw [hb2, bq_t] at h
          cases h
          exact Nat.mod_lt _ (by decide)
      · cases h
  · cases h
theorem sga_cN (c o : Nat) (l : eSg) (j : Nat) : sga (cdN c o l) j = sga l j := by
  show sga ((0, .inr (7, Nat.add (Nat.mul c 4096) o)) :: l) j = _
  rw [sga_ge (Nat.zero_le j), Nat.sub_zero]
def cdO (ρ : List Int) (l : eSg) (n : Nat) (v : Nat → Int) : Prop := ∀ c o, cdG l = some (c, o) → ∃ z, ρ[c]? = some z ∧ ∀ j, o ≤ j → j < n → dcd j z = v j
theorem cdO_X (ρ : List Int) (l : eSg) (n : Nat) (v : Nat → Int) : cdO ρ (cdX l) n v := fun c o h => by
  rw [cdG_X] at h
  cases h
theorem cdO_none {ρ : List Int} {l : eSg} {n : Nat} {v : Nat → Int} (h : cdG l = none) : cdO ρ l n v := fun c o h' => by
  rw [h] at h'
  cases h'
theorem cdO_mono {ρ : List Int} (σ : List Int) {l : eSg} {n : Nat} {v : Nat → Int} (h : cdO ρ l n v) : cdO (ρ ++ σ) l n v := fun c o hc => by
  obtain ⟨z, z1, z2⟩ := h c o hc
  exact ⟨z, getE_mono σ z1, z2⟩
theorem cdO_N {ρ : List Int} {c o : Nat} (ho : o < 4096) {z : Int} {l : eSg} {n : Nat} {v : Nat → Int} (hz : ρ[c]? = some z) (h : ∀ j, o ≤ j → j < n → dcd j z = v j) : cdO ρ (cdN c o l) n v := fun c' o' hc => by
  rw [cdG_N ho] at hc
  cases hc
  exact ⟨z, hz, h⟩
theorem lfv_v1 {ρ : List Int} {w : Nat} {x : Int} (h : lfv ρ ([(w, 1)], 0) x) : ρ[w]? = some x := by
  have h' : lev ρ [(w, 1)] = some (x - 0) := h
  obtain ⟨y, z, h1, h2, h3⟩ := lev_cons h'
  cases h2
  have h1 : ρ[w]? = some y := h1
  rw [h1]
  congr 1
  dsimp only at h3
  omega
theorem lfv_v2 {ρ : List Int} {w : Nat} {x : Int} (h : ρ[w]? = some x) : lfv ρ ([(w, 1)], 0) x := by
  show lev ρ [(w, 1)] = some (x - 0)
  rw [lev_mk (q := (w, 1)) (x := x) (y := 0) h rfl]
  congr 1
  show 1 * x + 0 = x - 0
  omega
/-- the same number for other pieces of the same elements -/
def cdK (o sg : eSg) : eSg := match cdG o with
  | none => cdX sg
  | some c => cdN c.1 c.2 (cdX sg)
theorem cdK_at (o sg : eSg) (j : Nat) : sga (cdK o sg) j = sga sg j := by
  unfold cdK
  split
  · exact sga_cX sg j
  · rw [sga_cN]; exact sga_cX sg j
theorem cdK_ok {ρ : List Int} {o sg : eSg} {n : Nat} {v : Nat → Int} (hx : cdO ρ o n v) : cdO ρ (cdK o sg) n v := by
  unfold cdK
  split
  · exact cdO_X ρ sg n v
  · rename_i c hc
    obtain ⟨z, z1, z2⟩ := hx c.1 c.2 hc
    exact cdO_N (cdG_lt hc) z1 z2
def cok (ca : Nat → ClassId) (ρ : List Int) (α : List Nat) (c : eSC) (e : va_E) : Prop := match c with
  | .inl q => ∃ vs, e = .inr (q.1, vs) ∧ R2 (vok ρ α) q.2 vs
  | .inr (.inl q) => ∃ f : Nat → Int32, e = .inl (ca q.1, q.2.1, .inl f) ∧ (∀ j, j < q.2.1 → ∃ x, sga q.2.2 j = some x ∧ eli ρ x (f j)) ∧ cdO ρ q.2.2 q.2.1 (fun j => (f j).toInt)
  | .inr (.inr (.inl q)) => ∃ f : Nat → Int64, e = .inl (ca 2, q.1, .inr (.inl f)) ∧ (∀ j, j < q.1 → ∃ x, sga q.2 j = some x ∧ ell ρ x (f j)) ∧ cdO ρ q.2 q.1 (fun j => (f j).toInt)
  | .inr (.inr (.inr q)) => ∃ f : Nat → Option Nat, e = .inl (ca q.1, q.2.1, .inr (.inr (.inr (.inr f)))) ∧ ∀ j, j < q.2.1 → ∃ x, sga q.2.2 j = some x ∧ elr ρ α x (f j)
theorem cok_mono {ca : Nat → ClassId} {ρ : List Int} {α : List Nat} (σ : List Int) (β : List Nat) {c : eSC} {e : va_E} (h : cok ca ρ α c e) : cok ca (ρ ++ σ) (α ++ β) c e := by
  unfold cok at h ⊢
  split at h
  · obtain ⟨vs, h1, h2⟩ := h
    exact ⟨vs, h1, R2.imp (fun _ _ h => vok_mono σ β h) h2⟩
  · obtain ⟨f, h1, h2, h5⟩ := h
    exact ⟨f, h1, fun j hj => by obtain ⟨x, h3, h4⟩ := h2 j hj; exact ⟨x, h3, eli_mono σ h4⟩, cdO_mono σ h5⟩
  · obtain ⟨f, h1, h2, h5⟩ := h
    exact ⟨f, h1, fun j hj => by obtain ⟨x, h3, h4⟩ := h2 j hj; exact ⟨x, h3, ell_mono σ h4⟩, cdO_mono σ h5⟩
  · obtain ⟨f, h1, h2⟩ := h
    exact ⟨f, h1, fun j hj => by obtain ⟨x, h3, h4⟩ := h2 j hj; exact ⟨x, h3, elr_mono σ β h4⟩⟩
def lrel (ρ : List Int) (α : List Nat) (q : Nat × eSV) (w : Nat × Value) : Prop := q.1 = w.1 ∧ vok ρ α q.2 w.2
def hrel (ca : Nat → ClassId) (ρ : List Int) (α : List Nat) (q : Nat × eSC) (w : Nat × va_E) : Prop := α[q.1]? = some w.1 ∧ cok ca ρ α q.2 w.2
theorem lrel_mono {ρ : List Int} {α : List Nat} (σ : List Int) (β : List Nat) {q : Nat × eSV} {w : Nat × Value} (h : lrel ρ α q w) : lrel (ρ ++ σ) (α ++ β) q w := ⟨h.1, vok_mono σ β h.2⟩
theorem hrel_mono {ca : Nat → ClassId} {ρ : List Int} {α : List Nat} (σ : List Int) (β : List Nat) {q : Nat × eSC} {w : Nat × va_E} (h : hrel ca ρ α q w) : hrel ca (ρ ++ σ) (α ++ β) q w := ⟨getE_mono β h.1, cok_mono σ β h.2⟩
def hfd (i : Nat) (l : eHp) : Nat → Option (Nat × eSC) := @List.rec (Nat × eSC) (fun _ => Nat → Option (Nat × eSC)) (fun _ => none) (fun q _ ih k => bq (Nat.beq q.1 i) (some (k, q.2)) (ih (k + 1))) l
theorem hfd_ok {i : Nat} : ∀ {h : eHp} {k p : Nat} {c : eSC}, hfd i h k = some (p, c) → ∃ j, p = k + j ∧ h[j]? = some (i, c)
  | [], k, p, c, h => by cases h
  | q :: t, k, p, c, h => by
    have h' : @Bool.rec (fun _ => Option (Nat × eSC)) (hfd i t (k + 1)) (some (k, q.2)) (Nat.beq q.1 i) = some (p, c) := h
    clear h
    cases hb : Nat.beq q.1 i
    · rw [hb] at h'
      obtain ⟨j, h1, h2⟩ := hfd_ok (show hfd i t (k + 1) = some (p, c) from h')
      exact ⟨j + 1, by omega, by simpa using h2⟩
    · rw [hb] at h'
      have h : some (k, q.2) = some (p, c) := h'
      cases h
      have := Nat.eq_of_beq_eq_true hb
      exact ⟨0, rfl, by rw [← this]; rfl⟩
def isX (w : Cond) : Bool := match w with
  | .methodLinkNest .. => true
  | .arrayOver (.object _) => true
  | .declares _ => true
  | .castable .. => true
  | _ => false
def xtbl : List Cond := lw_tbl.filter isX
def XW (U : State) : Prop := ∀ w ∈ xtbl, w.before #[] U = true
theorem XW.warm {s U : State} (hW : s.WarmedH U.vm) (h : XW s) : XW U := by
  intro w hw
  have h1 := h w hw
  have h2 : isX w = true := (List.mem_filter.mp hw).2
  unfold isX at h2
  split at h2
  · exact va_Nw.warmM hW h1
  · exact va_AO.moved hW.alike h1
  · exact va_Nw.warmD hW h1
  · exact va_Nw.warmC hW h1
  · cases h2
theorem XW.same {u U : State} (hvm : u.vm = U.vm) (h : XW u) : XW U := by
  intro w hw
  have h1 := h w hw
  have h2 : isX w = true := (List.mem_filter.mp hw).2
  unfold isX at h2
  split at h2
  · exact va_Nw.same rfl hvm h1
  · exact va_AO.moved (by rw [hvm]; exact Vm.Alike.refl _) h1
  · exact va_Nw.same rfl hvm h1
  · exact va_Nw.same rfl hvm h1
  · cases h2
/-- the statics of whole numbers, as the start has them -/
def stZ : List (String × String × String × Int32) := [("java/lang/String", "COMPACT_STRINGS", "Z", 1), ("java/lang/StringUTF16", "$assertionsDisabled", "Z", 1), ("java/lang/StringUTF16", "HI_BYTE_SHIFT", "I", 0), ("java/lang/StringUTF16", "LO_BYTE_SHIFT", "I", 8)]
/-- the texts of the class's own constants, by their places -/
def stR : List (String × Nat × String) := [("DrownedRooms", 149, "no such room"), ("DrownedRooms", 174, "no such thing of a room"), ("DrownedRooms", 179, "no such guest"), ("DrownedRooms", 199, "no such thing of a guest")]
def ZW0 (A : Nat → Prop) (U : State) (H : Heap) : Prop := (∀ z ∈ stZ, va_Z z.1 z.2.1 z.2.2.1 (.int z.2.2.2) A U H) ∧ (vx_Zq Bundle.tN "UNASSIGNED_STACK" Bundle.steD A U H ∧ vx_Zq Bundle.tN "SUPPRESSED_SENTINEL" Bundle.listD A U H) ∧ ∀ r ∈ stR, ∃ a, vk_R r.1 r.2.1 r.2.2 a U
theorem ZW0.warm {A : Nat → Prop} {s U : State} {H : Heap} (hW : s.WarmedH U.vm) (h : ZW0 A s H) : ZW0 A U H := ⟨fun z hz => va_Z.moved hW.alike (h.1 z hz), ⟨vx_Zq.moved hW.alike h.2.1.1, vx_Zq.moved hW.alike h.2.1.2⟩, fun r hr => by
  obtain ⟨a, ha⟩ := h.2.2 r hr
  exact ⟨a, vk_R.warm hW ha⟩⟩
theorem ZW0.same {A : Nat → Prop} {u U : State} {H : Heap} (hvm : u.vm = U.vm) (h : ZW0 A u H) : ZW0 A U H := by
  have e : u.vm.Alike U.vm := by rw [hvm]; exact Vm.Alike.refl _
  refine ⟨fun z hz => va_Z.moved e (h.1 z hz), ⟨vx_Zq.moved e h.2.1.1, vx_Zq.moved e h.2.1.2⟩, fun r hr => ?_⟩
  obtain ⟨a, ha⟩ := h.2.2 r hr
  exact ⟨a, vk_R.same hvm.symm ha⟩
theorem ZW0.kept {A : Nat → Prop} {U : State} {H H1 : Heap} (h : ZW0 A U H) (hq : ∀ a : Nat, a < H.size → ¬ A a → H1[a]? = H[a]?) : ZW0 A U H1 := ⟨fun z hz => (h.1 z hz).kept hq, ⟨h.2.1.1.kept hq, h.2.1.2.kept hq⟩, h.2.2⟩
theorem ZW0.narrow {A B : Nat → Prop} {U : State} {H : Heap} (h : ZW0 A U H) (hAB : ∀ q, B q → A q) : ZW0 B U H := ⟨fun z hz => (h.1 z hz).narrow hAB, ⟨h.2.1.1.narrow hAB, h.2.1.2.narrow hAB⟩, h.2.2⟩
/-- the Strings that the class loads, the bytes of each, the digits' tables -/
def stS : List (String × Nat × String) := [("DrownedRooms$Tape", 81, "lake rain mill storm house room guest quarrel sleeps takes leaves wheel day or and not wet let in has foot price depth number "), ("DrownedRooms", 321, " ashore"), ("DrownedRooms", 327, " in "), ("DrownedRooms", 329, " for "), ("DrownedRooms", 334, " owns ")]
def stB : List (List Int) := [[108, 97, 107, 101, 32, 114, 97, 105, 110, 32, 109, 105, 108, 108, 32, 115, 116, 111, 114, 109, 32, 104, 111, 117, 115, 101, 32, 114, 111, 111, 109, 32, 103, 117, 101, 115, 116, 32, 113, 117, 97, 114, 114, 101, 108, 32, 115, 108, 101, 101, 112, 115, 32, 116, 97, 107, 101, 115, 32, 108, 101, 97, 118, 101, 115, 32, 119, 104, 101, 101, 108, 32, 100, 97, 121, 32, 111, 114, 32, 97, 110, 100, 32, 110, 111, 116, 32, 119, 101, 116, 32, 108, 101, 116, 32, 105, 110, 32, 104, 97, 115, 32, 102, 111, 111, 116, 32, 112, 114, 105, 99, 101, 32, 100, 101, 112, 116, 104, 32, 110, 117, 109, 98, 101, 114, 32], [32, 97, 115, 104, 111, 114, 101], [32, 105, 110, 32], [32, 102, 111, 114, 32], [32, 111, 119, 110, 115, 32], [48, 49, 50, 51, 52, 53, 54, 55, 56, 57, 48, 49, 50, 51, 52, 53, 54, 55, 56, 57, 48, 49, 50, 51, 52, 53, 54, 55, 56, 57, 48, 49, 50, 51, 52, 53, 54, 55, 56, 57, 48, 49, 50, 51, 52, 53, 54, 55, 56, 57, 48, 49, 50, 51, 52, 53, 54, 55, 56, 57, 48, 49, 50, 51, 52, 53, 54, 55, 56, 57, 48, 49, 50, 51, 52, 53, 54, 55, 56, 57, 48, 49, 50, 51, 52, 53, 54, 55, 56, 57, 48, 49, 50, 51, 52, 53, 54, 55, 56, 57], [48, 48, 48, 48, 48, 48, 48, 48, 48, 48, 49, 49, 49, 49, 49, 49, 49, 49, 49, 49, 50, 50, 50, 50, 50, 50, 50, 50, 50, 50, 51, 51, 51, 51, 51, 51, 51, 51, 51, 51, 52, 52, 52, 52, 52, 52, 52, 52, 52, 52, 53, 53, 53, 53, 53, 53, 53, 53, 53, 53, 54, 54, 54, 54, 54, 54, 54, 54, 54, 54, 55, 55, 55, 55, 55, 55, 55, 55, 55, 55, 56, 56, 56, 56, 56, 56, 56, 56, 56, 56, 57, 57, 57, 57, 57, 57, 57, 57, 57, 57]]
def pcN : String := "jdk/internal/util/Preconditions"
def bfD : String := "Ljava/util/function/BiFunction;"
def SC (ca : Nat → ClassId) (A : Nat → Prop) (U : State) (H : Heap) : Prop :=
  (∀ (k : Nat) (r : String × Nat × String), stS[k]? = some r → vk_R r.1 r.2.1 r.2.2 (ca (100 + k)) U ∧ va_O "java/lang/String" (ca (100 + k)) A U H ∧ va_OF "java/lang/String" "coder" "B" (.int 0) (ca (100 + k)) A U H ∧ va_OF "java/lang/String" "value" "[B" (.ref (ca (105 + k))) (ca (100 + k)) A U H) ∧
  (∀ (k : Nat) (b : List Int), stB[k]? = some b → va_T .byte (ca (105 + k)) b.length (fun j => .int (Int32.ofInt (b.getD j 0))) A U H) ∧
  (va_Z "java/lang/Integer" "DigitOnes" "[B" (.ref (ca 110)) A U H ∧ va_Z "java/lang/Integer" "DigitTens" "[B" (.ref (ca 111)) A U H) ∧ (va_Z pcN "SIOOBE_FORMATTER" bfD .null A U H ∨ va_Z pcN "SIOOBE_FORMATTER" bfD (.ref (ca 112)) A U H)
theorem SC.warm {ca : Nat → ClassId} {A : Nat → Prop} {s U : State} {H : Heap} (hW : s.WarmedH U.vm) (h : SC ca A s H) : SC ca A U H :=
  ⟨fun k r hr => ⟨vk_R.warm hW (h.1 k r hr).1, va_O.moved hW.alike (h.1 k r hr).2.1, va_OF.moved hW.alike (h.1 k r hr).2.2.1, va_OF.moved hW.alike (h.1 k r hr).2.2.2⟩, fun k b hb => va_T.moved hW.alike (h.2.1 k b hb), ⟨va_Z.moved hW.alike h.2.2.1.1, va_Z.moved hW.alike h.2.2.1.2⟩, h.2.2.2.elim (fun z => Or.inl (va_Z.moved hW.alike z)) (fun z => Or.inr (va_Z.moved hW.alike z))⟩
theorem SC.same {ca : Nat → ClassId} {A : Nat → Prop} {u U : State} {H : Heap} (hvm : u.vm = U.vm) (h : SC ca A u H) : SC ca A U H := by
  have e : u.vm.Alike U.vm := by rw [hvm]; exact Vm.Alike.refl _
  exact ⟨fun k r hr => ⟨vk_R.same hvm.symm (h.1 k r hr).1, va_O.moved e (h.1 k r hr).2.1, va_OF.moved e (h.1 k r hr).2.2.1, va_OF.moved e (h.1 k r hr).2.2.2⟩, fun k b hb => va_T.moved e (h.2.1 k b hb), ⟨va_Z.moved e h.2.2.1.1, va_Z.moved e h.2.2.1.2⟩, h.2.2.2.elim (fun z => Or.inl (va_Z.moved e z)) (fun z => Or.inr (va_Z.moved e z))⟩
theorem SC.kept {ca : Nat → ClassId} {A : Nat → Prop} {U : State} {H H1 : Heap} (h : SC ca A U H) (hq : ∀ a : Nat, a < H.size → ¬ A a → H1[a]? = H[a]?) : SC ca A U H1 :=
  ⟨fun k r hr => ⟨(h.1 k r hr).1, (h.1 k r hr).2.1.kept hq, (h.1 k r hr).2.2.1.kept hq, (h.1 k r hr).2.2.2.kept hq⟩, fun k b hb => (h.2.1 k b hb).kept hq, ⟨h.2.2.1.1.kept hq, h.2.2.1.2.kept hq⟩, h.2.2.2.elim (fun z => Or.inl (z.kept hq)) (fun z => Or.inr (z.kept hq))⟩
theorem SC.narrow {ca : Nat → ClassId} {A B : Nat → Prop} {U : State} {H : Heap} (h : SC ca A U H) (hAB : ∀ q, B q → A q) : SC ca B U H :=
  ⟨fun k r hr => ⟨(h.1 k r hr).1, (h.1 k r hr).2.1.narrow hAB, (h.1 k r hr).2.2.1.narrow hAB, (h.1 k r hr).2.2.2.narrow hAB⟩, fun k b hb => (h.2.1 k b hb).narrow hAB, ⟨h.2.2.1.1.narrow hAB, h.2.2.1.2.narrow hAB⟩, h.2.2.2.elim (fun z => Or.inl (z.narrow hAB)) (fun z => Or.inr (z.narrow hAB))⟩
def ZW (ca : Nat → ClassId) (A : Nat → Prop) (U : State) (H : Heap) : Prop := ZW0 A U H ∧ SC ca A U H
theorem ZW.warm {ca : Nat → ClassId} {A : Nat → Prop} {s U : State} {H : Heap} (hW : s.WarmedH U.vm) (h : ZW ca A s H) : ZW ca A U H := ⟨h.1.warm hW, h.2.warm hW⟩
theorem ZW.same {ca : Nat → ClassId} {A : Nat → Prop} {u U : State} {H : Heap} (hvm : u.vm = U.vm) (h : ZW ca A u H) : ZW ca A U H := ⟨h.1.same hvm, h.2.same hvm⟩
theorem ZW.kept {ca : Nat → ClassId} {A : Nat → Prop} {U : State} {H H1 : Heap} (h : ZW ca A U H) (hq : ∀ a : Nat, a < H.size → ¬ A a → H1[a]? = H[a]?) : ZW ca A U H1 := ⟨h.1.kept hq, h.2.kept hq⟩
theorem ZW.narrow {ca : Nat → ClassId} {A B : Nat → Prop} {U : State} {H : Heap} (h : ZW ca A U H) (hAB : ∀ q, B q → A q) : ZW ca B U H := ⟨h.1.narrow hAB, h.2.narrow hAB⟩
/-- the first addresses are the constants' -/
def cpx (ca : Nat → ClassId) (α : List Nat) : Prop := ∀ k, k < 13 → α[k]? = some (ca (100 + k))
/-- facts: the numbers that some forms have lie in one of some boxes -/
abbrev eBx : Type := List (List (Int × Int)) ⊕ Nat
def bxG (b : eBx) : List (List (Int × Int)) := match b with
  | .inl l => l
  | .inr n => bxT n
abbrev eFa : Type := eBx × List eLF
abbrev eNa : Type := Nat × List eFa
/-- a tag: what is said is no box -/
def tgd (b : eBx) : Bool := match b with
  | .inl _ => false
  | .inr n => Nat.ble 1000000 n
def bxS (b : eBx) (xs : List Int) : Prop := (tgd b = false ∧ ∃ c ∈ bxG b, R2 ivr c xs) ∨ ∃ t, b = .inr (1000000 + t) ∧ PR t xs
theorem bxS_t {t : Nat} {xs : List Int} : bxS (.inr (1000000 + t)) xs ↔ PR t xs := by
  constructor
  · rintro (⟨h, _⟩ | ⟨t', h, hp⟩)
    · have : Nat.ble 1000000 (1000000 + t) = true := Nat.ble_eq_true_of_le (by omega)
      unfold tgd at h
      dsimp only at h
      rw [this] at h
      cases h
    · have e := Sum.inr.inj h
      have e2 : t = t' := by omega
      rw [e2]
      exact hp
  · exact fun h => Or.inr ⟨t, rfl, h⟩
theorem bxS_b {b : eBx} {xs : List Int} (h : tgd b = false) : bxS b xs ↔ ∃ c ∈ bxG b, R2 ivr c xs := by
  constructor
  · rintro (⟨_, h2⟩ | ⟨t', h2, _⟩)
    · exact h2
    · have : Nat.ble 1000000 (1000000 + t') = true := Nat.ble_eq_true_of_le (by omega)
      rw [h2] at h
      unfold tgd at h
      dsimp only at h
      rw [this] at h
      cases h
  · exact fun h2 => Or.inl ⟨h, h2⟩
def bxOk (ρ : List Int) (F : eFa) : Prop := ∃ xs, R2 (lfv ρ) F.2 xs ∧ bxS F.1 xs
def fOk (ρ : List Int) (fs : List eFa) : Prop := ∀ F ∈ fs, bxOk ρ F
theorem fOk_mono {ρ : List Int} (σ : List Int) {fs : List eFa} (h : fOk ρ fs) : fOk (ρ ++ σ) fs := fun F hF => by
  obtain ⟨xs, h1, h2⟩ := h F hF
  exact ⟨xs, R2.imp (fun _ _ z => lfv_mono σ z) h1, h2⟩
/-- facts put behind -/
def adF (na : eNa) (fs : List eFa) : eNa := match fs with
  | [] => na
  | f :: t => (na.1, na.2 ++ f :: t)
def nOk (na : eNa) (ρ : List Int) (α : List Nat) : Prop := α.length = na.1 ∧ fOk ρ na.2
def eRep (s : State) (D : va_G) (ca : Nat → ClassId) (A : Nat → Prop) (nL : Nat) (r0 : List Int) (a0 : List Nat) (env : eEv) (lo : List (Nat × eSV)) (st : List eSV) (hp : eHp) (na : eNa) (ρ : List Int) (α : List Nat) (ls : Array Slot) (lvl : List (Nat × Value)) (stk : List Value) (ws : va_W) (H : Heap) (locs : List Loc) : Prop :=
  eOk env ρ ∧ (nOk na ρ α ∧ r0 <+: ρ ∧ a0 <+: α) ∧ lv_has ls nL lvl ∧ R2 (lrel ρ α) lo lvl ∧ R2 (vok ρ α) st stk ∧ R2 (hrel ca ρ α) hp ws ∧ va_P D vwCl ws H ∧ va_D A ws ∧ va_S A s.heap H locs
def eG (p : Program) (l : Launch) (e : Env) (R : Room) (s : State) (m : MethodId) (args : Array Value) (below : List Frame) (meth : Method) (c : Code) (Q : State → Prop) (D : va_G) (ca : Nat → ClassId) (A : Nat → Prop) (nL cb sb : Nat) (r0 : List Int) (a0 : List Nat) (env : eEv) (lo : List (Nat × eSV)) (st : List eSV) (hp : eHp) (na : eNa) (nc ns pc : Nat) : Prop :=
  ∀ (ρ : List Int) (α : List Nat) (ls : Array Slot) (lvl : List (Nat × Value)) (stk : List Value) (ws : va_W) (H : Heap) (locs : List Loc), eRep s D ca A nL r0 a0 env lo st hp na ρ α ls lvl stk ws H locs →
    W p l e R s m args below meth c H locs (cb + nc) (sb + ns) Q (F0 m pc ls stk)
def eCx (p : Program) (R : Room) (s : State) (m : MethodId) (args : Array Value) (c : Code) (D : va_G) (ca : Nat → ClassId) (A : Nat → Prop) (nL : Nat) (own : String) (cc : ByteArray) (a0 : List Nat) : Prop :=
  p.tables.exec = Jvm.exec ∧ c.code = cc ∧ c.maxLocals = nL ∧ s.vm.findClass own = some m.cls ∧ (∀ w ∈ gtbl, w.before args s = true) ∧ va_K D vwCl (tys0 ca) s ∧ XW s ∧ (∀ q : Nat, s.heap.size ≤ q → A q) ∧ 1 ≤ R.frames ∧ 60 ≤ R.locals ∧ ZW ca A s s.heap ∧ cpx ca a0
section
variable {p : Program} {l : Launch} {e : Env} {R : Room} {s : State} {m : MethodId} {args : Array Value} {below : List Frame} {meth : Method} {c : Code} {Q : State → Prop} {D : va_G} {ca : Nat → ClassId} {A : Nat → Prop} {nL cb sb : Nat} {r0 : List Int} {a0 : List Nat} {own : String} {cc : ByteArray} {env : eEv} {lo : List (Nat × eSV)} {st : List eSV} {hp : eHp} {na : eNa} {nc ns pc : Nat}
variable {ρ : List Int} {α : List Nat} {ls : Array Slot} {lvl : List (Nat × Value)} {stk : List Value} {ws : va_W} {H : Heap} {locs : List Loc} {v : eSV} {w : Value}
theorem rep_push (h : eRep s D ca A nL r0 a0 env lo st hp na ρ α ls lvl stk ws H locs) (hv : vok ρ α v w) : eRep s D ca A nL r0 a0 env lo (v :: st) hp na ρ α ls lvl (w :: stk) ws H locs := by
  obtain ⟨h1, h2, h3, h4, h5, h6⟩ := h
  exact ⟨h1, h2, h3, h4, ⟨hv, h5⟩, h6⟩
theorem rep_pop (h : eRep s D ca A nL r0 a0 env lo (v :: st) hp na ρ α ls lvl stk ws H locs) : ∃ w stk', stk = w :: stk' ∧ vok ρ α v w ∧ eRep s D ca A nL r0 a0 env lo st hp na ρ α ls lvl stk' ws H locs := by
  obtain ⟨h1, h2, h3, h4, h5, h6⟩ := h
  obtain ⟨w, stk', rfl, h7, h8⟩ := R2.cons_inv h5
  exact ⟨w, stk', rfl, h7, h1, h2, h3, h4, h8, h6⟩
theorem rep_popI {f : eLF} (h : eRep s D ca A nL r0 a0 env lo (.inl f :: st) hp na ρ α ls lvl stk ws H locs) : ∃ x stk', stk = .int (Int32.ofInt x) :: stk' ∧ lfv ρ f x ∧ eRep s D ca A nL r0 a0 env lo st hp na ρ α ls lvl stk' ws H locs := by
  obtain ⟨w, stk', rfl, ⟨x, h1, rfl⟩, h2⟩ := rep_pop h
  exact ⟨x, stk', rfl, h1, h2⟩
theorem rep_popL {f : eLF} (h : eRep s D ca A nL r0 a0 env lo (.inr (.inl f) :: st) hp na ρ α ls lvl stk ws H locs) : ∃ x stk', stk = .long (Int64.ofInt x) :: stk' ∧ lfv ρ f x ∧ eRep s D ca A nL r0 a0 env lo st hp na ρ α ls lvl stk' ws H locs := by
  obtain ⟨w, stk', rfl, ⟨x, h1, rfl⟩, h2⟩ := rep_pop h
  exact ⟨x, stk', rfl, h1, h2⟩
theorem rep_popR {i : Nat} (h : eRep s D ca A nL r0 a0 env lo (.inr (.inr (some i)) :: st) hp na ρ α ls lvl stk ws H locs) : ∃ a stk', stk = .ref a :: stk' ∧ α[i]? = some a ∧ eRep s D ca A nL r0 a0 env lo st hp na ρ α ls lvl stk' ws H locs := by
  obtain ⟨w, stk', rfl, ⟨x, h1, rfl⟩, h2⟩ := rep_pop h
  exact ⟨x, stk', rfl, h1, h2⟩
theorem rep_env {env' : eEv} {σ : List Int} (h : eRep s D ca A nL r0 a0 env lo st hp na ρ α ls lvl stk ws H locs) (h' : eOk env' (ρ ++ σ)) : eRep s D ca A nL r0 a0 env' lo st hp na (ρ ++ σ) α ls lvl stk ws H locs := by
  obtain ⟨h1, h2, h3, h4, h5, h6, h7⟩ := h
  refine ⟨h', ⟨⟨h2.1.1, fOk_mono σ h2.1.2⟩, h2.2.1.trans (List.prefix_append ρ σ), h2.2.2⟩, h3, R2.imp (fun _ _ h => ?_) h4, R2.imp (fun _ _ h => ?_) h5, R2.imp (fun _ _ h => ?_) h6, h7⟩
  · have := lrel_mono σ [] h; rwa [List.append_nil] at this
  · have := vok_mono σ [] h; rwa [List.append_nil] at this
  · have := hrel_mono (ca := ca) σ [] h; rwa [List.append_nil] at this
theorem rep_addFs {fs : List eFa} (h : eRep s D ca A nL r0 a0 env lo st hp na ρ α ls lvl stk ws H locs) (hF : fOk ρ fs) : eRep s D ca A nL r0 a0 env lo st hp (adF na fs) ρ α ls lvl stk ws H locs := by
  obtain ⟨h1, h2, h3⟩ := h
  unfold adF
  split
  · exact ⟨h1, h2, h3⟩
  · refine ⟨h1, ⟨⟨h2.1.1, fun G hG => ?_⟩, h2.2⟩, h3⟩
    rcases List.mem_append.mp hG with z | z
    · exact h2.1.2 G z
    · exact hF G z
theorem eOk_new {E : eEv} {ρ : List Int} (hE : eOk E ρ) (z : Int) : eOk (Nat.add E.1 1, dcat E.2 (Nat.mul 2 E.1) 0) (ρ ++ [z]) :=
  eOk_cat (σ := [z]) hE (fun k x _ => ⟨Or.inr (by rw [dg_eq, Nat.zero_div, Nat.zero_mod]), Or.inr (by rw [dg_eq, Nat.zero_div, Nat.zero_mod])⟩)
theorem new_get {E : eEv} {ρ : List Int} (hE : eOk E ρ) (z : Int) : (ρ ++ [z])[E.1]? = some z := by
  rw [← hE.1, List.getElem?_append_right (Nat.le_refl _), Nat.sub_self]
  rfl
theorem rep_env0 {env' : eEv} (h : eRep s D ca A nL r0 a0 env lo st hp na ρ α ls lvl stk ws H locs) (h' : eOk env' ρ) : eRep s D ca A nL r0 a0 env' lo st hp na ρ α ls lvl stk ws H locs := by
  obtain ⟨h1, h2⟩ := h
  exact ⟨h', h2⟩
theorem rep_cell {i k : Nat} {cl : eSC} {a : Nat} (h : eRep s D ca A nL r0 a0 env lo st hp na ρ α ls lvl stk ws H locs) (hf : hfd i hp 0 = some (k, cl)) (ha : α[i]? = some a) : ∃ x, ws[k]? = some (a, x) ∧ cok ca ρ α cl x := by
  obtain ⟨h1, h2, h3, h4, h5, h6, h7⟩ := h
  obtain ⟨j, e1, e2⟩ := hfd_ok hf
  rw [Nat.zero_add] at e1
  subst e1
  obtain ⟨w, g1, g2, g3⟩ := R2.get h6 e2
  rw [ha] at g2
  cases g2
  exact ⟨w.2, g1, g3⟩
theorem rep_set {i k : Nat} {cl cl' : eSC} {a : Nat} {x' : va_E} {H1 : Heap} {locs1 : List Loc} (h : eRep s D ca A nL r0 a0 env lo st hp na ρ α ls lvl stk ws H locs) (hf : hfd i hp 0 = some (k, cl)) (ha : α[i]? = some a) (hc : cok ca ρ α cl' x')
    (hP : va_P D vwCl (ws.set k (a, x')) H1) (hD : va_D A (ws.set k (a, x'))) (hS : va_S A s.heap H1 locs1) : eRep s D ca A nL r0 a0 env lo st (hp.set k (i, cl')) na ρ α ls lvl stk (ws.set k (a, x')) H1 locs1 := by
  obtain ⟨h1, h2, h3, h4, h5, h6, h7⟩ := h
  exact ⟨h1, h2, h3, h4, h5, R2.set (a := (i, cl')) (b := (a, x')) ⟨ha, hc⟩ h6 k, hP, hD, hS⟩
end
end
