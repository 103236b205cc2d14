/-! templates: their numbers and cells, said in another state's words -/
def ieq (a b : Int) : Bool := match a, b with
  | Int.ofNat m, Int.ofNat n => Nat.beq m n
  | Int.negSucc m, Int.negSucc n => Nat.beq m n
  | _, _ => false
theorem ieq_t {a b : Int} (h : ieq a b = true) : a = b := by
  unfold ieq at h
  split at h
  · rw [Nat.eq_of_beq_eq_true h]
  · rw [Nat.eq_of_beq_eq_true h]
  · cases h
def lbeq : List (Nat × Int) → List (Nat × Int) → Bool
  | [], [] => true
  | p :: a, q :: b => Nat.beq p.1 q.1 && ieq p.2 q.2 && lbeq a b
  | _, _ => false
theorem lbeq_t : ∀ {a b : List (Nat × Int)}, lbeq a b = true → a = b
  | [], [], _ => rfl
  | [], _ :: _, h => by cases h
  | _ :: _, [], h => by cases h
  | p :: a, q :: b, h => by
    unfold lbeq at h
    rw [Bool.and_eq_true, Bool.and_eq_true] at h
    rw [lbeq_t h.2]
    have e1 := Nat.eq_of_beq_eq_true h.1.1
    have e2 := ieq_t h.1.2
    have : p = q := Prod.ext e1 e2
    rw [this]
def fbeq (f g : eLF) : Bool := ieq f.2 g.2 && lbeq f.1 g.1
theorem fbeq_t {f g : eLF} (h : fbeq f g = true) : f = g := by
  unfold fbeq at h
  rw [Bool.and_eq_true] at h
  exact Prod.ext (lbeq_t h.2) (ieq_t h.1)
def veq (v w : eSV) : Bool := match v, w with
  | .inl f, .inl g => fbeq f g
  | .inr (.inl f), .inr (.inl g) => fbeq f g
  | .inr (.inr (some i)), .inr (.inr (some j)) => Nat.beq i j
  | .inr (.inr none), .inr (.inr none) => true
  | _, _ => false
theorem veq_t {v w : eSV} (h : veq v w = true) : v = w := by
  unfold veq at h
  split at h
  · rw [fbeq_t h]
  · rw [fbeq_t h]
  · rw [Nat.eq_of_beq_eq_true h]
  · rfl
  · cases h
def sbl (τ : List eLF) : List (Nat × Int) → Option eLF
  | [] => some ([], 0)
  | q :: t => match τ[q.1]?, sbl τ t with
    | some f, some g => some (fadd (fsc q.2 f) g)
    | _, _ => none
def sbf (τ : List eLF) (f : eLF) : Option eLF := match sbl τ f.1 with
  | some g => some (fpl g f.2)
  | none => none
abbrev tOk (ρ : List Int) (τ : List eLF) (ρT : List Int) : Prop := R2 (lfv ρ) τ ρT
abbrev aOk (α : List Nat) (θ : List Nat) (αT : List Nat) : Prop := R2 (fun (i a : Nat) => α[i]? = some a) θ αT
theorem sbl_ok {ρ ρT : List Int} {τ : List eLF} (h : tOk ρ τ ρT) : ∀ {t : List (Nat × Int)} {g : eLF}, sbl τ t = some g → ∃ y, lev ρT t = some y ∧ lfv ρ g y
  | [], g, hg => by cases hg; exact ⟨0, rfl, fc_ok 0⟩
  | q :: t, g, hg => by
    unfold sbl at hg
    split at hg
    · rename_i f g' h1 h2
      cases hg
      obtain ⟨x, e1, h3⟩ := R2.get h h1
      obtain ⟨y, e2, h4⟩ := sbl_ok h h2
      exact ⟨q.2 * x + y, lev_mk e1 e2, fadd_ok (fsc_ok h3) h4⟩
    · cases hg
theorem sbf_ok {ρ ρT : List Int} {τ : List eLF} (h : tOk ρ τ ρT) {f g : eLF} (hg : sbf τ f = some g) : ∃ x, lfv ρT f x ∧ lfv ρ g x := by
  unfold sbf at hg
  split at hg
  · rename_i g' h1
    cases hg
    obtain ⟨y, e1, e2⟩ := sbl_ok h h1
    refine ⟨y + f.2, ?_, fpl_ok f.2 e2⟩
    unfold lfv
    rw [e1]
    congr 1
    omega
  · cases hg
def sbv (τ : List eLF) (θ : List Nat) (v : eSV) : Option eSV := match v with
  | .inl f => (match sbf τ f with
    | some g => some (.inl g)
    | none => none)
  | .inr (.inl f) => (match sbf τ f with
    | some g => some (.inr (.inl g))
    | none => none)
  | .inr (.inr (some i)) => (match θ[i]? with
    | some j => some (.inr (.inr (some j)))
    | none => none)
  | .inr (.inr none) => some (.inr (.inr none))
theorem sbv_ok {ρ ρT : List Int} {α αT : List Nat} {τ : List eLF} {θ : List Nat} (h : tOk ρ τ ρT) (ha : aOk α θ αT) {v w : eSV} (hv : sbv τ θ v = some w) {x : Value} : vok ρT αT v x ↔ vok ρ α w x := by
  unfold sbv at hv
  split at hv
  · split at hv
    · rename_i g hg
      cases hv
      obtain ⟨y, h1, h2⟩ := sbf_ok h hg
      constructor
      · rintro ⟨z, h3, rfl⟩
        rw [lfv_fun h3 h1]
        exact ⟨y, h2, rfl⟩
      · rintro ⟨z, h3, rfl⟩
        rw [lfv_fun h3 h2]
        exact ⟨y, h1, rfl⟩
    · cases hv
  · split at hv
    · rename_i g hg
      cases hv
      obtain ⟨y, h1, h2⟩ := sbf_ok h hg
      constructor
      · rintro ⟨z, h3, rfl⟩
        rw [lfv_fun h3 h1]
        exact ⟨y, h2, rfl⟩
      · rintro ⟨z, h3, rfl⟩
        rw [lfv_fun h3 h2]
        exact ⟨y, h1, rfl⟩
    · cases hv
  · split at hv
    · rename_i j hj
      cases hv
      obtain ⟨a, e1, h1⟩ := R2.get ha hj
      constructor
      · rintro ⟨b, h3, rfl⟩
        rw [e1] at h3
        cases h3
        exact ⟨a, h1, rfl⟩
      · rintro ⟨b, h3, rfl⟩
        rw [h1] at h3
        cases h3
        exact ⟨a, e1, rfl⟩
    · cases hv
  · cases hv
    exact Iff.rfl
/-- is v what the template's tv says? -/
def vmt (τ : List eLF) (θ : List Nat) (v tv : eSV) : Bool := match sbv τ θ tv with
  | some w => veq v w
  | none => false
theorem vmt_ok {ρ ρT : List Int} {α αT : List Nat} {τ : List eLF} {θ : List Nat} (h : tOk ρ τ ρT) (ha : aOk α θ αT) {v tv : eSV} {x : Value} (hv : vmt τ θ v tv = true) (hx : vok ρ α v x) : vok ρT αT tv x := by
  unfold vmt at hv
  split at hv
  · rename_i w hw
    rw [veq_t hv] at hx
    exact (sbv_ok h ha hw).mpr hx
  · cases hv
def vsmt (τ : List eLF) (θ : List Nat) : List eSV → List eSV → Bool
  | [], [] => true
  | v :: a, w :: b => vmt τ θ v w && vsmt τ θ a b
  | _, _ => false
theorem vsmt_ok {ρ ρT : List Int} {α αT : List Nat} {τ : List eLF} {θ : List Nat} (h : tOk ρ τ ρT) (ha : aOk α θ αT) : ∀ {a b : List eSV} {xs : List Value}, vsmt τ θ a b = true → R2 (vok ρ α) a xs → R2 (vok ρT αT) b xs
  | [], [], _, _, hx => by rw [R2.nil_inv hx]; trivial
  | [], _ :: _, _, hm, _ => by cases hm
  | _ :: _, [], _, hm, _ => by cases hm
  | v :: a, w :: b, xs, hm, hx => by
    unfold vsmt at hm
    rw [Bool.and_eq_true] at hm
    obtain ⟨y, ys, rfl, h1, h2⟩ := R2.cons_inv hx
    exact ⟨vmt_ok h ha hm.1 h1, vsmt_ok h ha hm.2 h2⟩
/-- pieces of arrays -/
def elhL (env : eEv) (e : eEl) : Option (Int × Int) := match e with
  | .inl i => some i
  | .inr (.inr (.inl f)) => jrg env f
  | _ => none
def ivin (i j : Int × Int) : Bool := ile j.1 i.1 && ile i.2 j.2
theorem ivin_ok {i j : Int × Int} {x : Int} (h : ivin i j = true) (hx : ivr i x) : ivr j x := by
  unfold ivin at h
  rw [Bool.and_eq_true] at h
  exact ⟨Int.le_trans (ile_t h.1) hx.1, Int.le_trans hx.2 (ile_t h.2)⟩
def emt (lg : Bool) (env : eEv) (τ : List eLF) (θ : List Nat) (e te : eEl) : Bool := match te with
  | .inl j => (match (bif lg then elhL env e else elh env e) with
    | some i => ivin i j
    | none => false)
  | .inr tv => (match e with
    | .inr v => vmt τ θ v tv
    | _ => false)
theorem emt_i {env : eEv} {ρ ρT : List Int} {α αT : List Nat} {τ : List eLF} {θ : List Nat} (hE : eOk env ρ) (h : tOk ρ τ ρT) (ha : aOk α θ αT) {e te : eEl} {x : Int32} (hm : emt false env τ θ e te = true) (hx : eli ρ e x) : eli ρT te x := by
  unfold emt at hm
  split at hm
  · split at hm
    · rename_i i hi
      exact ivin_ok hm (elh_ok hE hi hx)
    · cases hm
  · split at hm
    · rename_i tv v
      have h1 : vok ρ α v (.int x) := by
        unfold eli at hx
        split at hx
        · rename_i _ _ he; cases he
        · rename_i f he
          cases he
          obtain ⟨y, h2, h3⟩ := hx
          exact ⟨y, h2, by rw [h3]⟩
        · exact hx.elim
      have h2 := vmt_ok h ha hm h1
      unfold vok at h2
      split at h2
      · obtain ⟨y, h3, h4⟩ := h2
        cases h4
        exact ⟨y, h3, rfl⟩
      · obtain ⟨y, h3, h4⟩ := h2; cases h4
      · obtain ⟨y, h3, h4⟩ := h2; cases h4
      · cases h2
    · cases hm
theorem emt_l {env : eEv} {ρ ρT : List Int} {α αT : List Nat} {τ : List eLF} {θ : List Nat} (hE : eOk env ρ) (h : tOk ρ τ ρT) (ha : aOk α θ αT) {e te : eEl} {x : Int64} (hm : emt true env τ θ e te = true) (hx : ell ρ e x) : ell ρT te x := by
  unfold emt at hm
  split at hm
  · split at hm
    · rename_i i hi
      refine ivin_ok hm ?_
      have hi : elhL env e = some i := hi
      unfold elhL at hi
      unfold ell at hx
      split at hi
      · cases hi; exact hx
      · obtain ⟨y, h1, rfl⟩ := hx; exact jrg_ivr hE hi h1
      · cases hi
    · cases hm
  · split at hm
    · rename_i tv v
      have h1 : vok ρ α v (.long x) := by
        unfold ell at hx
        split at hx
        · rename_i _ _ he; cases he
        · rename_i f he
          cases he
          obtain ⟨y, h2, h3⟩ := hx
          exact ⟨y, h2, by rw [h3]⟩
        · exact hx.elim
      have h2 := vmt_ok h ha hm h1
      unfold vok at h2
      split at h2
      · obtain ⟨y, h3, h4⟩ := h2; cases h4
      · obtain ⟨y, h3, h4⟩ := h2
        cases h4
        exact ⟨y, h3, rfl⟩
      · obtain ⟨y, h3, h4⟩ := h2; cases h4
      · cases h2
    · cases hm
theorem emt_r {lg : Bool} {env : eEv} {ρ ρT : List Int} {α αT : List Nat} {τ : List eLF} {θ : List Nat} (h : tOk ρ τ ρT) (ha : aOk α θ αT) {e te : eEl} {r : Option Nat} (hm : emt lg env τ θ e te = true) (hx : elr ρ α e r) (hne : ∀ j, te ≠ .inl j) : elr ρT αT te r := by
  unfold emt at hm
  split at hm
  · exact absurd rfl (hne _)
  · split at hm
    · exact vmt_ok h ha hm hx
    · cases hm
def sgle (lg : Bool) (env : eEv) (τ : List eLF) (θ : List Nat) : Nat → eSg → eSg → Bool
  | 0, _, _ => false
  | _ + 1, [], _ => true
  | _ + 1, _ :: _, [] => false
  | n + 1, a :: A, t :: T => emt lg env τ θ a.2 t.2 && (bif Nat.blt a.1 t.1 then sgle lg env τ θ n A ((t.1 - a.1, t.2) :: T) else bif Nat.beq a.1 t.1 then sgle lg env τ θ n A T else sgle lg env τ θ n ((a.1 - t.1, a.2) :: A) T)
theorem sgle_ok {lg : Bool} {env : eEv} {τ : List eLF} {θ : List Nat} : ∀ (n : Nat) {A T : eSg}, sgle lg env τ θ n A T = true → ∀ {j : Nat} {e : eEl}, sga A j = some e → ∃ te, sga T j = some te ∧ emt lg env τ θ e te = true
  | 0, A, T, h, j, e, hj => by cases h
  | n + 1, [], T, h, j, e, hj => by cases hj
  | n + 1, _ :: _, [], h, j, e, hj => by cases h
  | n + 1, a :: A, t :: T, h, j, e, hj => by
    unfold sgle at h
    rw [Bool.and_eq_true] at h
    obtain ⟨h1, h2⟩ := h
    cases hb : Nat.blt a.1 t.1
    · rw [hb] at h2
      have hle := blt_f hb
      dsimp only [cond_false] at h2
      cases hb2 : Nat.beq a.1 t.1
      · rw [hb2] at h2
        have hne : a.1 ≠ t.1 := fun q => by rw [q] at hb2; rw [Nat.beq_refl] at hb2; cases hb2
        dsimp only [cond_false] at h2
        rcases Nat.lt_or_ge j t.1 with g | g
        · have e1 : sga (a :: A) j = some a.2 := sga_lt (by omega)
          rw [e1] at hj
          cases hj
          exact ⟨t.2, sga_lt g, h1⟩
        · have e2 : sga ((a.1 - t.1, a.2) :: A) (j - t.1) = some e := by
            rcases Nat.lt_or_ge j a.1 with g2 | g2
            · have e1 : sga (a :: A) j = some a.2 := sga_lt g2
              rw [e1] at hj
              cases hj
              exact sga_lt (by omega)
            · have e1 : sga (a :: A) j = sga A (j - a.1) := sga_ge g2
              rw [sga_ge (by omega), ← hj, e1]
              congr 1
              omega
          obtain ⟨te, r1, r2⟩ := sgle_ok n h2 e2
          exact ⟨te, (sga_ge (e := t.2) g).trans r1, r2⟩
      · rw [hb2] at h2
        have heq := Nat.eq_of_beq_eq_true hb2
        rcases Nat.lt_or_ge j a.1 with g | g
        · have e1 : sga (a :: A) j = some a.2 := sga_lt g
          rw [e1] at hj
          cases hj
          exact ⟨t.2, sga_lt (by omega), h1⟩
        · have e1 : sga (a :: A) j = sga A (j - a.1) := sga_ge g
          rw [e1] at hj
          obtain ⟨te, r1, r2⟩ := sgle_ok n h2 hj
          exact ⟨te, (sga_ge (e := t.2) (by omega)).trans (by rw [← heq]; exact r1), r2⟩
    · rw [hb] at h2
      have hlt := blt_t hb
      dsimp only [cond_true] at h2
      rcases Nat.lt_or_ge j a.1 with g | g
      · have e1 : sga (a :: A) j = some a.2 := sga_lt g
        rw [e1] at hj
        cases hj
        exact ⟨t.2, sga_lt (by omega), h1⟩
      · have e1 : sga (a :: A) j = sga A (j - a.1) := sga_ge g
        rw [e1] at hj
        obtain ⟨te, r1, r2⟩ := sgle_ok n h2 hj
        refine ⟨te, ?_, r2⟩
        rcases Nat.lt_or_ge j t.1 with g2 | g2
        · have e2 : sga (t :: T) j = some t.2 := sga_lt g2
          rw [e2, ← r1]
          exact (sga_lt (by omega)).symm
        · have e2 : sga (t :: T) j = sga T (j - t.1) := sga_ge g2
          rw [e2, ← r1, sga_ge (by omega)]
          congr 1
          omega
/-- cells -/
def noiv (T : eSg) : Bool := T.all (fun q => match q.2 with
  | .inl _ => false
  | .inr _ => true)
theorem noiv_ok : ∀ {T : eSg} {j : Nat} {te : eEl}, noiv T = true → sga T j = some te → ∀ i, te ≠ .inl i
  | [], j, te, _, h => by cases h
  | q :: T, j, te, hn, h => by
    unfold noiv at hn
    rw [List.all_cons, Bool.and_eq_true] at hn
    rcases Nat.lt_or_ge j q.1 with g | g
    · have e1 : sga (q :: T) j = some q.2 := sga_lt g
      rw [e1] at h
      cases h
      intro i hi
      have := hn.1
      rw [hi] at this
      cases this
    · have e1 : sga (q :: T) j = sga T (j - q.1) := sga_ge g
      rw [e1] at h
      exact noiv_ok hn.2 h
def cmt (env : eEv) (τ : List eLF) (θ : List Nat) (c tc : eSC) : Bool := match c, tc with
  | .inl a, .inl b => Nat.beq a.1 b.1 && vsmt τ θ a.2 b.2
  | .inr (.inl a), .inr (.inl b) => Nat.beq a.1 b.1 && Nat.beq a.2.1 b.2.1 && sgle false env τ θ (a.2.2.length + b.2.2.length + 1) a.2.2 b.2.2
  | .inr (.inr (.inl a)), .inr (.inr (.inl b)) => Nat.beq a.1 b.1 && sgle true env τ θ (a.2.length + b.2.length + 1) a.2 b.2
  | .inr (.inr (.inr a)), .inr (.inr (.inr b)) => Nat.beq a.1 b.1 && Nat.beq a.2.1 b.2.1 && noiv b.2.2 && sgle false env τ θ (a.2.2.length + b.2.2.length + 1) a.2.2 b.2.2
  | _, _ => false
theorem cmt_ok {ca : Nat → ClassId} {env : eEv} {ρ ρT : List Int} {α αT : List Nat} {τ : List eLF} {θ : List Nat} (hE : eOk env ρ) (h : tOk ρ τ ρT) (ha : aOk α θ αT) {c tc : eSC} {x : va_E} (hm : cmt env τ θ c tc = true) (hx : cok ca ρ α c x) : cok ca ρT αT tc x := by
  unfold cmt at hm
  split at hm
  · rw [Bool.and_eq_true] at hm
    obtain ⟨vs, rfl, h2⟩ := hx
    rw [Nat.eq_of_beq_eq_true hm.1]
    exact ⟨vs, rfl, vsmt_ok h ha hm.2 h2⟩
  · rw [Bool.and_eq_true, Bool.and_eq_true] at hm
    obtain ⟨f, rfl, h2⟩ := hx
    rw [Nat.eq_of_beq_eq_true hm.1.1, Nat.eq_of_beq_eq_true hm.1.2]
    refine ⟨f, rfl, fun j hj => ?_⟩
    rw [← Nat.eq_of_beq_eq_true hm.1.2] at hj
    obtain ⟨y, h3, h4⟩ := h2 j hj
    obtain ⟨te, h5, h6⟩ := sgle_ok _ hm.2 h3
    exact ⟨te, h5, emt_i hE h ha h6 h4⟩
  · rw [Bool.and_eq_true] at hm
    obtain ⟨f, rfl, h2⟩ := hx
    rw [Nat.eq_of_beq_eq_true hm.1]
    refine ⟨f, rfl, fun j hj => ?_⟩
    rw [← Nat.eq_of_beq_eq_true hm.1] at hj
    obtain ⟨y, h3, h4⟩ := h2 j hj
    obtain ⟨te, h5, h6⟩ := sgle_ok _ hm.2 h3
    exact ⟨te, h5, emt_l hE h ha h6 h4⟩
  · rw [Bool.and_eq_true, Bool.and_eq_true, Bool.and_eq_true] at hm
    obtain ⟨f, rfl, h2⟩ := hx
    rw [Nat.eq_of_beq_eq_true hm.1.1.1, Nat.eq_of_beq_eq_true hm.1.1.2]
    refine ⟨f, rfl, fun j hj => ?_⟩
    rw [← Nat.eq_of_beq_eq_true hm.1.1.2] at hj
    obtain ⟨y, h3, h4⟩ := h2 j hj
    obtain ⟨te, h5, h6⟩ := sgle_ok _ hm.2 h3
    exact ⟨te, h5, emt_r h ha h6 h4 (noiv_ok hm.1.2 h5)⟩
  · cases hm
/-- the cells of a template among those of a state: where they lie -/
def hmt (env : eEv) (τ : List eLF) (θ : List Nat) (hp : eHp) : eHp → Option (List Nat)
  | [] => some []
  | q :: t => match θ[q.1]? with
    | some j => (match hfd j hp 0 with
      | some (k, c) => bif cmt env τ θ c q.2 then (match hmt env τ θ hp t with
        | some ks => some (k :: ks)
        | none => none) else none
      | none => none)
    | none => none
theorem hmt_ok {ca : Nat → ClassId} {env : eEv} {ρ ρT : List Int} {α αT : List Nat} {τ : List eLF} {θ : List Nat} {hp : eHp} {ws : va_W} (hE : eOk env ρ) (h : tOk ρ τ ρT) (ha : aOk α θ αT) (hw : R2 (hrel ca ρ α) hp ws) : ∀ {th : eHp} {ks : List Nat}, hmt env τ θ hp th = some ks → ∃ wc : va_W, ks.map (fun i => ws[i]?) = wc.map some ∧ R2 (hrel ca ρT αT) th wc
  | [], ks, hk => by cases hk; exact ⟨[], rfl, trivial⟩
  | q :: t, ks, hk => by
    unfold hmt at hk
    split at hk
    · rename_i j hj
      split at hk
      · rename_i k c hf
        cases hb : cmt env τ θ c q.2
        · rw [hb] at hk; cases hk
        · rw [hb] at hk
          dsimp only [cond_true] at hk
          split at hk
          · rename_i ks' hks
            cases hk
            obtain ⟨wc, h1, h2⟩ := hmt_ok hE h ha hw hks
            obtain ⟨k', e1, e2⟩ := hfd_ok hf
            rw [Nat.zero_add] at e1
            subst e1
            obtain ⟨w, e3, e4, e5⟩ := R2.get hw e2
            obtain ⟨a, e6, e7⟩ := R2.get ha hj
            rw [e7] at e4
            cases e4
            exact ⟨w :: wc, by simp [h1, e3], ⟨e6, cmt_ok hE h ha hb e5⟩, h2⟩
          · cases hk
      · cases hk
    · cases hk
/-- the numbers of a template -/
def mtE (env : eEv) : List eLF → eEv → Bool
  | [], [] => true
  | f :: τ, i :: T => (match lrg env f.1 with
    | some j => ile i.1 (j.1 + f.2) && ile (j.2 + f.2) i.2
    | none => false) && mtE env τ T
  | _, _ => false
theorem lrg_ex {env : eEv} {ρ : List Int} (hE : eOk env ρ) : ∀ {t : List (Nat × Int)} {j : Int × Int}, lrg env t = some j → ∃ x, lev ρ t = some x
  | [], j, h => ⟨0, rfl⟩
  | q :: t, j, h => by
    unfold lrg at h
    split at h
    · rename_i i jj h1 h2
      obtain ⟨x, e1, _⟩ := R2.get hE h1
      obtain ⟨y, e2⟩ := lrg_ex hE h2
      exact ⟨_, lev_mk e1 e2⟩
    · cases h
theorem mtE_ok {env : eEv} {ρ : List Int} (hE : eOk env ρ) : ∀ {τ : List eLF} {T : eEv}, mtE env τ T = true → ∃ ρT, tOk ρ τ ρT ∧ eOk T ρT
  | [], [], _ => ⟨[], trivial, trivial⟩
  | [], _ :: _, h => by cases h
  | _ :: _, [], h => by cases h
  | f :: τ, i :: T, h => by
    unfold mtE at h
    rw [Bool.and_eq_true] at h
    obtain ⟨ρT, h1, h2⟩ := mtE_ok hE h.2
    have h3 := h.1
    split at h3
    · rename_i j hj
      rw [Bool.and_eq_true] at h3
      obtain ⟨x, hx⟩ := lrg_ex hE hj
      have h4 := lrg_ok hE hj hx
      refine ⟨(x + f.2) :: ρT, ⟨?_, h1⟩, ⟨⟨?_, ?_⟩, h2⟩⟩
      · unfold lfv; rw [hx]; congr 1; omega
      · have := ile_t h3.1; have := h4.1; omega
      · have := ile_t h3.2; have := h4.2; omega
    · cases h3
def mtA (na : Nat) (θ : List Nat) : Bool := θ.all (fun j => Nat.blt j na)
theorem mtA_ok {α : List Nat} : ∀ {θ : List Nat}, mtA α.length θ = true → ∃ αT, aOk α θ αT ∧ αT.length = θ.length
  | [], _ => ⟨[], trivial, rfl⟩
  | j :: θ, h => by
    unfold mtA at h
    rw [List.all_cons, Bool.and_eq_true] at h
    obtain ⟨αT, h1, h2⟩ := mtA_ok (θ := θ) h.2
    have h3 := blt_t h.1
    exact ⟨α[j] :: αT, ⟨List.getElem?_eq_getElem h3, h1⟩, by simp [h2]⟩
