noncomputable section
/-! templates: their numbers and cells, said in another state's words -/
def veq (v w : eSV) : Bool := match v, w with
  | .inl f, .inl g => fbeq f g
  | .inr (.inl f), .inr (.inl g) => fbeq f g
  | .inr (.inr (some i)), .inr (.inr (some j)) => Nat.beq i j
  | .inr (.inr none), .inr (.inr none) => true
  | _, _ => false
theorem veq_t {v w : eSV} (h : veq v w = true) : v = w := by
  unfold veq at h
  split at h
  · rw [fbeq_t h]
  · rw [fbeq_t h]
  · rw [Nat.eq_of_beq_eq_true h]
  · rfl
  · cases h
/-- forms in runs: a form, or the numbers from one on, so many -/
abbrev eTi : Type := eLF ⊕ (Nat × Nat)
def nvs : Nat → Nat → List eLF
  | _, 0 => []
  | n, k + 1 => ([(n, 1)], 0) :: nvs (n + 1) k
def exT : List eTi → List eLF
  | [] => []
  | .inl f :: t => f :: exT t
  | .inr q :: t => nvs q.1 q.2 ++ exT t
def tget : List eTi → Nat → Option eLF
  | [], _ => none
  | .inl f :: t, v => (match v with
    | 0 => some f
    | k + 1 => tget t k)
  | .inr q :: t, v => bif Nat.blt v q.2 then some ([(q.1 + v, 1)], 0) else tget t (v - q.2)
/-- the form of a template's number, and how many from it on lie one behind another -/
def tgR : List eTi → Nat → Option (eLF × Nat)
  | [], _ => none
  | .inl f :: t, v => (match v with
    | 0 => some (f, 1)
    | k + 1 => tgR t k)
  | .inr q :: t, v => bif Nat.blt v q.2 then some (([(Nat.add q.1 v, 1)], 0), Nat.sub q.2 v) else tgR t (Nat.sub v q.2)
theorem tgR_ok : ∀ {τ : List eTi} {v : Nat} {f : eLF} {r : Nat}, tgR τ v = some (f, r) → tget τ v = some f ∧ ∀ w : Nat, f = ([(w, 1)], 0) → ∀ j, j < r → tget τ (v + j) = some ([(w + j, 1)], 0)
  | [], v, f, r, h => by cases h
  | .inl g :: t, 0, f, r, h => by
    have h1 : some (g, 1) = some (f, r) := h
    cases h1
    refine ⟨rfl, fun w hw j hj => ?_⟩
    have e : j = 0 := by omega
    subst e
    show some g = some ([(w, 1)], 0)
    rw [hw]
  | .inl g :: t, k + 1, f, r, h => by
    have h1 : tgR t k = some (f, r) := h
    obtain ⟨q1, q2⟩ := tgR_ok h1
    refine ⟨q1, fun w hw j hj => ?_⟩
    rw [show k + 1 + j = (k + j) + 1 by omega]
    exact q2 w hw j hj
  | .inr q :: t, v, f, r, h => by
    unfold tgR at h
    cases hb : Nat.blt v q.2
    · rw [hb] at h
      have h0 := blt_f hb
      obtain ⟨q1, q2⟩ := tgR_ok (show tgR t (v - q.2) = some (f, r) from h)
      refine ⟨?_, fun w hw j hj => ?_⟩
      · unfold tget
        rw [hb]
        exact q1
      · unfold tget
        have e : Nat.blt (v + j) q.2 = false := by
          cases hc : Nat.blt (v + j) q.2
          · rfl
          · have := blt_t hc; omega
        rw [e, show v + j - q.2 = v - q.2 + j by omega]
        exact q2 w hw j hj
    · rw [hb] at h
      have h0 := blt_t hb
      have h1 : some ((([(q.1 + v, 1)], 0) : eLF), q.2 - v) = some (f, r) := h
      cases h1
      refine ⟨?_, fun w hw j hj => ?_⟩
      · unfold tget
        rw [hb]
        rfl
      · have ew : q.1 + v = w := by
          have := congrArg (fun z : eLF => z.1.map (fun y => y.1)) hw
          simpa using this
        unfold tget
        rw [show Nat.blt (v + j) q.2 = true from Nat.ble_eq_true_of_le (by omega), ← ew, Nat.add_assoc]
        rfl
def tlen : List eTi → Nat
  | [] => 0
  | .inl _ :: t => tlen t + 1
  | .inr q :: t => q.2 + tlen t
theorem nvs_len : ∀ (a n : Nat), (nvs a n).length = n
  | _, 0 => rfl
  | a, n + 1 => by
    show (nvs (a + 1) n).length + 1 = n + 1
    rw [nvs_len (a + 1) n]
theorem nvs_get : ∀ (a n v : Nat), v < n → (nvs a n)[v]? = some ([(a + v, 1)], 0)
  | a, 0, v, h => by omega
  | a, n + 1, 0, h => rfl
  | a, n + 1, v + 1, h => by
    show (nvs (a + 1) n)[v]? = _
    rw [nvs_get (a + 1) n v (by omega), show a + 1 + v = a + (v + 1) by omega]
theorem tget_eq : ∀ (τ : List eTi) (v : Nat), tget τ v = (exT τ)[v]?
  | [], v => by simp [tget, exT]
  | .inl f :: t, 0 => rfl
  | .inl f :: t, v + 1 => by
    show tget t v = (exT t)[v]?
    exact tget_eq t v
  | .inr q :: t, v => by
    unfold tget exT
    cases hb : Nat.blt v q.2
    · have h := blt_f hb
      rw [List.getElem?_append_right (by rw [nvs_len]; exact h), nvs_len]
      exact tget_eq t (v - q.2)
    · have h := blt_t hb
      rw [List.getElem?_append_left (by rw [nvs_len]; exact h), nvs_get _ _ _ h]
      rfl
theorem tlen_eq : ∀ (τ : List eTi), tlen τ = (exT τ).length
  | [] => rfl
  | .inl f :: t => by
    show tlen t + 1 = (exT t).length + 1
    rw [tlen_eq t]
  | .inr q :: t => by
    show q.2 + tlen t = (nvs q.1 q.2 ++ exT t).length
    rw [List.length_append, nvs_len, tlen_eq t]
theorem exT_inl : ∀ (l : List eLF), exT (l.map .inl) = l
  | [] => rfl
  | f :: l => by
    show f :: exT (l.map .inl) = f :: l
    rw [exT_inl l]
theorem exT_app : ∀ (a b : List eTi), exT (a ++ b) = exT a ++ exT b
  | [], b => rfl
  | .inl f :: t, b => by
    show f :: exT (t ++ b) = f :: (exT t ++ exT b)
    rw [exT_app t b]
  | .inr q :: t, b => by
    show nvs q.1 q.2 ++ exT (t ++ b) = nvs q.1 q.2 ++ exT t ++ exT b
    rw [exT_app t b, List.append_assoc]
def sbl (τ : List eTi) : List (Nat × Int) → Option eLF
  | [] => some ([], 0)
  | q :: t => match tget τ q.1, sbl τ t with
    | some f, some g => some (fadd (fsc q.2 f) g)
    | _, _ => none
def sbf0 (τ : List eTi) (f : eLF) : Option eLF := match sbl τ f.1 with
  | some g => some (fpl g f.2)
  | none => none
/-- most forms are a number alone -/
def sbf (τ : List eTi) (f : eLF) : Option eLF := match f.1, f.2 with
  | [(n, Int.ofNat 1)], Int.ofNat 0 => tget τ n
  | _, _ => sbf0 τ f
abbrev tOk (ρ : List Int) (τ : List eTi) (ρT : List Int) : Prop := R2 (lfv ρ) (exT τ) ρT
abbrev aOk (α : List Nat) (θ : List Nat) (αT : List Nat) : Prop := R2 (fun (i a : Nat) => α[i]? = some a) θ αT
theorem sbl_ok {ρ ρT : List Int} {τ : List eTi} (h : tOk ρ τ ρT) : ∀ {t : List (Nat × Int)} {g : eLF}, sbl τ t = some g → ∃ y, lev ρT t = some y ∧ lfv ρ g y
  | [], g, hg => by cases hg; exact ⟨0, rfl, fc_ok 0⟩
  | q :: t, g, hg => by
    unfold sbl at hg
    split at hg
    · rename_i f g' h1 h2
      cases hg
      rw [tget_eq] at h1
      obtain ⟨x, e1, h3⟩ := R2.get h h1
      obtain ⟨y, e2, h4⟩ := sbl_ok h h2
      exact ⟨q.2 * x + y, lev_mk e1 e2, fadd_ok (fsc_ok h3) h4⟩
    · cases hg
theorem sbf0_ok {ρ ρT : List Int} {τ : List eTi} (h : tOk ρ τ ρT) {f g : eLF} (hg : sbf0 τ f = some g) : ∃ x, lfv ρT f x ∧ lfv ρ g x := by
  unfold sbf0 at hg
  split at hg
  · rename_i g' h1
    cases hg
    obtain ⟨y, e1, e2⟩ := sbl_ok h h1
    refine ⟨y + f.2, ?_, fpl_ok f.2 e2⟩
    unfold lfv
    rw [e1]
    congr 1
    omega
  · cases hg
theorem sbf_ok {ρ ρT : List Int} {τ : List eTi} (h : tOk ρ τ ρT) {f g : eLF} (hg : sbf τ f = some g) : ∃ x, lfv ρT f x ∧ lfv ρ g x := by
  unfold sbf at hg
  split at hg
  · rename_i n e1 e2
    rw [tget_eq] at hg
    obtain ⟨x, e3, h3⟩ := R2.get h hg
    refine ⟨x, ?_, h3⟩
    unfold lfv
    rw [e1, e2, lev_mk (q := (n, Int.ofNat 1)) (x := x) (y := 0) e3 rfl]
    congr 1
    show 1 * x + 0 = x - 0
    omega
  · exact sbf0_ok h hg
def sbv (τ : List eTi) (θ : List Nat) (v : eSV) : Option eSV := match v with
  | .inl f => (match sbf τ f with
    | some g => some (.inl g)
    | none => none)
  | .inr (.inl f) => (match sbf τ f with
    | some g => some (.inr (.inl g))
    | none => none)
  | .inr (.inr (some i)) => (match lk θ i with
    | some j => some (.inr (.inr (some j)))
    | none => none)
  | .inr (.inr none) => some (.inr (.inr none))
theorem sbv_ok {ρ ρT : List Int} {α αT : List Nat} {τ : List eTi} {θ : List Nat} (h : tOk ρ τ ρT) (ha : aOk α θ αT) {v w : eSV} (hv : sbv τ θ v = some w) {x : Value} : vok ρT αT v x ↔ vok ρ α w x := by
  unfold sbv at hv
  split at hv
  · split at hv
    · rename_i g hg
      cases hv
      obtain ⟨y, h1, h2⟩ := sbf_ok h hg
      constructor
      · rintro ⟨z, h3, rfl⟩
        rw [lfv_fun h3 h1]
        exact ⟨y, h2, rfl⟩
      · rintro ⟨z, h3, rfl⟩
        rw [lfv_fun h3 h2]
        exact ⟨y, h1, rfl⟩
    · cases hv
  · split at hv
    · rename_i g hg
      cases hv
      obtain ⟨y, h1, h2⟩ := sbf_ok h hg
      constructor
      · rintro ⟨z, h3, rfl⟩
        rw [lfv_fun h3 h1]
        exact ⟨y, h2, rfl⟩
      · rintro ⟨z, h3, rfl⟩
        rw [lfv_fun h3 h2]
        exact ⟨y, h1, rfl⟩
    · cases hv
  · split at hv
    · rename_i j hj
      cases hv
      rw [lk_eq] at hj
      obtain ⟨a, e1, h1⟩ := R2.get ha hj
      constructor
      · rintro ⟨b, h3, rfl⟩
        rw [e1] at h3
        cases h3
        exact ⟨a, h1, rfl⟩
      · rintro ⟨b, h3, rfl⟩
        rw [h1] at h3
        cases h3
        exact ⟨a, e1, rfl⟩
    · cases hv
  · cases hv
    exact Iff.rfl
/-- is v what the template's tv says? -/
def vmt (τ : List eTi) (θ : List Nat) (v tv : eSV) : Bool := match sbv τ θ tv with
  | some w => veq v w
  | none => false
theorem vmt_ok {ρ ρT : List Int} {α αT : List Nat} {τ : List eTi} {θ : List Nat} (h : tOk ρ τ ρT) (ha : aOk α θ αT) {v tv : eSV} {x : Value} (hv : vmt τ θ v tv = true) (hx : vok ρ α v x) : vok ρT αT tv x := by
  unfold vmt at hv
  split at hv
  · rename_i w hw
    rw [veq_t hv] at hx
    exact (sbv_ok h ha hw).mpr hx
  · cases hv
def vsmt (τ : List eTi) (θ : List Nat) : List eSV → List eSV → Bool
  | [], [] => true
  | v :: a, w :: b => vmt τ θ v w && vsmt τ θ a b
  | _, _ => false
theorem vsmt_ok {ρ ρT : List Int} {α αT : List Nat} {τ : List eTi} {θ : List Nat} (h : tOk ρ τ ρT) (ha : aOk α θ αT) : ∀ {a b : List eSV} {xs : List Value}, vsmt τ θ a b = true → R2 (vok ρ α) a xs → R2 (vok ρT αT) b xs
  | [], [], _, _, hx => by rw [R2.nil_inv hx]; trivial
  | [], _ :: _, _, hm, _ => by cases hm
  | _ :: _, [], _, hm, _ => by cases hm
  | v :: a, w :: b, xs, hm, hx => by
    unfold vsmt at hm
    rw [Bool.and_eq_true] at hm
    obtain ⟨y, ys, rfl, h1, h2⟩ := R2.cons_inv hx
    exact ⟨vmt_ok h ha hm.1 h1, vsmt_ok h ha hm.2 h2⟩
/-- pieces of arrays -/
def elhL (env : eEv) (e : eEl) : Option (Int × Int) := match e with
  | .inl i => some i
  | .inr (.inr (.inl f)) => jrg env f
  | _ => none
def ivin (i j : Int × Int) : Bool := ile j.1 i.1 && ile i.2 j.2
theorem ivin_ok {i j : Int × Int} {x : Int} (h : ivin i j = true) (hx : ivr i x) : ivr j x := by
  unfold ivin at h
  rw [Bool.and_eq_true] at h
  exact ⟨Int.le_trans (ile_t h.1) hx.1, Int.le_trans hx.2 (ile_t h.2)⟩
def emt (lg : Bool) (env : eEv) (τ : List eTi) (θ : List Nat) (e te : eEl) : Bool := match te with
  | .inl j => (match (bif lg then elhL env e else elh env e) with
    | some i => ivin i j
    | none => false)
  | .inr tv => (match e with
    | .inr v => vmt τ θ v tv
    | _ => false)
theorem emt_i {env : eEv} {ρ ρT : List Int} {α αT : List Nat} {τ : List eTi} {θ : List Nat} (hE : eOk env ρ) (h : tOk ρ τ ρT) (ha : aOk α θ αT) {e te : eEl} {x : Int32} (hm : emt false env τ θ e te = true) (hx : eli ρ e x) : eli ρT te x := by
  unfold emt at hm
  split at hm
  · split at hm
    · rename_i i hi
      exact ivin_ok hm (elh_ok hE hi hx)
    · cases hm
  · split at hm
    · rename_i tv v
      have h1 : vok ρ α v (.int x) := by
        unfold eli at hx
        split at hx
        · rename_i _ _ he; cases he
        · rename_i f he
          cases he
          obtain ⟨y, h2, h3⟩ := hx
          exact ⟨y, h2, by rw [h3]⟩
        · exact hx.elim
      have h2 := vmt_ok h ha hm h1
      unfold vok at h2
      split at h2
      · obtain ⟨y, h3, h4⟩ := h2
        cases h4
        exact ⟨y, h3, rfl⟩
      · obtain ⟨y, h3, h4⟩ := h2; cases h4
      · obtain ⟨y, h3, h4⟩ := h2; cases h4
      · cases h2
    · cases hm
theorem emt_l {env : eEv} {ρ ρT : List Int} {α αT : List Nat} {τ : List eTi} {θ : List Nat} (hE : eOk env ρ) (h : tOk ρ τ ρT) (ha : aOk α θ αT) {e te : eEl} {x : Int64} (hm : emt true env τ θ e te = true) (hx : ell ρ e x) : ell ρT te x := by
  unfold emt at hm
  split at hm
  · split at hm
    · rename_i i hi
      refine ivin_ok hm ?_
      have hi : elhL env e = some i := hi
      unfold elhL at hi
      unfold ell at hx
      split at hi
      · cases hi; exact hx
      · obtain ⟨y, h1, rfl⟩ := hx; exact jrg_ivr hE hi h1
      · cases hi
    · cases hm
  · split at hm
    · rename_i tv v
      have h1 : vok ρ α v (.long x) := by
        unfold ell at hx
        split at hx
        · rename_i _ _ he; cases he
        · rename_i f he
          cases he
          obtain ⟨y, h2, h3⟩ := hx
          exact ⟨y, h2, by rw [h3]⟩
        · exact hx.elim
      have h2 := vmt_ok h ha hm h1
      unfold vok at h2
      split at h2
      · obtain ⟨y, h3, h4⟩ := h2; cases h4
      · obtain ⟨y, h3, h4⟩ := h2
        cases h4
        exact ⟨y, h3, rfl⟩
      · obtain ⟨y, h3, h4⟩ := h2; cases h4
      · cases h2
    · cases hm
theorem emt_r {lg : Bool} {env : eEv} {ρ ρT : List Int} {α αT : List Nat} {τ : List eTi} {θ : List Nat} (h : tOk ρ τ ρT) (ha : aOk α θ αT) {e te : eEl} {r : Option Nat} (hm : emt lg env τ θ e te = true) (hx : elr ρ α e r) (hne : ∀ j, te ≠ .inl j) : elr ρT αT te r := by
  unfold emt at hm
  split at hm
  · exact absurd rfl (hne _)
  · split at hm
    · exact vmt_ok h ha hm hx
    · cases hm
theorem fbeq_var (w : Nat) : fbeq ([(w, 1)], 0) ([(w, 1)], 0) = true := by
  show (ieq 0 0 && (Nat.beq w w && ieq 1 1 && true)) = true
  rw [Nat.beq_refl]
  rfl
theorem elo_eq {x : Int} (h1 : mnL ≤ x) (h2 : x ≤ mxL) : (elo x : Int) = x + 18446744073709551616 := by
  unfold mnL at h1
  unfold mxL at h2
  cases x with
  | ofNat n =>
    have h3 : (n : Int) ≤ 9223372036854775807 := h2
    show ((bq (Nat.ble n 9223372036854775807) (n + 18446744073709551616) 0 : Nat) : Int) = (n : Int) + 18446744073709551616
    rw [show Nat.ble n 9223372036854775807 = true from Nat.ble_eq_true_of_le (by omega)]
    show ((n + 18446744073709551616 : Nat) : Int) = _
    omega
  | negSucc n =>
    rw [Int.negSucc_eq] at h1 ⊢
    show ((18446744073709551615 - n : Nat) : Int) = _
    omega
theorem ehi_eq {x : Int} (h1 : mnL ≤ x) (h2 : x ≤ mxL) : (ehi x : Int) = 18446744073709551616 - x := by
  unfold mnL at h1
  unfold mxL at h2
  cases x with
  | ofNat n =>
    have h3 : (n : Int) ≤ 9223372036854775807 := h2
    show ((18446744073709551616 - n : Nat) : Int) = 18446744073709551616 - (n : Int)
    omega
  | negSucc n =>
    rw [Int.negSucc_eq] at h1 ⊢
    show ((bq (Nat.ble n 9223372036854775807) (n + 18446744073709551617) 0 : Nat) : Int) = _
    rw [show Nat.ble n 9223372036854775807 = true from Nat.ble_eq_true_of_le (by omega)]
    show ((n + 18446744073709551617 : Nat) : Int) = _
    omega
theorem lrg_var {env : eEv} {w : Nat} {i : Int × Int} (h : lke env w = some i) : lrg env [(w, 1)] = some i := by
  rw [lrg_cons]
  unfold lrg1
  rw [h]
  rfl
theorem irg_var {env : eEv} {w : Nat} {i : Int × Int} (h : lke env w = some i) (h1 : mnI ≤ i.1) (h2 : i.2 ≤ mxI) : irg env ([(w, 1)], 0) = some i := by
  unfold irg
  rw [lrg_var h]
  dsimp only
  rw [Int.add_zero, Int.add_zero, ile_o h1, ile_o h2]
  rfl
theorem jrg_var {env : eEv} {w : Nat} {i : Int × Int} (h : lke env w = some i) (h1 : mnL ≤ i.1) (h2 : i.2 ≤ mxL) : jrg env ([(w, 1)], 0) = some i := by
  unfold jrg
  rw [lrg_var h]
  dsimp only
  rw [Int.add_zero, Int.add_zero, ile_o h1, ile_o h2]
  rfl
/-- a run of numbers, all in one interval -/
def rin (lg : Bool) (env : eEv) (k v m : Nat) (j : Int × Int) : Bool := (bif lg then Nat.ble 1 k && (ile mnL j.1 && ile j.2 mxL) else Nat.beq k 0 && (ile mnI j.1 && ile j.2 mxI)) && (ile j.1 j.2 && (Nat.ble (Nat.add v m) env.1 && swr (Nat.mul 2 m) (dsh env.2 (Nat.mul 2 v)) (rpt m (epk1 j.1 j.2 0))))
theorem rin_lke {env : eEv} {v m : Nat} {j : Int × Int} (j1 : mnL ≤ j.1) (j2 : j.2 ≤ mxL) (j3 : j.1 ≤ j.2) (h0 : v + m ≤ env.1) (h : swr (2 * m) (dsh env.2 (2 * v)) (rpt m (epk1 j.1 j.2 0)) = true) {i : Nat} (hi : i < m) : ∃ q, lke env (v + i) = some q ∧ j.1 ≤ q.1 ∧ q.2 ≤ j.2 := by
  have hD : epk1 j.1 j.2 0 < 2 ^ 144 := by
    have a1 := elo_lt j.1
    have a2 := ehi_lt j.2
    rw [epk1_eq]
    generalize elo j.1 = a at a1 ⊢
    generalize ehi j.2 = b at a2 ⊢
    omega
  obtain ⟨d0, d1⟩ := dg_rpt hD m i hi
  rw [epk1_0] at d0
  rw [epk1_1] at d1
  have s0 := swr_ok h (2 * i) (by omega)
  have s1 := swr_ok h (2 * i + 1) (by omega)
  rw [d0, dg_sh] at s0
  rw [d1, dg_sh] at s1
  have f1 := elo_eq j1 (Int.le_trans j3 j2)
  have f2 := ehi_eq (Int.le_trans j1 j3) j2
  unfold mnL at j1
  unfold mxL at j2
  obtain ⟨q, hq⟩ := lke_ex (E := env) (k := v + i) (by omega) (by
    rw [show 2 * (v + i) = 2 * v + 2 * i by omega]
    omega) (by
    rw [show 2 * (v + i) + 1 = 2 * v + (2 * i + 1) by omega]
    omega)
  refine ⟨q, hq, ?_, ?_⟩
  · rw [(lke_lt hq).2]
    show j.1 ≤ zlo (dg env.2 (2 * (v + i)))
    rw [zlo_eq, show 2 * (v + i) = 2 * v + 2 * i by omega]
    omega
  · rw [(lke_lt hq).2]
    show zhi (dg env.2 (2 * (v + i) + 1)) ≤ j.2
    rw [zhi_eq, show 2 * (v + i) + 1 = 2 * v + (2 * i + 1) by omega]
    omega
theorem rin_ok {lg : Bool} {env : eEv} {τ : List eTi} {θ : List Nat} {p : Nat × Nat} {m : Nat} {j : Int × Int} (h : rin lg env p.1 p.2 m j = true) {i : Nat} (hi : i < m) : emt lg env τ θ (pcA (.inr p) i) (.inl j) = true := by
  unfold rin at h
  rw [Bool.and_eq_true, Bool.and_eq_true, Bool.and_eq_true] at h
  obtain ⟨h1, h4, h2, h3⟩ := h
  have h2 : p.2 + m ≤ env.1 := Nat.le_of_ble_eq_true h2
  have h4 := ile_t h4
  cases lg with
  | false =>
    dsimp only [cond_false] at h1
    rw [Bool.and_eq_true, Bool.and_eq_true] at h1
    obtain ⟨k1, k2, k3⟩ := h1
    have g2 := ile_t k2
    have g3 := ile_t k3
    have n2 : mnL ≤ j.1 := by unfold mnI at g2; unfold mnL; omega
    have n3 : j.2 ≤ mxL := by unfold mxI at g3; unfold mxL; omega
    obtain ⟨q, q1, q2, q3⟩ := rin_lke n2 n3 h4 h2 h3 hi
    have e : elh env (pcA (.inr p) i) = some q := by
      show elh env (Sum.inr (bq (Nat.beq p.1 0) (.inl ([(p.2 + i, 1)], 0)) (.inr (.inl ([(p.2 + i, 1)], 0))))) = some q
      rw [k1]
      exact irg_var q1 (Int.le_trans g2 q2) (Int.le_trans q3 g3)
    show (match elh env (pcA (.inr p) i) with
      | some i => ivin i j
      | none => false) = true
    rw [e]
    show (ile j.1 q.1 && ile q.2 j.2) = true
    rw [ile_o q2, ile_o q3]
    rfl
  | true =>
    dsimp only [cond_true] at h1
    rw [Bool.and_eq_true, Bool.and_eq_true] at h1
    obtain ⟨k1, k2, k3⟩ := h1
    have g1 := Nat.le_of_ble_eq_true k1
    have g2 := ile_t k2
    have g3 := ile_t k3
    obtain ⟨q, q1, q2, q3⟩ := rin_lke g2 g3 h4 h2 h3 hi
    have kf : Nat.beq p.1 0 = false := by
      cases hb : Nat.beq p.1 0
      · rfl
      · have := Nat.eq_of_beq_eq_true hb; omega
    have e : elhL env (pcA (.inr p) i) = some q := by
      show elhL env (Sum.inr (bq (Nat.beq p.1 0) (.inl ([(p.2 + i, 1)], 0)) (.inr (.inl ([(p.2 + i, 1)], 0))))) = some q
      rw [kf]
      exact jrg_var q1 (Int.le_trans g2 q2) (Int.le_trans q3 g3)
    show (match elhL env (pcA (.inr p) i) with
      | some i => ivin i j
      | none => false) = true
    rw [e]
    show (ile j.1 q.1 && ile q.2 j.2) = true
    rw [ile_o q2, ile_o q3]
    rfl
def nmin (a b : Nat) : Nat := bq (Nat.ble a b) a b
theorem nmin_le (a b : Nat) : nmin a b ≤ a ∧ nmin a b ≤ b := by
  unfold nmin
  cases h : Nat.ble a b
  · have := nble_f h
    exact ⟨by show b ≤ a; omega, Nat.le_refl b⟩
  · exact ⟨Nat.le_refl a, Nat.le_of_ble_eq_true h⟩
/-- how many of the first of a piece are seen to be what a template's piece says -/
def sgm (lg : Bool) (env : eEv) (τ : List eTi) (θ : List Nat) (a t : Nat × ePc) : Nat := match a.2, t.2 with
  | .inl e, .inl te => bq (emt lg env τ θ e te) (nmin a.1 t.1) 0
  | .inl e, .inr q => bq (emt lg env τ θ e (pcA (.inr q) 0)) 1 0
  | .inr p, .inr q => (match tgR τ q.2 with
    | some fr => bq (Nat.beq p.1 q.1 && fbeq fr.1 ([(p.2, 1)], 0)) (nmin (nmin a.1 t.1) fr.2) 0
    | none => 0)
  | .inr p, .inl (.inl j) => bq (rin lg env p.1 p.2 (nmin a.1 t.1) j) (nmin a.1 t.1) 0
  | .inr p, .inl (.inr v) => bq (emt lg env τ θ (pcA (.inr p) 0) (.inr v)) 1 0
theorem sgm_ok {lg : Bool} {env : eEv} {τ : List eTi} {θ : List Nat} {a t : Nat × ePc} {j : Nat} (h : j < sgm lg env τ θ a t) : emt lg env τ θ (pcA a.2 j) (pcA t.2 j) = true := by
  obtain ⟨n, c⟩ := a
  obtain ⟨n', c'⟩ := t
  unfold sgm at h
  dsimp only at h ⊢
  cases c with
  | inl e =>
    cases c' with
    | inl te =>
      dsimp only at h
      cases hb : emt lg env τ θ e te
      · rw [hb] at h
        exact absurd h (Nat.not_lt_zero j)
      · exact hb
    | inr q =>
      dsimp only at h
      cases hb : emt lg env τ θ e (pcA (.inr q) 0)
      · rw [hb] at h
        exact absurd h (Nat.not_lt_zero j)
      · rw [hb] at h
        have h1 : j < 1 := h
        have e0 : j = 0 := by omega
        subst e0
        exact hb
  | inr p =>
    cases c' with
    | inr q =>
      dsimp only at h
      split at h
      · rename_i fr hfr
        cases hb : Nat.beq p.1 q.1 && fbeq fr.1 ([(p.2, 1)], 0)
        · rw [hb] at h
          exact absurd h (Nat.not_lt_zero j)
        · rw [hb] at h
          rw [Bool.and_eq_true] at hb
          have h1 : j < nmin (nmin n n') fr.2 := h
          have h2 : j < fr.2 := Nat.lt_of_lt_of_le h1 (nmin_le _ _).2
          obtain ⟨f, r⟩ := fr
          have q1 := (tgR_ok hfr).2 p.2 (fbeq_t hb.2) j h2
          have ek := Nat.eq_of_beq_eq_true hb.1
          show emt lg env τ θ (Sum.inr (bq (Nat.beq p.1 0) (.inl ([(p.2 + j, 1)], 0)) (.inr (.inl ([(p.2 + j, 1)], 0))))) (Sum.inr (bq (Nat.beq q.1 0) (.inl ([(q.2 + j, 1)], 0)) (.inr (.inl ([(q.2 + j, 1)], 0))))) = true
          rw [ek]
          cases Nat.beq q.1 0
          · show vmt τ θ (.inr (.inl ([(p.2 + j, 1)], 0))) (.inr (.inl ([(q.2 + j, 1)], 0))) = true
            have e1 : sbv τ θ (.inr (.inl ([(q.2 + j, 1)], 0))) = some (.inr (.inl ([(p.2 + j, 1)], 0))) := by
              show (match tget τ (q.2 + j) with
                | some g => some (Sum.inr (Sum.inl g))
                | none => none) = _
              rw [q1]
            unfold vmt
            rw [e1]
            exact fbeq_var _
          · show vmt τ θ (.inl ([(p.2 + j, 1)], 0)) (.inl ([(q.2 + j, 1)], 0)) = true
            have e1 : sbv τ θ (.inl ([(q.2 + j, 1)], 0)) = some (.inl ([(p.2 + j, 1)], 0)) := by
              show (match tget τ (q.2 + j) with
                | some g => some (Sum.inl g)
                | none => none) = _
              rw [q1]
            unfold vmt
            rw [e1]
            exact fbeq_var _
      · exact absurd h (Nat.not_lt_zero j)
    | inl te =>
      cases te with
      | inl iv =>
        dsimp only at h
        cases hb : rin lg env p.1 p.2 (nmin n n') iv
        · rw [hb] at h
          exact absurd h (Nat.not_lt_zero j)
        · rw [hb] at h
          exact rin_ok hb (show j < nmin n n' from h)
      | inr v =>
        dsimp only at h
        cases hb : emt lg env τ θ (pcA (.inr p) 0) (.inr v)
        · rw [hb] at h
          exact absurd h (Nat.not_lt_zero j)
        · rw [hb] at h
          have h1 : j < 1 := h
          have e0 : j = 0 := by omega
          subst e0
          exact hb
/-- the first m taken off -/
def sgd (m n : Nat) (c : ePc) (t : eSg) : eSg := sgc (Nat.sub n m) (pcS c m) t
theorem sgd_at {m n : Nat} {c : ePc} {t : eSg} (h : m ≤ n) (j : Nat) : sga (sgd m n c t) j = sga ((n, c) :: t) (m + j) := by
  unfold sgd
  rcases Nat.lt_or_ge j (n - m) with g | g
  · rw [sga_c_lt (show j < Nat.sub n m from g), sga_lt (by omega), pcA_S]
  · rw [sga_c_ge (show Nat.sub n m ≤ j from g), sga_ge (by omega)]
    congr 1
    show j - (n - m) = m + j - n
    omega
def sgk (ih : eSg → eSg → Bool) (m : Nat) (a t : Nat × ePc) (A T : eSg) : Bool := bq (Nat.ble 1 m) (bq (Nat.ble m a.1) (bq (Nat.ble m t.1) (ih (sgd m a.1 a.2 A) (sgd m t.1 t.2 T)) false) false) false
def sglS (lg : Bool) (env : eEv) (τ : List eTi) (θ : List Nat) (ih : eSg → eSg → Bool) (A T : eSg) : Bool := match A, T with
  | [], _ => true
  | _ :: _, [] => false
  | a :: A, t :: T => sgk ih (sgm lg env τ θ a t) a t A T
def sgle (lg : Bool) (env : eEv) (τ : List eTi) (θ : List Nat) (n : Nat) : eSg → eSg → Bool := @Nat.rec (fun _ => eSg → eSg → Bool) (fun _ _ => false) (fun _ ih => sglS lg env τ θ ih) n
theorem sgk_t {ih : eSg → eSg → Bool} {m : Nat} {a t : Nat × ePc} {A T : eSg} (h : sgk ih m a t A T = true) : 1 ≤ m ∧ m ≤ a.1 ∧ m ≤ t.1 ∧ ih (sgd m a.1 a.2 A) (sgd m t.1 t.2 T) = true := by
  unfold sgk at h
  cases h1 : Nat.ble 1 m
  · rw [h1] at h; cases h
  · rw [h1] at h
    cases h2 : Nat.ble m a.1
    · rw [h2] at h; cases h
    · rw [h2] at h
      cases h3 : Nat.ble m t.1
      · rw [h3] at h; cases h
      · rw [h3] at h
        exact ⟨Nat.le_of_ble_eq_true h1, Nat.le_of_ble_eq_true h2, Nat.le_of_ble_eq_true h3, h⟩
theorem sgle_ok {lg : Bool} {env : eEv} {τ : List eTi} {θ : List Nat} : ∀ (n : Nat) {A T : eSg}, sgle lg env τ θ n A T = true → ∀ {j : Nat} {e : eEl}, sga A j = some e → ∃ te, sga T j = some te ∧ emt lg env τ θ e te = true
  | 0, A, T, h, j, e, hj => by cases h
  | n + 1, [], T, h, j, e, hj => by cases hj
  | n + 1, _ :: _, [], h, j, e, hj => by cases h
  | n + 1, a :: A, t :: T, h, j, e, hj => by
    obtain ⟨m1, m2, m3, m4⟩ := sgk_t (show sgk (sgle lg env τ θ n) (sgm lg env τ θ a t) a t A T = true from h)
    rcases Nat.lt_or_ge j (sgm lg env τ θ a t) with g | g
    · have e1 : sga (a :: A) j = some (pcA a.2 j) := sga_lt (c := a.2) (by omega)
      rw [e1] at hj
      cases hj
      exact ⟨_, sga_lt (c := t.2) (by omega), sgm_ok g⟩
    · have e2 := sgd_at (c := a.2) (t := A) m2 (j - sgm lg env τ θ a t)
      have e3 := sgd_at (c := t.2) (t := T) m3 (j - sgm lg env τ θ a t)
      rw [show sgm lg env τ θ a t + (j - sgm lg env τ θ a t) = j by omega] at e2 e3
      obtain ⟨te, r1, r2⟩ := sgle_ok n m4 (e2.trans hj)
      exact ⟨te, e3.symm.trans r1, r2⟩
/-- cells -/
def noiv (T : eSg) : Bool := T.all (fun q => match q.2 with
  | .inl (.inl _) => false
  | _ => true)
theorem noiv_ok : ∀ {T : eSg} {j : Nat} {te : eEl}, noiv T = true → sga T j = some te → ∀ i, te ≠ .inl i
  | [], j, te, _, h => by cases h
  | q :: T, j, te, hn, h => by
    unfold noiv at hn
    rw [List.all_cons, Bool.and_eq_true] at hn
    rcases Nat.lt_or_ge j q.1 with g | g
    · have e1 : sga (q :: T) j = some (pcA q.2 j) := sga_lt g
      rw [e1] at h
      cases h
      intro i hi
      have h1 := hn.1
      obtain ⟨n, c⟩ := q
      cases c with
      | inl e =>
        have e2 : e = .inl i := hi
        subst e2
        cases h1
      | inr p => cases hi
    · have e1 : sga (q :: T) j = sga T (j - q.1) := sga_ge g
      rw [e1] at h
      exact noiv_ok hn.2 h
/-- the number of an array's elements: the same as the template's -/
def cdm (τ : List eTi) (a b : eSg) : Bool := match cdG b with
  | none => true
  | some cT => (match cdG a, tget τ cT.1 with
    | some cA, some g => bq (Nat.ble cA.2 cT.2) (fbeq g ([(cA.1, 1)], 0)) false
    | _, _ => false)
theorem cdm_ok {ρ ρT : List Int} {τ : List eTi} (h : tOk ρ τ ρT) {a b : eSg} {n : Nat} {v : Nat → Int} (hm : cdm τ a b = true) (hx : cdO ρ a n v) : cdO ρT b n v := by
  intro c o hc
  unfold cdm at hm
  rw [hc] at hm
  dsimp only at hm
  split at hm
  · rename_i cA g hA hg
    cases hb : Nat.ble cA.2 o
    · rw [hb] at hm; cases hm
    · rw [hb, bq_t] at hm
      have ho := Nat.le_of_ble_eq_true hb
      obtain ⟨z, z1, z2⟩ := hx cA.1 cA.2 hA
      rw [tget_eq] at hg
      obtain ⟨y, y1, y2⟩ := R2.get h hg
      rw [fbeq_t hm] at y2
      rw [lfv_v1 y2] at z1
      cases z1
      exact ⟨z, y1, fun j oj hj => z2 j (by omega) hj⟩
  · cases hm
def cmt (env : eEv) (τ : List eTi) (θ : List Nat) (c tc : eSC) : Bool := match c, tc with
  | .inl a, .inl b => Nat.beq a.1 b.1 && vsmt τ θ a.2 b.2
  | .inr (.inl a), .inr (.inl b) => Nat.beq a.1 b.1 && Nat.beq a.2.1 b.2.1 && (cdm τ a.2.2 b.2.2 && sgle false env τ θ 4096 (cdX a.2.2) (cdX b.2.2))
  | .inr (.inr (.inl a)), .inr (.inr (.inl b)) => Nat.beq a.1 b.1 && (cdm τ a.2 b.2 && sgle true env τ θ 4096 (cdX a.2) (cdX b.2))
  | .inr (.inr (.inr a)), .inr (.inr (.inr b)) => Nat.beq a.1 b.1 && Nat.beq a.2.1 b.2.1 && noiv b.2.2 && sgle false env τ θ 4096 a.2.2 b.2.2
  | _, _ => false
theorem cmt_ok {ca : Nat → ClassId} {env : eEv} {ρ ρT : List Int} {α αT : List Nat} {τ : List eTi} {θ : List Nat} (hE : eOk env ρ) (h : tOk ρ τ ρT) (ha : aOk α θ αT) {c tc : eSC} {x : va_E} (hm : cmt env τ θ c tc = true) (hx : cok ca ρ α c x) : cok ca ρT αT tc x := by
  unfold cmt at hm
  split at hm
  · rw [Bool.and_eq_true] at hm
    obtain ⟨vs, rfl, h2⟩ := hx
    rw [Nat.eq_of_beq_eq_true hm.1]
    exact ⟨vs, rfl, vsmt_ok h ha hm.2 h2⟩
  · rw [Bool.and_eq_true, Bool.and_eq_true, Bool.and_eq_true] at hm
    obtain ⟨f, rfl, h2, h7⟩ := hx
    rw [Nat.eq_of_beq_eq_true hm.1.1, Nat.eq_of_beq_eq_true hm.1.2] at *
    refine ⟨f, rfl, fun j hj => ?_, cdm_ok h hm.2.1 h7⟩
    obtain ⟨y, h3, h4⟩ := h2 j hj
    obtain ⟨te, h5, h6⟩ := sgle_ok _ hm.2.2 ((sga_cX _ j).trans h3)
    exact ⟨te, (sga_cX _ j).symm.trans h5, emt_i hE h ha h6 h4⟩
  · rw [Bool.and_eq_true, Bool.and_eq_true] at hm
    obtain ⟨f, rfl, h2, h7⟩ := hx
    rw [Nat.eq_of_beq_eq_true hm.1] at *
    refine ⟨f, rfl, fun j hj => ?_, cdm_ok h hm.2.1 h7⟩
    obtain ⟨y, h3, h4⟩ := h2 j hj
    obtain ⟨te, h5, h6⟩ := sgle_ok _ hm.2.2 ((sga_cX _ j).trans h3)
    exact ⟨te, (sga_cX _ j).symm.trans h5, emt_l hE h ha h6 h4⟩
  · rw [Bool.and_eq_true, Bool.and_eq_true, Bool.and_eq_true] at hm
    obtain ⟨f, rfl, h2⟩ := hx
    rw [Nat.eq_of_beq_eq_true hm.1.1.1, Nat.eq_of_beq_eq_true hm.1.1.2]
    refine ⟨f, rfl, fun j hj => ?_⟩
    rw [← Nat.eq_of_beq_eq_true hm.1.1.2] at hj
    obtain ⟨y, h3, h4⟩ := h2 j hj
    obtain ⟨te, h5, h6⟩ := sgle_ok _ hm.2 h3
    exact ⟨te, h5, emt_r h ha h6 h4 (noiv_ok hm.1.2 h5)⟩
  · cases hm
/-- the cells of a template among those of a state: where they lie -/
def hnx (j : Nat) (hp rest : eHp) (n : Nat) : Option (Nat × eSC × eHp × Nat) := match rest with
  | q :: r => bif Nat.beq q.1 j then some (n, q.2, r, n + 1) else (match hfd j hp 0 with
    | some (k, c) => some (k, c, q :: r, n)
    | none => none)
  | [] => (match hfd j hp 0 with
    | some (k, c) => some (k, c, [], n)
    | none => none)
theorem hnx_ok {j : Nat} {hp rest : eHp} {n k n' : Nat} {c : eSC} {r : eHp} (h0 : rest = hp.drop n) (h : hnx j hp rest n = some (k, c, r, n')) : hp[k]? = some (j, c) ∧ r = hp.drop n' := by
  unfold hnx at h
  split at h
  · rename_i q r0
    cases hb : Nat.beq q.1 j
    · rw [hb] at h
      dsimp only [cond_false] at h
      split at h
      · rename_i k0 c0 hf
        cases h
        obtain ⟨k', e1, e2⟩ := hfd_ok hf
        rw [Nat.zero_add] at e1
        subst e1
        exact ⟨e2, h0⟩
      · cases h
    · rw [hb] at h
      cases h
      have e1 := Nat.eq_of_beq_eq_true hb
      have e2 : hp[n]? = some q := by
        have e3 : (hp.drop n)[0]? = hp[n + 0]? := List.getElem?_drop
        rw [← h0] at e3
        exact e3.symm
      refine ⟨by rw [e2, ← e1], ?_⟩
      have e4 : (hp.drop n).tail = hp.drop (n + 1) := List.tail_drop
      rw [← h0] at e4
      exact e4
  · split at h
    · rename_i k0 c0 hf
      cases h
      obtain ⟨k', e1, e2⟩ := hfd_ok hf
      rw [Nat.zero_add] at e1
      subst e1
      exact ⟨e2, h0⟩
    · cases h
def hmt2 (env : eEv) (τ : List eTi) (θ : List Nat) (hp : eHp) : eHp → Nat → eHp → Option (List Nat)
  | _, _, [] => some []
  | rest, n, q :: t => match lk θ q.1 with
    | some j => (match hnx j hp rest n with
      | some (k, c, r, n') => bif cmt env τ θ c q.2 then (match hmt2 env τ θ hp r n' t with
        | some ks => some (k :: ks)
        | none => none) else none
      | none => none)
    | none => none
def hmt (env : eEv) (τ : List eTi) (θ : List Nat) (hp : eHp) (th : eHp) : Option (List Nat) := hmt2 env τ θ hp hp 0 th
theorem hmt2_ok {ca : Nat → ClassId} {env : eEv} {ρ ρT : List Int} {α αT : List Nat} {τ : List eTi} {θ : List Nat} {hp : eHp} {ws : va_W} (hE : eOk env ρ) (h : tOk ρ τ ρT) (ha : aOk α θ αT) (hw : R2 (hrel ca ρ α) hp ws) : ∀ {th : eHp} {rest : eHp} {n : Nat} {ks : List Nat}, rest = hp.drop n → hmt2 env τ θ hp rest n th = some ks → ∃ wc : va_W, ks.map (fun i => ws[i]?) = wc.map some ∧ R2 (hrel ca ρT αT) th wc
  | [], rest, n, ks, h0, hk => by
    unfold hmt2 at hk
    cases hk
    exact ⟨[], rfl, trivial⟩
  | q :: t, rest, n, ks, h0, hk => by
    unfold hmt2 at hk
    split at hk
    · rename_i j hj
      rw [lk_eq] at hj
      split at hk
      · rename_i k c r n1 hf
        cases hb : cmt env τ θ c q.2
        · rw [hb] at hk; cases hk
        · rw [hb] at hk
          dsimp only [cond_true] at hk
          split at hk
          · rename_i ks' hks
            cases hk
            obtain ⟨e2, e1⟩ := hnx_ok h0 hf
            obtain ⟨wc, h1, h2⟩ := hmt2_ok hE h ha hw e1 hks
            obtain ⟨w, e3, e4, e5⟩ := R2.get hw e2
            obtain ⟨a, e6, e7⟩ := R2.get ha hj
            rw [e7] at e4
            cases e4
            exact ⟨w :: wc, by simp [h1, e3], ⟨e6, cmt_ok hE h ha hb e5⟩, h2⟩
          · cases hk
      · cases hk
    · cases hk
theorem hmt_ok {ca : Nat → ClassId} {env : eEv} {ρ ρT : List Int} {α αT : List Nat} {τ : List eTi} {θ : List Nat} {hp : eHp} {ws : va_W} (hE : eOk env ρ) (h : tOk ρ τ ρT) (ha : aOk α θ αT) (hw : R2 (hrel ca ρ α) hp ws) {th : eHp} {ks : List Nat} (hk : hmt env τ θ hp th = some ks) : ∃ wc : va_W, ks.map (fun i => ws[i]?) = wc.map some ∧ R2 (hrel ca ρT αT) th wc := hmt2_ok hE h ha hw (rest := hp) (n := 0) rfl hk
def mtA0 (na : Nat) (θ : List Nat) : Bool := θ.all (fun j => Nat.blt j na)
theorem mtA0_ok {α : List Nat} : ∀ {θ : List Nat}, mtA0 α.length θ = true → ∃ αT, aOk α θ αT ∧ αT.length = θ.length
  | [], _ => ⟨[], trivial, rfl⟩
  | j :: θ, h => by
    unfold mtA0 at h
    rw [List.all_cons, Bool.and_eq_true] at h
    obtain ⟨αT, h1, h2⟩ := mtA0_ok (θ := θ) h.2
    have h3 := blt_t h.1
    exact ⟨α[j] :: αT, ⟨List.getElem?_eq_getElem h3, h1⟩, by simp [h2]⟩
def nlq : List Nat → List Nat → Bool
  | [], [] => true
  | a :: s, b :: t => Nat.beq a b && nlq s t
  | _, _ => false
theorem nlq_t : ∀ {s t : List Nat}, nlq s t = true → s = t
  | [], [], _ => rfl
  | [], _ :: _, h => by cases h
  | _ :: _, [], h => by cases h
  | a :: s, b :: t, h => by
    unfold nlq at h
    rw [Bool.and_eq_true] at h
    rw [Nat.eq_of_beq_eq_true h.1, nlq_t h.2]
/-- the constants' places stay -/
def mtA (na : Nat) (θ : List Nat) : Bool := mtA0 na θ && nlq (θ.take 13) [0, 1, 2, 3, 4, 5, 6, 7, 8, 9, 10, 11, 12]
theorem mtA_ok {α : List Nat} {θ : List Nat} (h : mtA α.length θ = true) : ∃ αT, aOk α θ αT ∧ αT.length = θ.length := by
  unfold mtA at h
  rw [Bool.and_eq_true] at h
  exact mtA0_ok h.1
theorem mtA_px {ca : Nat → ClassId} {α αT θ : List Nat} {n : Nat} (h : mtA n θ = true) (hc : cpx ca α) (ha : aOk α θ αT) : cpx ca αT := by
  unfold mtA at h
  rw [Bool.and_eq_true] at h
  have e := nlq_t h.2
  intro k hk
  have h1 : θ[k]? = some k := by
    have h2 : (θ.take 13)[k]? = θ[k]? := by rw [List.getElem?_take]; rw [if_pos hk]
    rw [← h2, e]
    match k, hk with
    | 0, _ => rfl
    | 1, _ => rfl
    | 2, _ => rfl
    | 3, _ => rfl
    | 4, _ => rfl
    | 5, _ => rfl
    | 6, _ => rfl
    | 7, _ => rfl
    | 8, _ => rfl
    | 9, _ => rfl
    | 10, _ => rfl
    | 11, _ => rfl
    | 12, _ => rfl
  obtain ⟨w, w1, w2⟩ := R2.get ha h1
  have w3 : α[k]? = some w := w2
  rw [hc k hk] at w3
  rw [w1, ← w3]

theorem ile_of {a b : Int} (h : a ≤ b) : ile a b = true := by
  cases hb : ile a b
  · have := ile_f hb; omega
  · rfl
/-- facts in another state's words -/
def inFs1 (o : Option eLF) (ih : Option (List eLF)) : Option (List eLF) := match o, ih with
    | some g, some t' => some (g :: t')
    | _, _ => none
def inFs (τ : List eTi) (l : List eLF) : Option (List eLF) := @List.rec eLF (fun _ => Option (List eLF)) (some []) (fun f _ ih => inFs1 (sbf τ f) ih) l
theorem inFs_cons (τ : List eTi) (f : eLF) (t : List eLF) : inFs τ (f :: t) = inFs1 (sbf τ f) (inFs τ t) := rfl
theorem inFs_ok {ρ ρT : List Int} {τ : List eTi} (h : tOk ρ τ ρT) : ∀ {a b : List eLF}, inFs τ a = some b → ∃ xs, R2 (lfv ρT) a xs ∧ R2 (lfv ρ) b xs
  | [], b, hb => by cases hb; exact ⟨[], trivial, trivial⟩
  | f :: a, b, hb => by
    rw [inFs_cons] at hb
    unfold inFs1 at hb
    split at hb
    · rename_i g t' h1 h2
      cases hb
      obtain ⟨y, y1, y2⟩ := sbf_ok h h1
      obtain ⟨ys, z1, z2⟩ := inFs_ok h h2
      exact ⟨y :: ys, ⟨y1, z1⟩, ⟨y2, z2⟩⟩
    · cases hb
def inF1 (b : eBx) (o : Option (List eLF)) (ih : Option (List eFa)) : Option (List eFa) := match o, ih with
    | some a, some t' => some ((b, a) :: t')
    | _, _ => none
def inF (τ : List eTi) (l : List eFa) : Option (List eFa) := @List.rec eFa (fun _ => Option (List eFa)) (some []) (fun F _ ih => inF1 F.1 (inFs τ F.2) ih) l
theorem inF_cons (τ : List eTi) (F : eFa) (t : List eFa) : inF τ (F :: t) = inF1 F.1 (inFs τ F.2) (inF τ t) := rfl
theorem R2.fun2 {A B : Type} {r : A → B → Prop} (hr : ∀ a x y, r a x → r a y → x = y) : ∀ {a : List A} {xs ys : List B}, R2 r a xs → R2 r a ys → xs = ys
  | [], xs, ys, h1, h2 => by rw [R2.nil_inv h1, R2.nil_inv h2]
  | p :: a, xs, ys, h1, h2 => by
    obtain ⟨x, xs', rfl, g1, g2⟩ := R2.cons_inv h1
    obtain ⟨y, ys', rfl, k1, k2⟩ := R2.cons_inv h2
    rw [hr p x y g1 k1, R2.fun2 hr g2 k2]
theorem inF_ok {ρ ρT : List Int} {τ : List eTi} (h : tOk ρ τ ρT) : ∀ {a b : List eFa}, inF τ a = some b → fOk ρT a → fOk ρ b
  | [], b, hb, _ => by cases hb; intro F hF; cases hF
  | F :: a, b, hb, hf => by
    rw [inF_cons] at hb
    unfold inF1 at hb
    split at hb
    · rename_i g t' h1 h2
      cases hb
      intro G hG
      rcases List.mem_cons.mp hG with rfl | hG
      · obtain ⟨xs, y1, y2⟩ := hf F List.mem_cons_self
        obtain ⟨ys, z1, z2⟩ := inFs_ok h h1
        have e := R2.fun2 (r := lfv ρT) (fun _ _ _ u v => lfv_fun u v) y1 z1
        subst e
        exact ⟨xs, z2, y2⟩
      · exact inF_ok h h2 (fun F' hF' => hf F' (List.mem_cons_of_mem _ hF')) G hG
    · cases hb
/-- where a form's number lies, by the intervals and by a box that holds of other forms -/
def isec (i j : Int × Int) : Int × Int := (imax i.1 j.1, imin i.2 j.2)
def rg0 (env : eEv) (f : eLF) : Option (Int × Int) := match lrg env f.1 with
  | some j => some (j.1 + f.2, j.2 + f.2)
  | none => none
def rgB (env : eEv) : List eLF → List (Int × Int) → eLF → Option (Int × Int)
  | g :: a, i :: b, f => (match fsub f g with
    | ([], d) => (match rg0 env f with
      | some j => some (isec (i.1 + d, i.2 + d) j)
      | none => some (i.1 + d, i.2 + d))
    | _ => rgB env a b f)
  | _, _, f => rg0 env f
theorem isec_ok {i j : Int × Int} {x : Int} (h1 : ivr i x) (h2 : ivr j x) : ivr (isec i j) x := by
  have a1 := h1.1
  have a2 := h1.2
  have a3 := h2.1
  have a4 := h2.2
  constructor
  · show imax i.1 j.1 ≤ x
    rcases imax_or i.1 j.1 with e | e <;> rw [e] <;> assumption
  · show x ≤ imin i.2 j.2
    rcases imin_or i.2 j.2 with e | e <;> rw [e] <;> assumption
theorem rg0_ok {env : eEv} {ρ : List Int} (hE : eOk env ρ) {f : eLF} {i : Int × Int} {x : Int} (h : rg0 env f = some i) (hx : lfv ρ f x) : ivr i x := by
  unfold rg0 at h
  split at h
  · rename_i j hj
    cases h
    have := lrg_ok hE hj hx
    have a1 := this.1
    have a2 := this.2
    exact ⟨by show j.1 + f.2 ≤ x; omega, by show x ≤ j.2 + f.2; omega⟩
  · cases h
theorem rgB_ok {env : eEv} {ρ : List Int} (hE : eOk env ρ) : ∀ {a : List eLF} {b : List (Int × Int)} {xs : List Int} {f : eLF} {i : Int × Int} {x : Int}, R2 (lfv ρ) a xs → R2 ivr b xs → rgB env a b f = some i → lfv ρ f x → ivr i x
  | [], b, xs, f, i, x, ha, hb, h, hx => rg0_ok hE h hx
  | g :: a, [], xs, f, i, x, ha, hb, h, hx => rg0_ok hE h hx
  | g :: a, q :: b, xs, f, i, x, ha, hb, h, hx => by
    obtain ⟨y, ys, rfl, h1, h2⟩ := R2.cons_inv ha
    have hb' : ivr q y ∧ R2 ivr b ys := hb
    unfold rgB at h
    split at h
    · rename_i d hd
      have q1 := fsub_ok hx h1
      rw [hd] at q1
      have q2 : x - y = d := fc_inv q1
      have b1 := hb'.1.1
      have b2 := hb'.1.2
      have q3 : ivr (q.1 + d, q.2 + d) x := ⟨by show q.1 + d ≤ x; omega, by show x ≤ q.2 + d; omega⟩
      split at h
      · rename_i j hj
        cases h
        exact isec_ok q3 (rg0_ok hE hj hx)
      · cases h; exact q3
    · exact rgB_ok hE h2 hb'.2 h hx
/-- can the box be? -/
def bxC (env : eEv) : List eLF → List (Int × Int) → Bool
  | f :: a, i :: b => (match rg0 env f with
    | some j => ile i.1 j.2 && ile j.1 i.2
    | none => true) && bxC env a b
  | _, _ => true
theorem bxC_ok {env : eEv} {ρ : List Int} (hE : eOk env ρ) : ∀ {a : List eLF} {b : List (Int × Int)} {xs : List Int}, R2 (lfv ρ) a xs → R2 ivr b xs → bxC env a b = true
  | [], b, xs, ha, hb => by unfold bxC; rfl
  | f :: a, [], xs, ha, hb => rfl
  | f :: a, i :: b, xs, ha, hb => by
    obtain ⟨y, ys, rfl, h1, h2⟩ := R2.cons_inv ha
    have hb' : ivr i y ∧ R2 ivr b ys := hb
    unfold bxC
    rw [Bool.and_eq_true]
    refine ⟨?_, bxC_ok hE h2 hb'.2⟩
    split
    · rename_i j hj
      have q := rg0_ok hE hj h1
      rw [Bool.and_eq_true]
      exact ⟨ile_of (Int.le_trans hb'.1.1 q.2), ile_of (Int.le_trans q.1 hb'.1.2)⟩
    · rfl
/-- do the forms lie in the box? -/
def bxI (env : eEv) (a0 : List eLF) (b0 : List (Int × Int)) : List eLF → List (Int × Int) → Bool
  | [], [] => true
  | f :: a, i :: b => (match rgB env a0 b0 f with
    | some j => ivin j i
    | none => false) && bxI env a0 b0 a b
  | _, _ => false
theorem bxI_ok {env : eEv} {ρ : List Int} (hE : eOk env ρ) {a0 : List eLF} {b0 : List (Int × Int)} {x0 : List Int} (h0 : R2 (lfv ρ) a0 x0) (h1 : R2 ivr b0 x0) : ∀ {a : List eLF} {b : List (Int × Int)} {xs : List Int}, bxI env a0 b0 a b = true → R2 (lfv ρ) a xs → R2 ivr b xs
  | [], [], xs, h, ha => by rw [R2.nil_inv ha]; trivial
  | [], _ :: _, xs, h, ha => by cases h
  | _ :: _, [], xs, h, ha => by cases h
  | f :: a, i :: b, xs, h, ha => by
    obtain ⟨y, ys, rfl, h2, h3⟩ := R2.cons_inv ha
    unfold bxI at h
    rw [Bool.and_eq_true] at h
    refine ⟨?_, bxI_ok hE h0 h1 h.2 h3⟩
    have h4 := h.1
    split at h4
    · rename_i j hj
      exact ivin_ok h4 (rgB_ok hE h0 h1 hj h2)
    · cases h4
def iveq (i j : Int × Int) : Bool := ieq i.1 j.1 && ieq i.2 j.2
def bx1 : List (Int × Int) → List (Int × Int) → Bool
  | [], [] => true
  | i :: a, j :: b => iveq i j && bx1 a b
  | _, _ => false
def bxeq : List (List (Int × Int)) → List (List (Int × Int)) → Bool
  | [], [] => true
  | a :: s, b :: t => bx1 a b && bxeq s t
  | _, _ => false
theorem bx1_t : ∀ {a b : List (Int × Int)}, bx1 a b = true → a = b
  | [], [], _ => rfl
  | [], _ :: _, h => by cases h
  | _ :: _, [], h => by cases h
  | i :: a, j :: b, h => by
    unfold bx1 iveq at h
    rw [Bool.and_eq_true, Bool.and_eq_true] at h
    rw [bx1_t h.2, show i = j from Prod.ext (ieq_t h.1.1) (ieq_t h.1.2)]
theorem bxeq_t : ∀ {a b : List (List (Int × Int))}, bxeq a b = true → a = b
  | [], [], _ => rfl
  | [], _ :: _, h => by cases h
  | _ :: _, [], h => by cases h
  | i :: a, j :: b, h => by
    unfold bxeq at h
    rw [Bool.and_eq_true] at h
    rw [bx1_t h.1, bxeq_t h.2]
def fsbeq : List eLF → List eLF → Bool
  | [], [] => true
  | f :: a, g :: b => fbeq f g && fsbeq a b
  | _, _ => false
theorem fsbeq_t : ∀ {a b : List eLF}, fsbeq a b = true → a = b
  | [], [], _ => rfl
  | [], _ :: _, h => by cases h
  | _ :: _, [], h => by cases h
  | i :: a, j :: b, h => by
    unfold fsbeq at h
    rw [Bool.and_eq_true] at h
    rw [fbeq_t h.1, fsbeq_t h.2]
def bxq (a b : eBx) : Bool := match a, b with
  | .inr m, .inr n => Nat.beq m n
  | .inl l, .inl r => bxeq l r
  | _, _ => false
theorem bxq_t {a b : eBx} (h : bxq a b = true) : a = b := by
  unfold bxq at h
  split at h
  · rw [Nat.eq_of_beq_eq_true h]
  · rw [bxeq_t h]
  · cases h
/-- a form's range by single facts, one taken off behind another -/
def rsm (env : eEv) (fs : List eFa) : List Nat → eLF → Option (Int × Int)
  | [], f => rg0 env f
  | k :: ks, f => (match lk fs k with
    | some (Sum.inl [[i]], [g]) => (match rsm env fs ks (fsub f g) with
      | some j => some (i.1 + j.1, i.2 + j.2)
      | none => none)
    | _ => none)
theorem sing_ok {ρ : List Int} {i : Int × Int} {g : eLF} (h : bxOk ρ (Sum.inl [[i]], [g])) : ∃ y, lfv ρ g y ∧ ivr i y := by
  obtain ⟨xs, x1, hb⟩ := h
  obtain ⟨b, b1, b2⟩ := (bxS_b (b := Sum.inl [[i]]) rfl).mp hb
  have b1 : b ∈ [[i]] := b1
  rcases List.mem_cons.mp b1 with rfl | b1
  · obtain ⟨y, ys, rfl, y1, y2⟩ := R2.cons_inv x1
    exact ⟨y, y1, b2.1⟩
  · cases b1
theorem rsm_ok {env : eEv} {ρ : List Int} (hE : eOk env ρ) {fs : List eFa} (hf : fOk ρ fs) : ∀ {ks : List Nat} {f : eLF} {i : Int × Int} {x : Int}, rsm env fs ks f = some i → lfv ρ f x → ivr i x
  | [], f, i, x, h, hx => rg0_ok hE h hx
  | k :: ks, f, i, x, h, hx => by
    unfold rsm at h
    split at h
    · rename_i q g hG
      rw [lk_eq] at hG
      split at h
      · rename_i j hj
        cases h
        obtain ⟨y, y1, y2⟩ := sing_ok (hf _ (List.mem_of_getElem? hG))
        have z := rsm_ok hE hf hj (fsub_ok hx y1)
        have a1 := y2.1
        have a2 := y2.2
        have a3 := z.1
        have a4 := z.2
        exact ⟨by show q.1 + j.1 ≤ x; omega, by show x ≤ q.2 + j.2; omega⟩
      · cases h
    · cases h
/-- a template's fact: by the intervals, as a known one, box by box of a known one, by a sum of single ones -/
def fma (env : eEv) (fs : List eFa) (τ : List eTi) (h : List Nat) (F : eFa) : Bool := match inFs τ F.2 with
  | none => false
  | some as => (match h with
    | [] => bq (tgd F.1) false ((bxG F.1).any (bxI env [] [] as))
    | 0 :: k :: _ => (match lk fs k with
      | some G => bxq G.1 F.1 && fsbeq G.2 as
      | none => false)
    | 1 :: k :: _ => (match lk fs k with
      | some G => bq (tgd G.1) false (bq (tgd F.1) false ((bxG G.1).all (fun b0 => bif bxC env G.2 b0 then (bxG F.1).any (bxI env G.2 b0 as) else true)))
      | none => false)
    | 2 :: ks => (match F.1, as with
      | .inl [[i]], [f] => (match rsm env fs ks f with
        | some j => (match rg0 env f with
          | some r => ivin (isec j r) i
          | none => ivin j i)
        | none => false)
      | _, _ => false)
    | _ => false)
theorem fma_ok {env : eEv} {ρ ρT : List Int} {τ : List eTi} (hE : eOk env ρ) (ht : tOk ρ τ ρT) {fs : List eFa} (hf : fOk ρ fs) {h : List Nat} {F : eFa} (hm : fma env fs τ h F = true) : bxOk ρT F := by
  unfold fma at hm
  split at hm
  · cases hm
  · rename_i as has
    obtain ⟨xs, x1, x2⟩ := inFs_ok ht has
    split at hm
    · cases hg : tgd F.1
      · rw [hg, bq_f] at hm
        obtain ⟨b, b1, b2⟩ := List.any_eq_true.mp hm
        exact ⟨xs, x1, (bxS_b hg).mpr ⟨b, b1, bxI_ok hE (a0 := []) (b0 := []) (x0 := []) trivial trivial b2 x2⟩⟩
      · rw [hg] at hm
        cases hm
    · split at hm
      · rename_i G hG
        rw [lk_eq] at hG
        obtain ⟨ys, y1, y2⟩ := hf G (List.mem_of_getElem? hG)
        rw [Bool.and_eq_true] at hm
        have e := fsbeq_t hm.2
        subst e
        have e2 := R2.fun2 (r := lfv ρ) (fun _ _ _ u v => lfv_fun u v) y1 x2
        subst e2
        exact ⟨ys, x1, by rw [← bxq_t hm.1]; exact y2⟩
      · cases hm
    · split at hm
      · rename_i G hG
        rw [lk_eq] at hG
        cases hg : tgd G.1
        · rw [hg, bq_f] at hm
          cases hg2 : tgd F.1
          · rw [hg2, bq_f] at hm
            obtain ⟨ys, y1, hb⟩ := hf G (List.mem_of_getElem? hG)
            obtain ⟨b0, y2, y3⟩ := (bxS_b hg).mp hb
            have h1 := List.all_eq_true.mp hm b0 y2
            rw [bxC_ok hE y1 y3] at h1
            obtain ⟨b, b1, b2⟩ := List.any_eq_true.mp h1
            exact ⟨xs, x1, (bxS_b hg2).mpr ⟨b, b1, bxI_ok hE y1 y3 b2 x2⟩⟩
          · rw [hg2] at hm
            cases hm
        · rw [hg] at hm
          cases hm
      · cases hm
    · split at hm
      · rename_i i f hF
        split at hm
        · rename_i j hj
          obtain ⟨y, ys, rfl, z1, z2⟩ := R2.cons_inv x2
          have e := R2.nil_inv z2
          subst e
          split at hm
          · rename_i r hr
            exact ⟨[y], x1, by rw [hF]; exact (bxS_b rfl).mpr ⟨[i], List.mem_cons_self, ⟨ivin_ok hm (isec_ok (rsm_ok hE hf hj z1) (rg0_ok hE hr z1)), trivial⟩⟩⟩
          · exact ⟨[y], x1, by rw [hF]; exact (bxS_b rfl).mpr ⟨[i], List.mem_cons_self, ⟨ivin_ok hm (rsm_ok hE hf hj z1), trivial⟩⟩⟩
        · cases hm
      · cases hm
    · cases hm
def fsm (τ : List eTi) (rest : List eFa) (F : eFa) : Bool := match rest with
  | G :: _ => (match inFs τ F.2 with
    | some as => bxq G.1 F.1 && fsbeq G.2 as
    | none => false)
  | [] => false
theorem fsm_ok {ρ ρT : List Int} {τ : List eTi} (ht : tOk ρ τ ρT) {rest : List eFa} (hf : fOk ρ rest) {F : eFa} (hm : fsm τ rest F = true) : bxOk ρT F := by
  unfold fsm at hm
  split at hm
  · rename_i G r
    split at hm
    · rename_i as has
      obtain ⟨xs, x1, x2⟩ := inFs_ok ht has
      obtain ⟨ys, y1, y2⟩ := hf G List.mem_cons_self
      rw [Bool.and_eq_true] at hm
      have e := fsbeq_t hm.2
      subst e
      have e2 := R2.fun2 (r := lfv ρ) (fun _ _ _ u v => lfv_fun u v) y1 x2
      subst e2
      exact ⟨ys, x1, by rw [← bxq_t hm.1]; exact y2⟩
    · cases hm
  · cases hm
def fmq1 (env : eEv) (fs : List eFa) (τ : List eTi) (rest : List eFa) (h : List Nat) (F : eFa) : Bool := match h with
  | [3] => fsm τ rest F
  | _ => fma env fs τ h F
theorem fmq1_ok {env : eEv} {ρ ρT : List Int} {τ : List eTi} (hE : eOk env ρ) (ht : tOk ρ τ ρT) {fs rest : List eFa} (hf : fOk ρ fs) (hr : fOk ρ rest) {h : List Nat} {F : eFa} (hm : fmq1 env fs τ rest h F = true) : bxOk ρT F := by
  unfold fmq1 at hm
  split at hm
  · exact fsm_ok ht hr hm
  · exact fma_ok hE ht hf hm
def fmt3 (env : eEv) (fs : List eFa) (τ : List eTi) (F : eFa) (ih : List eFa → List (List Nat) → Bool) (rest : List eFa) (hs : List (List Nat)) : Bool := match hs with
  | [] => bq (fma env fs τ [] F) (ih rest.tail []) false
  | h :: hs => bq (fmq1 env fs τ rest h F) (ih rest.tail hs) false
def fmt2 (env : eEv) (fs : List eFa) (τ : List eTi) (rest : List eFa) (hs : List (List Nat)) (l : List eFa) : Bool := @List.rec eFa (fun _ => List eFa → List (List Nat) → Bool) (fun _ _ => true) (fun F _ ih => fmt3 env fs τ F ih) l rest hs
theorem bq_and (a b : Bool) : bq a b false = (a && b) := by cases a <;> rfl
theorem fmt2_nil (env : eEv) (fs : List eFa) (τ : List eTi) (rest : List eFa) (F : eFa) (t : List eFa) : fmt2 env fs τ rest [] (F :: t) = (fma env fs τ [] F && fmt2 env fs τ rest.tail [] t) := bq_and _ _
theorem fmt2_cons (env : eEv) (fs : List eFa) (τ : List eTi) (rest : List eFa) (h : List Nat) (hs : List (List Nat)) (F : eFa) (t : List eFa) : fmt2 env fs τ rest (h :: hs) (F :: t) = (fmq1 env fs τ rest h F && fmt2 env fs τ rest.tail hs t) := bq_and _ _
theorem fOk_tail {ρ : List Int} {l : List eFa} (h : fOk ρ l) : fOk ρ l.tail := fun F hF => h F (List.mem_of_mem_tail hF)
theorem fmt2_ok {env : eEv} {ρ ρT : List Int} {τ : List eTi} (hE : eOk env ρ) (ht : tOk ρ τ ρT) {fs : List eFa} (hf : fOk ρ fs) : ∀ {t : List eFa} {rest : List eFa} {hs : List (List Nat)}, fOk ρ rest → fmt2 env fs τ rest hs t = true → fOk ρT t
  | [], rest, hs, hr, h => fun F hF => by cases hF
  | F :: t, rest, [], hr, h => by
    rw [fmt2_nil] at h
    rw [Bool.and_eq_true] at h
    intro G hG
    rcases List.mem_cons.mp hG with rfl | hG
    · exact fma_ok hE ht hf h.1
    · exact fmt2_ok hE ht hf (fOk_tail hr) h.2 G hG
  | F :: t, rest, k :: hs, hr, h => by
    rw [fmt2_cons] at h
    rw [Bool.and_eq_true] at h
    intro G hG
    rcases List.mem_cons.mp hG with rfl | hG
    · exact fmq1_ok hE ht hf hr h.1
    · exact fmt2_ok hE ht hf (fOk_tail hr) h.2 G hG
def fmt (env : eEv) (fs : List eFa) (τ : List eTi) (hs : List (List Nat)) (t : List eFa) : Bool := fmt2 env fs τ fs hs t
theorem fmt_ok {env : eEv} {ρ ρT : List Int} {τ : List eTi} (hE : eOk env ρ) (ht : tOk ρ τ ρT) {fs : List eFa} (hf : fOk ρ fs) {hs : List (List Nat)} {t : List eFa} (h : fmt env fs τ hs t = true) : fOk ρT t := fmt2_ok hE ht hf hf h
theorem lrg_ex {env : eEv} {ρ : List Int} (hE : eOk env ρ) : ∀ {t : List (Nat × Int)} {j : Int × Int}, lrg env t = some j → ∃ x, lev ρ t = some x
  | [], j, h => ⟨0, rfl⟩
  | q :: t, j, h => by
    rw [lrg_cons] at h
    unfold lrg1 at h
    split at h
    · rename_i i jj h1 h2
      obtain ⟨x, e1, _⟩ := lke_ok hE h1
      obtain ⟨y, e2⟩ := lrg_ex hE h2
      exact ⟨_, lev_mk e1 e2⟩
    · cases h
/-- bounds of a form by the intervals, or by a single fact taken off or put to it -/
def loF (env : eEv) (fs : List eFa) (f : eLF) (c : Int) : Bool := fs.any (fun G => match G with
  | (Sum.inl [[q]], [g]) => (match rg0 env (fsub f g) with
    | some j => ile c (q.1 + j.1)
    | none => false) || (match rg0 env (fadd f g) with
    | some j => ile c (j.1 - q.2)
    | none => false)
  | _ => false)
def upF (env : eEv) (fs : List eFa) (f : eLF) (c : Int) : Bool := fs.any (fun G => match G with
  | (Sum.inl [[q]], [g]) => (match rg0 env (fsub f g) with
    | some j => ile (q.2 + j.2) c
    | none => false) || (match rg0 env (fadd f g) with
    | some j => ile (j.2 - q.1) c
    | none => false)
  | _ => false)
theorem loF_ok {env : eEv} {ρ : List Int} (hE : eOk env ρ) {fs : List eFa} (hf : fOk ρ fs) {f : eLF} {c x : Int} (hx : lfv ρ f x) (h : loF env fs f c = true) : c ≤ x := by
  obtain ⟨G, hG, h1⟩ := List.any_eq_true.mp h
  split at h1
  · rename_i q g
    obtain ⟨y, y1, y2⟩ := sing_ok (hf _ hG)
    have a1 := y2.1
    have a2 := y2.2
    rw [Bool.or_eq_true] at h1
    rcases h1 with h1 | h1
    · split at h1
      · rename_i j hj
        have z := (rg0_ok hE hj (fsub_ok hx y1)).1
        have := ile_t h1
        omega
      · cases h1
    · split at h1
      · rename_i j hj
        have z := (rg0_ok hE hj (fadd_ok hx y1)).1
        have := ile_t h1
        omega
      · cases h1
  · cases h1
theorem upF_ok {env : eEv} {ρ : List Int} (hE : eOk env ρ) {fs : List eFa} (hf : fOk ρ fs) {f : eLF} {c x : Int} (hx : lfv ρ f x) (h : upF env fs f c = true) : x ≤ c := by
  obtain ⟨G, hG, h1⟩ := List.any_eq_true.mp h
  split at h1
  · rename_i q g
    obtain ⟨y, y1, y2⟩ := sing_ok (hf _ hG)
    have a1 := y2.1
    have a2 := y2.2
    rw [Bool.or_eq_true] at h1
    rcases h1 with h1 | h1
    · split at h1
      · rename_i j hj
        have z := (rg0_ok hE hj (fsub_ok hx y1)).2
        have := ile_t h1
        omega
      · cases h1
    · split at h1
      · rename_i j hj
        have z := (rg0_ok hE hj (fadd_ok hx y1)).2
        have := ile_t h1
        omega
      · cases h1
  · cases h1
theorem nvs_ok : ∀ (σ a b : List Int), R2 (lfv (a ++ σ ++ b)) (nvs a.length σ.length) σ
  | [], a, b => trivial
  | x :: σ, a, b => by
    refine ⟨?_, ?_⟩
    · show lev (a ++ (x :: σ) ++ b) [(a.length, 1)] = some (x - 0)
      rw [lev_mk (q := (a.length, 1)) (x := x) (y := 0) (by simp) rfl]
      congr 1
      show 1 * x + 0 = x - 0
      omega
    · have h := nvs_ok σ (a ++ [x]) b
      rw [show (a ++ [x]).length = a.length + 1 by simp, show a ++ [x] ++ σ ++ b = a ++ (x :: σ) ++ b by simp] at h
      exact h
theorem R2.drop {A B : Type} {r : A → B → Prop} : ∀ {a : List A} {b : List B} (n : Nat), R2 r a b → R2 r (a.drop n) (b.drop n)
  | a, b, 0, h => by simpa using h
  | [], b, n + 1, h => by rw [R2.nil_inv h]; exact trivial
  | p :: a, b, n + 1, h => by
    obtain ⟨y, ys, rfl, h1, h2⟩ := R2.cons_inv h
    exact R2.drop n h2
/-- a form whose numbers are all there -/
def wfl (n : Nat) (l : List (Nat × Int)) : Bool := @List.rec (Nat × Int) (fun _ => Bool) true (fun q _ ih => bq (Nat.blt q.1 n) ih false) l
theorem wfl_ok {ρ : List Int} : ∀ {t : List (Nat × Int)}, wfl ρ.length t = true → ∃ x, lev ρ t = some x
  | [], _ => ⟨0, rfl⟩
  | q :: t, h => by
    have h' : bq (Nat.blt q.1 ρ.length) (wfl ρ.length t) false = true := h
    cases hb : Nat.blt q.1 ρ.length
    · rw [hb] at h'; cases h'
    · rw [hb, bq_t] at h'
      have hk : q.1 < ρ.length := Nat.le_of_ble_eq_true hb
      obtain ⟨y, e2⟩ := wfl_ok h'
      exact ⟨_, lev_mk (List.getElem?_eq_getElem hk) e2⟩
/-- a number of which nothing is said -/
def nob (T : eEv) (k : Nat) : Bool := bq (Nat.beq (dg T.2 (Nat.mul 2 k)) 0) (Nat.beq (dg T.2 (Nat.add (Nat.mul 2 k) 1)) 0) false
theorem nob_ok {T : eEv} {k : Nat} (h : nob T k = true) (x : Int) : dOk T.2 k x := by
  unfold nob at h
  cases hb : Nat.beq (dg T.2 (Nat.mul 2 k)) 0
  · rw [hb] at h; cases h
  · rw [hb, bq_t] at h
    exact ⟨Or.inr (Nat.eq_of_beq_eq_true hb), Or.inr (Nat.eq_of_beq_eq_true h)⟩
/-- the numbers of a template, from its k-th on -/
def mtE1 (env : eEv) (fs : List eFa) (T : eEv) : List eTi → Nat → Bool
  | [], k => Nat.beq k T.1
  | .inl f :: τ, k => (match lke T k, lrg env f.1 with
    | some i, some j => (ile i.1 (j.1 + f.2) || loF env fs f i.1) && (ile (j.2 + f.2) i.2 || upF env fs f i.2)
    | none, _ => bq (nob T k) (wfl env.1 f.1) false
    | some _, none => false) && mtE1 env fs T τ (Nat.add k 1)
  | .inr q :: τ, k => (Nat.ble (Nat.add q.1 q.2) env.1 && (Nat.ble (Nat.add k q.2) T.1 && swr (Nat.mul 2 q.2) (dsh env.2 (Nat.mul 2 q.1)) (dsh T.2 (Nat.mul 2 k)))) && mtE1 env fs T τ (Nat.add k q.2)
def mtE (env : eEv) (fs : List eFa) (τ : List eTi) (T : eEv) : Bool := mtE1 env fs T τ 0
theorem mtE1_ok {env : eEv} {ρ : List Int} (hE : eOk env ρ) {fs : List eFa} (hf : fOk ρ fs) {T : eEv} : ∀ {τ : List eTi} {k : Nat}, mtE1 env fs T τ k = true → ∃ ρT, tOk ρ τ ρT ∧ k + ρT.length = T.1 ∧ ∀ i x, ρT[i]? = some x → dOk T.2 (k + i) x
  | [], k, h => ⟨[], trivial, Nat.eq_of_beq_eq_true h, fun i x hx => by rw [List.getElem?_nil] at hx; cases hx⟩
  | .inl f :: τ, k, h => by
    unfold mtE1 at h
    rw [Bool.and_eq_true] at h
    obtain ⟨ρT, h1, h2, h5⟩ := mtE1_ok hE hf h.2
    have h2 : k + 1 + ρT.length = T.1 := h2
    have h3 := h.1
    split at h3
    · rename_i i j hi hj
      rw [Bool.and_eq_true, Bool.or_eq_true, Bool.or_eq_true] at h3
      obtain ⟨x, hx⟩ := lrg_ex hE hj
      have h4 := lrg_ok hE hj hx
      have hv : lfv ρ f (x + f.2) := by unfold lfv; rw [hx]; congr 1; omega
      refine ⟨(x + f.2) :: ρT, ⟨hv, h1⟩, by rw [List.length_cons]; omega, fun n y hy => ?_⟩
      cases n with
      | zero =>
        rw [List.getElem?_cons_zero] at hy
        cases hy
        refine (dOk_iff hi _).mp ⟨?_, ?_⟩
        · rcases h3.1 with z | z
          · have := ile_t z; have := h4.1; omega
          · exact loF_ok hE hf hv z
        · rcases h3.2 with z | z
          · have := ile_t z; have := h4.2; omega
          · exact upF_ok hE hf hv z
      | succ n =>
        rw [List.getElem?_cons_succ] at hy
        have g := h5 n y hy
        rw [show k + (n + 1) = Nat.add k 1 + n by show k + (n + 1) = k + 1 + n; omega]
        exact g
    · cases hb : nob T k
      · rw [hb] at h3; cases h3
      · rw [hb, bq_t, ← hE.1] at h3
        obtain ⟨x, hx⟩ := wfl_ok h3
        have hv : lfv ρ f (x + f.2) := by unfold lfv; rw [hx]; congr 1; omega
        refine ⟨(x + f.2) :: ρT, ⟨hv, h1⟩, by rw [List.length_cons]; omega, fun n y hy => ?_⟩
        cases n with
        | zero => exact nob_ok hb y
        | succ n =>
          rw [List.getElem?_cons_succ] at hy
          have g := h5 n y hy
          rw [show k + (n + 1) = Nat.add k 1 + n by show k + (n + 1) = k + 1 + n; omega]
          exact g
    · cases h3
  | .inr q :: τ, k, h => by
    unfold mtE1 at h
    rw [Bool.and_eq_true, Bool.and_eq_true, Bool.and_eq_true] at h
    obtain ⟨⟨b1, b2, b3⟩, b4⟩ := h
    have b1 : q.1 + q.2 ≤ env.1 := Nat.le_of_ble_eq_true b1
    have b2 : k + q.2 ≤ T.1 := Nat.le_of_ble_eq_true b2
    obtain ⟨ρT, h1, h2, h5⟩ := mtE1_ok hE hf b4
    have h2 : k + q.2 + ρT.length = T.1 := h2
    have hl0 := hE.1
    have hlen : ((ρ.drop q.1).take q.2).length = q.2 := by rw [List.length_take, List.length_drop]; omega
    refine ⟨(ρ.drop q.1).take q.2 ++ ρT, R2.app ?_ h1, by rw [List.length_append, hlen]; omega, fun n y hy => ?_⟩
    · have hl : (ρ.take q.1).length = q.1 := by rw [List.length_take]; omega
      have e := nvs_ok ((ρ.drop q.1).take q.2) (ρ.take q.1) ((ρ.drop q.1).drop q.2)
      rw [hl, hlen] at e
      have e2 : ρ.take q.1 ++ (ρ.drop q.1).take q.2 ++ (ρ.drop q.1).drop q.2 = ρ := by
        rw [List.append_assoc, List.take_append_drop, List.take_append_drop]
      rw [e2] at e
      exact e
    · rcases Nat.lt_or_ge n q.2 with g | g
      · rw [List.getElem?_append_left (by rw [hlen]; exact g), List.getElem?_take, if_pos g, List.getElem?_drop] at hy
        have d := hE.2 _ y hy
        have s0 := swr_ok b3 (2 * n) (by show 2 * n < 2 * q.2; omega)
        have s1 := swr_ok b3 (2 * n + 1) (by show 2 * n + 1 < 2 * q.2; omega)
        rw [dg_sh, dg_sh] at s0 s1
        have d1 := d.1
        have d2 := d.2
        rw [show 2 * (q.1 + n) = Nat.mul 2 q.1 + 2 * n from Nat.mul_add 2 q.1 n] at d1
        rw [show 2 * (q.1 + n) + 1 = Nat.mul 2 q.1 + (2 * n + 1) from congrArg (· + 1) (Nat.mul_add 2 q.1 n)] at d2
        refine ⟨?_, ?_⟩
        · rw [show 2 * (k + n) = Nat.mul 2 k + 2 * n from Nat.mul_add 2 k n]
          rcases d1 with z | z
          · exact Or.inl (by omega)
          · exact Or.inr (by omega)
        · rw [show 2 * (k + n) + 1 = Nat.mul 2 k + (2 * n + 1) from congrArg (· + 1) (Nat.mul_add 2 k n)]
          rcases d2 with z | z
          · exact Or.inl (by omega)
          · exact Or.inr (by omega)
      · rw [List.getElem?_append_right (by rw [hlen]; exact g), hlen] at hy
        have e := h5 _ y hy
        rw [show Nat.add k q.2 + (n - q.2) = k + n by show k + q.2 + (n - q.2) = k + n; omega] at e
        exact e
theorem mtE_ok {env : eEv} {ρ : List Int} (hE : eOk env ρ) {fs : List eFa} (hf : fOk ρ fs) {τ : List eTi} {T : eEv} (h : mtE env fs τ T = true) : ∃ ρT, tOk ρ τ ρT ∧ eOk T ρT := by
  obtain ⟨ρT, h1, h2, h3⟩ := mtE1_ok hE hf (show mtE1 env fs T τ 0 = true from h)
  refine ⟨ρT, h1, by rw [← h2, Nat.zero_add], fun i x hx => ?_⟩
  have g := h3 i x hx
  rw [Nat.zero_add] at g
  exact g
end
