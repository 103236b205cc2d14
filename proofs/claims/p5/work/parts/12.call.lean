noncomputable section
/-! contracts, calls, returns -/
abbrev ePo : Type := eEv × Option eSV × eHp × eNa
abbrev eK : Type := Nat × (eEv × List eSV × eHp × eNa) × List ePo × Nat × Nat × Nat
def cwd (w : Cond) : Option (MethodName × ByteArray × Nat × Option FieldType) := match w with
  | .code y b n r => some (y, b, n, r)
  | _ => none
def mtab : List (MethodName × ByteArray × Nat × Option FieldType) := lw_tbl.filterMap cwd
theorem mtab_in {k : Nat} {q : MethodName × ByteArray × Nat × Option FieldType} (h : mtab[k]? = some q) : Cond.code q.1 q.2.1 q.2.2.1 q.2.2.2 ∈ gtbl := by
  obtain ⟨w, h1, h2⟩ := List.mem_filterMap.mp (List.mem_of_getElem? h)
  unfold cwd at h2
  split at h2
  · cases h2; exact in_g h1 rfl
  · cases h2
theorem goodG {ws : List Cond} (h : ∀ w ∈ ws, w ∈ gtbl) : GoodIn gtbl ws := fun w hw => ⟨h w hw, good_of_word (List.mem_filter.mp (h w hw)).2⟩
def retOk (ρ : List Int) (α : List Nat) (r : Option eSV) (v : Option Value) : Prop := match r, v with
  | none, none => True
  | some sv, some w => vok ρ α sv w
  | _, _ => False
def QK (D : va_G) (ca : Nat → ClassId) (K : eK) (ρ : List Int) (α : List Nat) (ws : va_W) (sz : Nat) : Array Value → State → Outcome → State → Prop := fun _ st oc t =>
  (∃ (v : Option Value) (P : ePo) (σ : List Int) (β : List Nat) (ws' : va_W), oc = .returned v ∧ P ∈ K.2.2.1 ∧ eOk P.1 (ρ ++ σ) ∧ nOk P.2.2.2 (ρ ++ σ) (α ++ β) ∧ retOk (ρ ++ σ) (α ++ β) P.2.1 v ∧ R2 (hrel ca (ρ ++ σ) (α ++ β)) P.2.2.1 ws' ∧ va_P D vwCl ws' t.heap ∧ va_D (va_A ws sz) ws') ∧ va_F (va_A ws sz) st t
def rmK (K : eK) : Room := { frames := K.2.2.2.2.2, cells := K.2.2.2.1, slots := K.2.2.2.2.1, locals := 60 * K.2.2.2.2.2 }
def PcK (D : va_G) (ca : Nat → ClassId) (av : List Value) (ws : va_W) (sz : Nat) : Array Value → State → Prop := va_Pc av (fun U => U.heap.size = sz ∧ va_P D vwCl ws U.heap ∧ va_K D vwCl (tys0 ca) U ∧ XW U ∧ ZW ca (va_A ws sz) U U.heap)
def KMet (l : Launch) (D : va_G) (ca : Nat → ClassId) (K : eK) : Prop := ∀ (q : MethodName × ByteArray × Nat × Option FieldType), mtab[K.1]? = some q → ∀ (ρ : List Int) (α : List Nat) (ws : va_W) (sz : Nat) (av : List Value), eOk K.2.1.1 ρ → nOk K.2.1.2.2.2 ρ α → R2 (vok ρ α) K.2.1.2.1 av → R2 (hrel ca ρ α) K.2.1.2.2.1 ws → va_D (fun _ => True) ws → cpx ca α →
  Met l q.1 (.code q.1 q.2.1 q.2.2.1 q.2.2.2 :: gtbl) (rmK K) (PcK D ca av ws sz) (QK D ca K ρ α ws sz) K.2.2.2.1 K.2.2.2.2.1 (va_A ws sz)
theorem cpx_mono {ca : Nat → ClassId} {a0 α : List Nat} (hp : a0 <+: α) (h : cpx ca a0) : cpx ca α := by
  obtain ⟨β, rfl⟩ := hp
  exact fun k hk => getE_mono β (h k hk)
theorem PcK_blind {D : va_G} {ca : Nat → ClassId} {av : List Value} {ws : va_W} {sz : Nat} : FrameBlind (PcK D ca av ws sz) := by
  intro a U g mk q
  obtain ⟨q0, q1, qP, qK, qX, qZ⟩ := q
  exact ⟨q0, q1, qP, va_K.moved (u := U) (U := U.calling g mk a) (Vm.Alike.refl U.vm) qK, XW.same (u := U) (U := U.calling g mk a) rfl qX, ZW.same (u := U) (U := U.calling g mk a) rfl qZ⟩
/-- new numbers and new cells of a caller -/
def nas : Nat → Nat → List Nat
  | _, 0 => []
  | n, k + 1 => n :: nas (n + 1) k
theorem nvs_inv : ∀ (σ a b ρ1 : List Int), R2 (lfv (a ++ σ ++ b)) (nvs a.length σ.length) ρ1 → ρ1 = σ
  | [], a, b, ρ1, h => R2.nil_inv h
  | x :: σ, a, b, ρ1, h => by
    obtain ⟨y, ys, rfl, h1, h2⟩ := R2.cons_inv h
    have h3 := (nvs_ok (x :: σ) a b).1
    rw [lfv_fun h1 h3]
    have h4 := nvs_inv σ (a ++ [x]) b ys (by
      rw [show (a ++ [x]).length = a.length + 1 by simp, show a ++ [x] ++ σ ++ b = a ++ (x :: σ) ++ b by simp]
      exact h2)
    rw [h4]
theorem nas_ok : ∀ (σ a b : List Nat), aOk (a ++ σ ++ b) (nas a.length σ.length) σ
  | [], a, b => trivial
  | x :: σ, a, b => by
    refine ⟨by simp, ?_⟩
    have h := nas_ok σ (a ++ [x]) b
    rw [show (a ++ [x]).length = a.length + 1 by simp, show a ++ [x] ++ σ ++ b = a ++ (x :: σ) ++ b by simp] at h
    exact h
theorem nas_inv : ∀ (σ a b ρ1 : List Nat), aOk (a ++ σ ++ b) (nas a.length σ.length) ρ1 → ρ1 = σ
  | [], a, b, ρ1, h => R2.nil_inv h
  | x :: σ, a, b, ρ1, h => by
    obtain ⟨y, ys, rfl, h1, h2⟩ := R2.cons_inv h
    have h3 := (nas_ok (x :: σ) a b).1
    have h5 : y = x := Option.some.inj (h1.symm.trans h3)
    have h4 := nas_inv σ (a ++ [x]) b ys (by
      rw [show (a ++ [x]).length = a.length + 1 by simp, show a ++ [x] ++ σ ++ b = a ++ (x :: σ) ++ b by simp]
      exact h2)
    rw [h4, h5]
theorem R2.appI {A B : Type} {r : A → B → Prop} : ∀ {a b : List A} {xs : List B}, R2 r (a ++ b) xs → ∃ x1 x2, xs = x1 ++ x2 ∧ R2 r a x1 ∧ R2 r b x2
  | [], b, xs, h => ⟨[], xs, rfl, trivial, h⟩
  | p :: a, b, xs, h => by
    obtain ⟨y, ys, rfl, h1, h2⟩ := R2.cons_inv h
    obtain ⟨x1, x2, rfl, h3, h4⟩ := R2.appI h2
    exact ⟨y :: x1, x2, rfl, ⟨h1, h3⟩, h4⟩
theorem R2.rev {A B : Type} {r : A → B → Prop} : ∀ {a : List A} {xs : List B}, R2 r a xs → R2 r a.reverse xs.reverse
  | [], xs, h => by rw [R2.nil_inv h]; trivial
  | p :: a, xs, h => by
    obtain ⟨y, ys, rfl, h1, h2⟩ := R2.cons_inv h
    rw [List.reverse_cons, List.reverse_cons]
    exact R2.app (R2.rev h2) (R2.one h1)
/-- a template's cells in a caller's words -/
def inEl (τ : List eTi) (θ : List Nat) (e : eEl) : Option eEl := match e with
  | .inl i => some (.inl i)
  | .inr v => (match sbv τ θ v with
    | some w => some (.inr w)
    | none => none)
/-- a run in another state's words -/
def pcM (f : eLF) (r n : Nat) : Nat := match f.1, f.2 with
  | [(_, Int.ofNat 1)], Int.ofNat 0 => nmin n r
  | _, _ => 1
def pcF (k : Nat) (f : eLF) : ePc := match f.1, f.2 with
  | [(w, Int.ofNat 1)], Int.ofNat 0 => .inr (k, w)
  | _, _ => .inl (.inr (bq (Nat.beq k 0) (.inl f) (.inr (.inl f))))
def inRk (ih : Nat → Nat → eSg → Option eSg) (k m v n : Nat) (f : eLF) (t : eSg) : Option eSg := bq (Nat.ble 1 m) (bq (Nat.ble m n) (match ih (Nat.add v m) (Nat.sub n m) t with
  | some t' => some (sgc m (pcF k f) t')
  | none => none) none) none
def inRn (τ : List eTi) (k : Nat) : Nat → Nat → Nat → eSg → Option eSg
  | 0, _, _, _ => none
  | fu + 1, v, n, t => bq (Nat.beq n 0) (some t) (match tgR τ v with
    | some fr => inRk (inRn τ k fu) k (pcM fr.1 fr.2 n) v n fr.1 t
    | none => none)
theorem pc_ok {τ : List eTi} {k v n r : Nat} {f : eLF} (h : tgR τ v = some (f, r)) {j : Nat} (hj : j < pcM f r n) : ∃ g, tget τ (v + j) = some g ∧ pcA (pcF k f) j = .inr (bq (Nat.beq k 0) (.inl g) (.inr (.inl g))) := by
  obtain ⟨q1, q2⟩ := tgR_ok h
  unfold pcM at hj
  unfold pcF
  split at hj
  · rename_i w w' e1 e2
    have ef : f = ([(w', 1)], 0) := Prod.ext e1 e2
    subst ef
    have hj2 : j < r := Nat.lt_of_lt_of_le hj (nmin_le _ _).2
    exact ⟨_, q2 w' rfl j hj2, rfl⟩
  · rename_i hne
    have e0 : j = 0 := by omega
    subst e0
    exact ⟨f, q1, rfl⟩
theorem inRn_ok {τ : List eTi} {k : Nat} : ∀ (fu v n : Nat) {t s : eSg}, inRn τ k fu v n t = some s → (∀ j, j < n → ∃ g, tget τ (v + j) = some g ∧ sga s j = some (.inr (bq (Nat.beq k 0) (.inl g) (.inr (.inl g))))) ∧ ∀ j, sga s (n + j) = sga t j
  | 0, v, n, t, s, h => by cases h
  | fu + 1, v, n, t, s, h => by
    unfold inRn at h
    cases hn : Nat.beq n 0
    · rw [hn] at h
      replace h : (match tgR τ v with
        | some fr => inRk (inRn τ k fu) k (pcM fr.1 fr.2 n) v n fr.1 t
        | none => none) = some s := h
      split at h
      · rename_i fr hfr
        obtain ⟨f, r⟩ := fr
        unfold inRk at h
        dsimp only at h
        cases h1 : Nat.ble 1 (pcM f r n)
        · rw [h1] at h; cases h
        · rw [h1] at h
          cases h2 : Nat.ble (pcM f r n) n
          · rw [h2] at h; cases h
          · rw [h2] at h
            have z1 := Nat.le_of_ble_eq_true h1
            have z2 := Nat.le_of_ble_eq_true h2
            replace h : (match inRn τ k fu (v + pcM f r n) (n - pcM f r n) t with
              | some t' => some (sgc (pcM f r n) (pcF k f) t')
              | none => none) = some s := h
            split at h
            · rename_i t' ht'
              cases h
              obtain ⟨i1, i2⟩ := inRn_ok fu _ _ ht'
              refine ⟨fun j hj => ?_, fun j => ?_⟩
              · rcases Nat.lt_or_ge j (pcM f r n) with g | g
                · obtain ⟨y, y1, y2⟩ := pc_ok (k := k) hfr g
                  exact ⟨y, y1, by rw [sga_c_lt g, y2]⟩
                · obtain ⟨y, y1, y2⟩ := i1 (j - pcM f r n) (by omega)
                  refine ⟨y, ?_, ?_⟩
                  · rw [show v + j = v + pcM f r n + (j - pcM f r n) by omega]
                    exact y1
                  · rw [sga_c_ge g]
                    exact y2
              · rw [sga_c_ge (by omega), show n + j - pcM f r n = n - pcM f r n + j by omega]
                exact i2 j
            · cases h
      · cases h
    · rw [hn] at h
      have e0 := Nat.eq_of_beq_eq_true hn
      subst e0
      have e1 : t = s := Option.some.inj h
      subst e1
      exact ⟨fun j hj => by omega, fun j => by rw [Nat.zero_add]⟩
def inSg (τ : List eTi) (θ : List Nat) : eSg → Option eSg
  | [] => some []
  | q :: t => match inSg τ θ t with
    | some t' => (match q.2 with
      | .inl e => (match inEl τ θ e with
        | some e' => some ((q.1, .inl e') :: t')
        | none => none)
      | .inr r => inRn τ r.1 4096 r.2 q.1 t')
    | none => none
theorem inEl_var {τ : List eTi} {θ : List Nat} {k n : Nat} {g : eLF} (h : tget τ n = some g) : inEl τ θ (.inr (bq (Nat.beq k 0) (.inl ([(n, 1)], 0)) (.inr (.inl ([(n, 1)], 0))))) = some (.inr (bq (Nat.beq k 0) (.inl g) (.inr (.inl g)))) := by
  cases Nat.beq k 0
  · have e1 : sbv τ θ (.inr (.inl ([(n, 1)], 0))) = some (.inr (.inl g)) := by
      show (match tget τ n with
        | some g => some (Sum.inr (Sum.inl g))
        | none => none) = _
      rw [h]
    show (match sbv τ θ (.inr (.inl ([(n, 1)], 0))) with
      | some w => some (Sum.inr w)
      | none => none) = _
    rw [e1]
    rfl
  · have e1 : sbv τ θ (.inl ([(n, 1)], 0)) = some (.inl g) := by
      show (match tget τ n with
        | some g => some (Sum.inl g)
        | none => none) = _
      rw [h]
    show (match sbv τ θ (.inl ([(n, 1)], 0)) with
      | some w => some (Sum.inr w)
      | none => none) = _
    rw [e1]
    rfl
theorem inSg_ok {τ : List eTi} {θ : List Nat} : ∀ {T S : eSg}, inSg τ θ T = some S → ∀ {j : Nat} {te : eEl}, sga T j = some te → ∃ e, sga S j = some e ∧ inEl τ θ te = some e
  | [], S, h, j, te, hj => by cases hj
  | (n, c) :: T, S, h, j, te, hj => by
    unfold inSg at h
    split at h
    · rename_i t' h2
      cases c with
      | inl e0 =>
        dsimp only at h
        split at h
        · rename_i e h1
          cases h
          rcases Nat.lt_or_ge j n with g | g
          · rw [sga_lt1 g] at hj
            cases hj
            exact ⟨e, sga_lt1 g, h1⟩
          · rw [sga_ge g] at hj
            obtain ⟨e', r1, r2⟩ := inSg_ok h2 hj
            exact ⟨e', (sga_ge g).trans r1, r2⟩
        · cases h
      | inr r =>
        dsimp only at h
        obtain ⟨i1, i2⟩ := inRn_ok _ _ _ h
        rcases Nat.lt_or_ge j n with g | g
        · rw [sga_lt g] at hj
          cases hj
          obtain ⟨y, y1, y2⟩ := i1 j g
          exact ⟨_, y2, inEl_var y1⟩
        · rw [sga_ge g] at hj
          obtain ⟨e', r1, r2⟩ := inSg_ok h2 hj
          refine ⟨e', ?_, r2⟩
          have e3 := i2 (j - n)
          rw [show n + (j - n) = j by omega] at e3
          exact e3.trans r1
    · cases h
theorem inEl_i {ρ ρT : List Int} {α αT : List Nat} {τ : List eTi} {θ : List Nat} (h : tOk ρ τ ρT) (ha : aOk α θ αT) {te e : eEl} {x : Int32} (he : inEl τ θ te = some e) (hx : eli ρT te x) : eli ρ e x := by
  unfold inEl at he
  split at he
  · cases he; exact hx
  · rename_i v
    split at he
    · rename_i w hw
      cases he
      have h1 : vok ρT αT v (.int x) := by
        unfold eli at hx
        split at hx
        · rename_i _ _ hh; cases hh
        · rename_i f hh
          cases hh
          obtain ⟨y, h2, h3⟩ := hx
          exact ⟨y, h2, by rw [h3]⟩
        · exact hx.elim
      have h2 := (sbv_ok h ha hw).mp h1
      unfold vok at h2
      split at h2
      · obtain ⟨y, h3, h4⟩ := h2
        cases h4
        exact ⟨y, h3, rfl⟩
      · obtain ⟨y, h3, h4⟩ := h2; cases h4
      · obtain ⟨y, h3, h4⟩ := h2; cases h4
      · cases h2
    · cases he
theorem inEl_l {ρ ρT : List Int} {α αT : List Nat} {τ : List eTi} {θ : List Nat} (h : tOk ρ τ ρT) (ha : aOk α θ αT) {te e : eEl} {x : Int64} (he : inEl τ θ te = some e) (hx : ell ρT te x) : ell ρ e x := by
  unfold inEl at he
  split at he
  · cases he; exact hx
  · rename_i v
    split at he
    · rename_i w hw
      cases he
      have h1 : vok ρT αT v (.long x) := by
        unfold ell at hx
        split at hx
        · rename_i _ _ hh; cases hh
        · rename_i f hh
          cases hh
          obtain ⟨y, h2, h3⟩ := hx
          exact ⟨y, h2, by rw [h3]⟩
        · exact hx.elim
      have h2 := (sbv_ok h ha hw).mp h1
      unfold vok at h2
      split at h2
      · obtain ⟨y, h3, h4⟩ := h2; cases h4
      · obtain ⟨y, h3, h4⟩ := h2
        cases h4
        exact ⟨y, h3, rfl⟩
      · obtain ⟨y, h3, h4⟩ := h2; cases h4
      · cases h2
    · cases he
theorem inEl_r {ρ ρT : List Int} {α αT : List Nat} {τ : List eTi} {θ : List Nat} (h : tOk ρ τ ρT) (ha : aOk α θ αT) {te e : eEl} {r : Option Nat} (he : inEl τ θ te = some e) (hx : elr ρT αT te r) : elr ρ α e r := by
  unfold inEl at he
  split at he
  · exact hx.elim
  · split at he
    · rename_i w hw
      cases he
      exact (sbv_ok h ha hw).mp hx
    · cases he
def inVs (τ : List eTi) (θ : List Nat) : List eSV → Option (List eSV)
  | [] => some []
  | v :: t => match sbv τ θ v, inVs τ θ t with
    | some w, some t' => some (w :: t')
    | _, _ => none
theorem inVs_ok {ρ ρT : List Int} {α αT : List Nat} {τ : List eTi} {θ : List Nat} (h : tOk ρ τ ρT) (ha : aOk α θ αT) : ∀ {a b : List eSV} {xs : List Value}, inVs τ θ a = some b → R2 (vok ρT αT) a xs → R2 (vok ρ α) b xs
  | [], b, xs, hb, hx => by cases hb; rw [R2.nil_inv hx]; trivial
  | v :: a, b, xs, hb, hx => by
    unfold inVs at hb
    split at hb
    · rename_i w t' h1 h2
      cases hb
      obtain ⟨y, ys, rfl, h3, h4⟩ := R2.cons_inv hx
      exact ⟨(sbv_ok h ha h1).mp h3, inVs_ok h ha h2 h4⟩
    · cases hb
/-- a form that is a number alone -/
def fvr (f : eLF) : Option Nat := match f.1, f.2 with
  | [(w, Int.ofNat 1)], Int.ofNat 0 => some w
  | _, _ => none
theorem fvr_ok {f : eLF} {w : Nat} (h : fvr f = some w) : f = ([(w, 1)], 0) := by
  unfold fvr at h
  split at h
  · rename_i w' h1 h2
    cases h
    exact Prod.ext h1 h2
  · cases h
def cdI (τ : List eTi) (o : eSg) (sg : eSg) : eSg := match cdG o with
  | none => cdX sg
  | some c => (match tget τ c.1 with
    | none => cdX sg
    | some g => (match fvr g with
      | some w => cdN w c.2 (cdX sg)
      | none => cdX sg))
theorem cdI_at (τ : List eTi) (o sg : eSg) (j : Nat) : sga (cdI τ o sg) j = sga sg j := by
  unfold cdI
  split
  · exact sga_cX sg j
  · split
    · exact sga_cX sg j
    · split
      · rw [sga_cN]; exact sga_cX sg j
      · exact sga_cX sg j
theorem cdI_ok {ρ ρT : List Int} {τ : List eTi} (h : tOk ρ τ ρT) {o sg : eSg} {n : Nat} {v : Nat → Int} (hx : cdO ρT o n v) : cdO ρ (cdI τ o sg) n v := by
  unfold cdI
  split
  · exact cdO_X ρ sg n v
  · rename_i c hc
    split
    · exact cdO_X ρ sg n v
    · rename_i g hg
      split
      · rename_i w hw
        obtain ⟨z, z1, z2⟩ := hx c.1 c.2 hc
        rw [tget_eq] at hg
        obtain ⟨y, y1, y2⟩ := R2.get h hg
        rw [z1] at y1
        cases y1
        rw [fvr_ok hw] at y2
        exact cdO_N (cdG_lt hc) (lfv_v1 y2) z2
      · exact cdO_X ρ sg n v
def inC (τ : List eTi) (θ : List Nat) (c : eSC) : Option eSC := match c with
  | .inl q => (match inVs τ θ q.2 with
    | some fs => some (.inl (q.1, fs))
    | none => none)
  | .inr (.inl q) => (match inSg τ θ q.2.2 with
    | some sg => some (.inr (.inl (q.1, q.2.1, cdI τ q.2.2 sg)))
    | none => none)
  | .inr (.inr (.inl q)) => (match inSg τ θ q.2 with
    | some sg => some (.inr (.inr (.inl (q.1, cdI τ q.2 sg))))
    | none => none)
  | .inr (.inr (.inr q)) => (match inSg τ θ q.2.2 with
    | some sg => some (.inr (.inr (.inr (q.1, q.2.1, sg))))
    | none => none)
theorem inC_ok {ca : Nat → ClassId} {ρ ρT : List Int} {α αT : List Nat} {τ : List eTi} {θ : List Nat} (h : tOk ρ τ ρT) (ha : aOk α θ αT) {tc c : eSC} {x : va_E} (hc : inC τ θ tc = some c) (hx : cok ca ρT αT tc x) : cok ca ρ α c x := by
  unfold inC at hc
  split at hc
  · split at hc
    · rename_i fs hfs
      cases hc
      obtain ⟨vs, rfl, h2⟩ := hx
      exact ⟨vs, rfl, inVs_ok h ha hfs h2⟩
    · cases hc
  · split at hc
    · rename_i sg hsg
      cases hc
      obtain ⟨f, rfl, h2, h7⟩ := hx
      refine ⟨f, rfl, fun j hj => ?_, cdI_ok h h7⟩
      obtain ⟨y, h3, h4⟩ := h2 j hj
      obtain ⟨e, h5, h6⟩ := inSg_ok hsg h3
      exact ⟨e, (cdI_at τ _ _ j).trans h5, inEl_i h ha h6 h4⟩
    · cases hc
  · split at hc
    · rename_i sg hsg
      cases hc
      obtain ⟨f, rfl, h2, h7⟩ := hx
      refine ⟨f, rfl, fun j hj => ?_, cdI_ok h h7⟩
      obtain ⟨y, h3, h4⟩ := h2 j hj
      obtain ⟨e, h5, h6⟩ := inSg_ok hsg h3
      exact ⟨e, (cdI_at τ _ _ j).trans h5, inEl_l h ha h6 h4⟩
    · cases hc
  · split at hc
    · rename_i sg hsg
      cases hc
      obtain ⟨f, rfl, h2⟩ := hx
      refine ⟨f, rfl, fun j hj => ?_⟩
      obtain ⟨y, h3, h4⟩ := h2 j hj
      obtain ⟨e, h5, h6⟩ := inSg_ok hsg h3
      exact ⟨e, h5, inEl_r h ha h6 h4⟩
    · cases hc
def inH (τ : List eTi) (θ : List Nat) : eHp → Option eHp
  | [] => some []
  | q :: t => match lk θ q.1, inC τ θ q.2, inH τ θ t with
    | some j, some c, some t' => some ((j, c) :: t')
    | _, _, _ => none
theorem inH_ok {ca : Nat → ClassId} {ρ ρT : List Int} {α αT : List Nat} {τ : List eTi} {θ : List Nat} (h : tOk ρ τ ρT) (ha : aOk α θ αT) : ∀ {a b : eHp} {ws : va_W}, inH τ θ a = some b → R2 (hrel ca ρT αT) a ws → R2 (hrel ca ρ α) b ws
  | [], b, xs, hb, hx => by cases hb; rw [R2.nil_inv hx]; trivial
  | q :: a, b, xs, hb, hx => by
    unfold inH at hb
    split at hb
    · rename_i j c t' h1 h2 h3
      cases hb
      rw [lk_eq] at h1
      obtain ⟨y, ys, rfl, h4, h5⟩ := R2.cons_inv hx
      obtain ⟨z, e1, e2⟩ := R2.get ha h1
      rw [h4.1] at e1
      cases e1
      exact ⟨⟨e2, inC_ok h ha h2 h4.2⟩, inH_ok h ha h3 h5⟩
    · cases hb
/-- what the callee knows of the caller's numbers behind it -/
def iru2 (a : Nat) (e : eEv) : Option eEv := bq (Nat.ble (Nat.add (dg e.2 (Nat.mul 2 a)) (dg e.2 (Nat.add (Nat.mul 2 a) 1))) 36893488147419103232) (some e) (bq (Nat.beq (Nat.mul (dg e.2 (Nat.mul 2 a)) (dg e.2 (Nat.add (Nat.mul 2 a) 1))) 0) (some e) none)
def irun1 (a k : Nat) (T : eEv) (e : eEv) : Option eEv := bq (Nat.blt k T.1) (iru2 a (e.1, drz (drz e.2 (Nat.mul 2 a) (dg T.2 (Nat.mul 2 k))) (Nat.add (Nat.mul 2 a) 1) (dg T.2 (Nat.add (Nat.mul 2 k) 1)))) (some e)
def irun (T : eEv) : Nat → Nat → Nat → Nat → eEv → Option eEv
  | 0, _, _, _, e => some e
  | fu + 1, a, n, k, e => bq (swr (Nat.mul 2 n) (dsh e.2 (Nat.mul 2 a)) (dsh T.2 (Nat.mul 2 k))) (some e) (bq (Nat.beq n 1) (irun1 a k T e) (match irun T fu a (Nat.div n 2) k e with
    | some e' => irun T fu (Nat.add a (Nat.div n 2)) (Nat.sub n (Nat.div n 2)) (Nat.add k (Nat.div n 2)) e'
    | none => none))
theorem nmul_eq (a b : Nat) : Nat.mul a b = a * b := rfl
theorem nadd_eq (a b : Nat) : Nat.add a b = a + b := rfl
theorem iru2_ok {a : Nat} {e : eEv} {ρ : List Int} {x : Int} (hE : eOk e ρ) (hx : ρ[a]? = some x) : iru2 a e = some e := by
  have d := hE.2 a x hx
  unfold dOk at d
  unfold iru2
  simp only [nmul_eq, nadd_eq]
  generalize dg e.2 (2 * a) = p at d ⊢
  generalize dg e.2 (2 * a + 1) = q at d ⊢
  cases h : Nat.ble (p + q) 36893488147419103232
  · rw [bq_f]
    have h1 := nble_f h
    have h2 : p * q = 0 := by
      rcases d.1 with z | z
      · rcases d.2 with y | y
        · exfalso; omega
        · rw [y, Nat.mul_zero]
      · rw [z, Nat.zero_mul]
    rw [h2]
    rfl
  · rw [bq_t]
theorem irun1_ok {a k : Nat} {T e : eEv} {ρ : List Int} (hE : eOk e ρ) (hT : ∀ x, k < T.1 → ρ[a]? = some x → dOk T.2 k x) (ha : k < T.1 → ∃ x, ρ[a]? = some x) : ∃ e', irun1 a k T e = some e' ∧ eOk e' ρ := by
  unfold irun1
  cases hb : Nat.blt k T.1
  · exact ⟨e, rfl, hE⟩
  · have hk := blt_t hb
    obtain ⟨x, hx⟩ := ha hk
    have d := hT x hk hx
    have h1 := eOk_rlo hE hx (dg_lt T.2 (2 * k)) d.1
    have h2 := eOk_rhi h1 hx (dg_lt T.2 (2 * k + 1)) d.2
    dsimp only at h2
    rw [bq_t]
    simp only [nmul_eq, nadd_eq]
    exact ⟨_, iru2_ok h2 hx, h2⟩
theorem irun_ok {T : eEv} {ρ : List Int} : ∀ (fu a n k : Nat) {e : eEv}, eOk e ρ → (∀ i, i < n → k + i < T.1 → ∃ x, ρ[a + i]? = some x ∧ dOk T.2 (k + i) x) → ∃ e', irun T fu a n k e = some e' ∧ eOk e' ρ
  | 0, a, n, k, e, hE, hT => ⟨e, rfl, hE⟩
  | fu + 1, a, n, k, e, hE, hT => by
    unfold irun
    cases swr (Nat.mul 2 n) (dsh e.2 (Nat.mul 2 a)) (dsh T.2 (Nat.mul 2 k))
    · cases hb : Nat.beq n 1
      · have hdiv : Nat.div n 2 ≤ n := Nat.div_le_self n 2
        obtain ⟨e1, q1, q2⟩ := irun_ok fu a (Nat.div n 2) k hE (fun i hi hk => hT i (by omega) hk)
        obtain ⟨e2, q3, q4⟩ := irun_ok fu (Nat.add a (Nat.div n 2)) (Nat.sub n (Nat.div n 2)) (Nat.add k (Nat.div n 2)) q2 (fun i hi hk => by
          have hi' : i < n - Nat.div n 2 := hi
          have hk' : k + Nat.div n 2 + i < T.1 := hk
          obtain ⟨x, x1, x2⟩ := hT (Nat.div n 2 + i) (by omega) (by omega)
          refine ⟨x, ?_, ?_⟩
          · rw [show Nat.add a (Nat.div n 2) + i = a + (Nat.div n 2 + i) from Nat.add_assoc ..]
            exact x1
          · rw [show Nat.add k (Nat.div n 2) + i = k + (Nat.div n 2 + i) from Nat.add_assoc ..]
            exact x2)
        refine ⟨e2, ?_, q4⟩
        show (match irun T fu a (Nat.div n 2) k e with
          | some e' => irun T fu (Nat.add a (Nat.div n 2)) (Nat.sub n (Nat.div n 2)) (Nat.add k (Nat.div n 2)) e'
          | none => none) = some e2
        rw [q1]
        exact q3
      · have h0 := Nat.eq_of_beq_eq_true hb
        show ∃ e', irun1 a k T e = some e' ∧ eOk e' ρ
        refine irun1_ok hE (fun x hk hx => ?_) (fun hk => ?_)
        · obtain ⟨y, y1, y2⟩ := hT 0 (by omega) (by omega)
          rw [Nat.add_zero] at y1 y2
          rw [hx] at y1
          cases y1
          exact y2
        · obtain ⟨y, y1, y2⟩ := hT 0 (by omega) (by omega)
          rw [Nat.add_zero] at y1
          exact ⟨y, y1⟩
    · exact ⟨e, rfl, hE⟩
def inE1 (T : eEv) : List eTi → Nat → eEv → Option eEv
  | [], _, env => some env
  | .inl f :: τ, k, env => (match lke T k with
    | some i => (match refLe env (fpl f (-i.2)) with
      | some e => (match refLe e (fpl (fsc (-1) f) i.1) with
        | some e2 => inE1 T τ (Nat.add k 1) e2
        | none => none)
      | none => none)
    | none => inE1 T τ (Nat.add k 1) env)
  | .inr q :: τ, k, env => (match irun T 12 q.1 q.2 k env with
    | some e => inE1 T τ (Nat.add k q.2) e
    | none => none)
def inE (env : eEv) (τ : List eTi) (T : eEv) : Option eEv := inE1 T τ 0 env
theorem inE1_ok {ρ : List Int} {T : eEv} : ∀ {τ : List eTi} {k : Nat} {env : eEv} {ρT : List Int}, eOk env ρ → tOk ρ τ ρT → (∀ i x, ρT[i]? = some x → dOk T.2 (k + i) x) → ∃ e, inE1 T τ k env = some e ∧ eOk e ρ
  | [], k, env, ρT, hE, h, hT => ⟨env, rfl, hE⟩
  | .inl f :: τ, k, env, ρT, hE, h, hT => by
    obtain ⟨x, xs, rfl, h1, h2⟩ := R2.cons_inv (show R2 (lfv ρ) (f :: exT τ) ρT from h)
    unfold inE1
    split
    · rename_i i hi
      obtain ⟨i1, i2⟩ := (dOk_iff hi x).mpr (hT 0 x rfl)
      obtain ⟨e, q1, q2⟩ := refLe_ok hE (fpl_ok (-i.2) h1) (by omega)
      obtain ⟨e2, q3, q4⟩ := refLe_ok q2 (fpl_ok i.1 (fsc_ok (k := -1) h1)) (by omega)
      obtain ⟨e3, q5, q6⟩ := inE1_ok (k := Nat.add k 1) q4 h2 (fun n y hy => by
        have g := hT (n + 1) y (by rw [List.getElem?_cons_succ]; exact hy)
        rw [show Nat.add k 1 + n = k + (n + 1) by show k + 1 + n = k + (n + 1); omega]
        exact g)
      refine ⟨e3, ?_, q6⟩
      rw [q1]
      dsimp only
      rw [q3]
      exact q5
    · exact inE1_ok (k := Nat.add k 1) hE h2 (fun n y hy => by
        have g := hT (n + 1) y (by rw [List.getElem?_cons_succ]; exact hy)
        rw [show Nat.add k 1 + n = k + (n + 1) by show k + 1 + n = k + (n + 1); omega]
        exact g)
  | .inr q :: τ, k, env, ρT, hE, h, hT => by
    obtain ⟨ρ1, ρ2, rfl, h1, h2⟩ := R2.appI (show R2 (lfv ρ) (nvs q.1 q.2 ++ exT τ) ρT from h)
    have hl : ρ1.length = q.2 := by rw [← R2.len h1, nvs_len]
    obtain ⟨e, q1, q2⟩ := irun_ok (T := T) 12 q.1 q.2 k hE (fun i hi _ => by
      obtain ⟨x, g1, g2⟩ := R2.get h1 (nvs_get q.1 q.2 i hi)
      have g3 : lev ρ [(q.1 + i, 1)] = some (x - 0) := g2
      refine ⟨x, ?_, hT i x (by rw [List.getElem?_append_left (by omega)]; exact g1)⟩
      unfold lev at g3
      split at g3
      · rename_i y z hy hz
        cases hz
        dsimp only at hy g3
        rw [hy]
        have := Option.some.inj g3
        congr 1
        omega
      · cases g3)
    obtain ⟨e3, q5, q6⟩ := inE1_ok (k := Nat.add k q.2) q2 h2 (fun n y hy => by
      have g := hT (q.2 + n) y (by rw [List.getElem?_append_right (by omega), hl, Nat.add_sub_cancel_left]; exact hy)
      rw [show Nat.add k q.2 + n = k + (q.2 + n) from Nat.add_assoc ..]
      exact g)
    refine ⟨e3, ?_, q6⟩
    unfold inE1
    rw [q1]
    exact q5
theorem inE_ok {ρ : List Int} {τ : List eTi} {T : eEv} {env : eEv} {ρT σ : List Int} (hE : eOk env ρ) (h : tOk ρ τ ρT) (hT : eOk T (ρT ++ σ)) : ∃ e, inE env τ T = some e ∧ eOk e ρ :=
  inE1_ok hE h (fun i x hx => by
    rw [Nat.zero_add]
    exact hT.2 i x (getE_mono σ hx))
/-- forms that lie in a box -/
def inB (env : eEv) : List eLF → List (Int × Int) → Option eEv
  | f :: a, i :: b => (match refLe env (fpl f (-i.2)) with
    | some e => (match refLe e (fpl (fsc (-1) f) i.1) with
      | some e2 => inB e2 a b
      | none => none)
    | none => none)
  | _, _ => some env
theorem inB_ok {ρ : List Int} : ∀ {a : List eLF} {b : List (Int × Int)} {env : eEv} {xs : List Int}, eOk env ρ → R2 (lfv ρ) a xs → R2 ivr b xs → ∃ e, inB env a b = some e ∧ eOk e ρ
  | [], b, env, xs, hE, h1, h2 => ⟨env, by unfold inB; rfl, hE⟩
  | f :: a, [], env, xs, hE, h1, h2 => ⟨env, by unfold inB; rfl, hE⟩
  | f :: a, i :: b, env, xs, hE, h1, h2 => by
    obtain ⟨x, ys, rfl, g1, g2⟩ := R2.cons_inv h1
    obtain ⟨⟨i1, i2⟩, g3⟩ := (show ivr i x ∧ R2 ivr b ys from h2)
    obtain ⟨e, q1, q2⟩ := refLe_ok hE (fpl_ok (-i.2) g1) (by omega)
    obtain ⟨e2, q3, q4⟩ := refLe_ok q2 (fpl_ok i.1 (fsc_ok (k := -1) g1)) (by omega)
    obtain ⟨e3, q5, q6⟩ := inB_ok q4 g2 g3
    refine ⟨e3, ?_, q6⟩
    unfold inB
    rw [q1]
    dsimp only
    rw [q3]
    exact q5
/-- a post's new numbers behind a caller's -/
def ecat2 (e P : eEv) (tl : Nat) : eEv := (Nat.add e.1 (Nat.sub P.1 tl), dcat e.2 (Nat.mul 2 e.1) (dsh P.2 (Nat.mul 2 tl)))
theorem ecat2_ok {e P : eEv} {ρ ρT σ : List Int} (he : eOk e ρ) (hP : eOk P (ρT ++ σ)) : eOk (ecat2 e P ρT.length) (ρ ++ σ) := by
  have hl := hP.1
  rw [List.length_append] at hl
  have h := eOk_cat (M := dsh P.2 (2 * ρT.length)) (σ := σ) he (fun k x hk => by
    have g := hP.2 (ρT.length + k) x (by rw [List.getElem?_append_right (Nat.le_add_right _ _), Nat.add_sub_cancel_left]; exact hk)
    refine ⟨?_, ?_⟩
    · rw [dg_sh, ← Nat.mul_add]
      exact g.1
    · rw [dg_sh, ← Nat.add_assoc, ← Nat.mul_add]
      exact g.2)
  have e1 : σ.length = P.1 - ρT.length := by omega
  rw [e1] at h
  exact h
/-- places, none twice: by the bits of one number -/
def ndK (b : Bool) (x : Bool) : Bool := bq b false x
def ndM (ks : List Nat) : Nat → Bool := @List.rec Nat (fun _ => Nat → Bool) (fun _ => true) (fun k _ ih m => ndK (Nat.testBit m k) (ih (Nat.lor m (Nat.shiftLeft 1 k)))) ks
def ndq (ks : List Nat) : Bool := ndM ks 0
theorem tb_or {m k j : Nat} : (Nat.lor m (Nat.shiftLeft 1 k)).testBit j = (m.testBit j || decide (k = j)) := by
  have h : Nat.lor m (Nat.shiftLeft 1 k) = m ||| (1 <<< k) := rfl
  rw [h, Nat.testBit_or, Nat.one_shiftLeft, Nat.testBit_two_pow]
theorem ndM_ok : ∀ (ks : List Nat) (m : Nat), ndM ks m = true → (∀ k ∈ ks, m.testBit k = false) ∧ va_nd ks = true
  | [], m, h => ⟨fun k hk => (by cases hk), rfl⟩
  | k :: t, m, h => by
    have h1 : ndK (Nat.testBit m k) (ndM t (Nat.lor m (Nat.shiftLeft 1 k))) = true := h
    unfold ndK at h1
    cases hb : Nat.testBit m k
    · rw [hb, bq_f] at h1
      obtain ⟨g1, g2⟩ := ndM_ok t _ h1
      refine ⟨fun j hj => ?_, ?_⟩
      · rcases List.mem_cons.mp hj with rfl | hj
        · exact hb
        · have := g1 j hj
          rw [tb_or, Bool.or_eq_false_iff] at this
          exact this.1
      · unfold va_nd
        rw [Bool.and_eq_true, decide_eq_true_eq]
        refine ⟨fun hk => ?_, g2⟩
        have := g1 k hk
        rw [tb_or, Bool.or_eq_false_iff] at this
        exact absurd rfl (of_decide_eq_false this.2)
    · rw [hb, bq_t] at h1
      cases h1
theorem ndq_ok {ks : List Nat} (h : ndq ks = true) : va_nd ks = true := (ndM_ok ks 0 h).2
/-- the cells that a callee doesn't get -/
def drp (ks : List Nat) : Nat → eHp → eHp
  | _, [] => []
  | k, q :: t => bif ks.any (fun j => Nat.beq j k) then drp ks (k + 1) t else q :: drp ks (k + 1) t
theorem drp_ok {r : (Nat × eSC) → (Nat × va_E) → Prop} (ks : List Nat) : ∀ {hp : eHp} {ws : va_W} (k : Nat), R2 r hp ws → ∃ (isR : List Nat) (wr : va_W), R2 r (drp ks k hp) wr ∧ isR.map (fun i => ws[i - k]?) = wr.map some ∧ (∀ i ∈ isR, k ≤ i ∧ i ∉ ks) ∧ va_nd isR = true
  | [], ws, k, h => ⟨[], [], trivial, rfl, (fun _ h => by cases h), rfl⟩
  | q :: hp, ws, k, h => by
    obtain ⟨w, ws', rfl, h1, h2⟩ := R2.cons_inv h
    obtain ⟨isR, wr, g1, g2, g3, g4⟩ := drp_ok ks (k + 1) h2
    have sh : isR.map (fun i => (w :: ws')[i - k]?) = wr.map some := by
      rw [← g2]
      apply List.map_congr_left
      intro i hi
      have := (g3 i hi).1
      rw [show i - k = (i - (k + 1)) + 1 by omega, List.getElem?_cons_succ]
    unfold drp
    cases hb : ks.any (fun j => Nat.beq j k)
    · refine ⟨k :: isR, w :: wr, ⟨h1, g1⟩, by simp [sh], ?_, ?_⟩
      · intro i hi
        rcases List.mem_cons.mp hi with rfl | hi
        · refine ⟨Nat.le_refl _, fun hk => ?_⟩
          have : ks.any (fun j => Nat.beq j i) = true := List.any_eq_true.mpr ⟨i, hk, Nat.beq_refl i⟩
          rw [this] at hb
          cases hb
        · exact ⟨by have := (g3 i hi).1; omega, (g3 i hi).2⟩
      · unfold va_nd
        rw [Bool.and_eq_true, decide_eq_true_eq]
        exact ⟨fun hk => by have := (g3 k hk).1; omega, g4⟩
    · exact ⟨isR, wr, g1, sh, fun i hi => ⟨by have := (g3 i hi).1; omega, (g3 i hi).2⟩, g4⟩
def msk (ks : List Nat) : Nat := @List.rec Nat (fun _ => Nat) 0 (fun k _ ih => Nat.lor ih (Nat.shiftLeft 1 k)) ks
theorem msk_ok : ∀ (ks : List Nat) (j : Nat), (msk ks).testBit j = ks.any (fun k => Nat.beq k j)
  | [], j => Nat.zero_testBit j
  | k :: t, j => by
    show (Nat.lor (msk t) (Nat.shiftLeft 1 k)).testBit j = _
    rw [tb_or, msk_ok t j, List.any_cons, Bool.or_comm]
    congr 1
    cases hb : Nat.beq k j
    · have : k ≠ j := fun e => by rw [e, Nat.beq_refl] at hb; cases hb
      exact decide_eq_false this
    · exact decide_eq_true (Nat.eq_of_beq_eq_true hb)
def drK (b : Bool) (q : Nat × eSC) (t : eHp) : eHp := bq b t (q :: t)
def drpM (m : Nat) (hp : eHp) : Nat → eHp := @List.rec (Nat × eSC) (fun _ => Nat → eHp) (fun _ => []) (fun q _ ih k => drK (Nat.testBit m k) q (ih (Nat.add k 1))) hp
def drpq (ks : List Nat) (hp : eHp) : eHp := drpM (msk ks) hp 0
theorem drp_cons (ks : List Nat) (k : Nat) (q : Nat × eSC) (t : eHp) : drp ks k (q :: t) = (bif ks.any (fun j => Nat.beq j k) then drp ks (k + 1) t else q :: drp ks (k + 1) t) := rfl
theorem drpM_eq {ks : List Nat} : ∀ (hp : eHp) (k : Nat), drpM (msk ks) hp k = drp ks k hp
  | [], k => rfl
  | q :: t, k => by
    show drK ((msk ks).testBit k) q (drpM (msk ks) t (k + 1)) = _
    rw [drpM_eq t (k + 1), msk_ok, drp_cons]
    unfold drK
    cases ks.any (fun j => Nat.beq j k)
    · rw [bq_f]
      rfl
    · rw [bq_t]
      rfl
theorem drpq_eq (ks : List Nat) (hp : eHp) : drpq ks hp = drp ks 0 hp := drpM_eq hp 0
/-- a post in the caller's words: none, it can't be said; some none, it can't be -/
def inst (env : eEv) (hp : eHp) (na : eNa) (τ : List eTi) (θ : List Nat) (ks : List Nat) (P : ePo) : Option (Option (eEv × List eSV × eHp × eNa)) := match inE env τ P.1 with
  | none => some none
  | some e => (match inH (τ ++ [.inr (env.1, P.1.1 - tlen τ)]) (θ ++ nas na.1 (P.2.2.2.1 - θ.length)) P.2.2.1, inVs (τ ++ [.inr (env.1, P.1.1 - tlen τ)]) (θ ++ nas na.1 (P.2.2.2.1 - θ.length)) P.2.1.toList, inF (τ ++ [.inr (env.1, P.1.1 - tlen τ)]) P.2.2.2.2 with
    | some h, some r, some fs => some (some (ecat2 e P.1 (tlen τ), r, drpq ks hp ++ h, (na.1 + (P.2.2.2.1 - θ.length), na.2 ++ fs)))
    | _, _, _ => none)
section
variable {p : Program} {l : Launch} {e : Env} {R : Room} {s : State} {m : MethodId} {args : Array Value} {below : List Frame} {meth : Method} {c : Code} {Q : State → Prop} {D : va_G} {ca : Nat → ClassId} {A : Nat → Prop} {nL cb sb : Nat} {r0 : List Int} {a0 : List Nat} {own : String} {cc : ByteArray} {env : eEv} {lo : List (Nat × eSV)} {st : List eSV} {hp : eHp} {na : eNa} {nc ns pc : Nat}
theorem ev_call {H : Heap} {locs : List Loc} {cells slots mc ms : Nat} {ls : Array Slot} {rest st0 : List Value} {Qa : State → Outcome → State → Prop} {free : Addr → Prop} (hr : va_Run p l e R s m args below meth c H locs cells slots mc ms (F0 m pc ls st0) rest Qa free)
    (kk : ∀ (v : Option Value) (u t : State) (H1 : Heap) (locs1 : List Loc), u.heap = H → t.heap = H1 → Qa u (.returned v) t → (∀ z ∈ locs1, z ∈ locs ∨ free z.base) → W p l e R s m args below meth c H1 locs1 (cells + mc) (slots + ms) Q (F0 m (pc + 3) ls (v.toList ++ rest))) : W p l e R s m args below meth c H locs cells slots Q (F0 m pc ls st0) := by
  intro T hT X
  obtain ⟨v, u, t, T', L, h0, X', hL, e1, e2, hq, st⟩ := hr T hT X
  obtain ⟨t2, a1, b1⟩ := kk v u t T'.heap (locs ++ L) h0 e1.symm hq (fun z hz => by
    rcases List.mem_append.mp hz with h | h
    · exact Or.inl h
    · exact Or.inr (hL z h)) T' rfl X'
  exact ⟨t2, st t2 a1, b1⟩
theorem g_core {K : eK} {ar : List eSV} {τ : List eTi} {θ ks : List Nat} (hA : ∀ q : Nat, s.heap.size ≤ q → A q) (hcx : cpx ca a0) (hm1 : mtE env na.2 τ K.2.1.1 = true) (hm2 : mtA na.1 θ = true) (hm3 : θ.length = K.2.1.2.2.2.1) (hm4 : vsmt τ θ ar.reverse K.2.1.2.1 = true) (hm5 : hmt env τ θ hp K.2.1.2.2.1 = some ks) (hm6 : va_nd ks = true) {hs : List (List Nat)} (hm7 : fmt env na.2 τ hs K.2.1.2.2.2.2 = true)
    (run : ∀ (ρ ρT : List Int) (α αT : List Nat) (ls : Array Slot) (lvl : List (Nat × Value)) (av rest : List Value) (ws wc : va_W) (H : Heap) (locs : List Loc), eRep s D ca A nL r0 a0 env lo (ar ++ st) hp na ρ α ls lvl (av.reverse ++ rest) ws H locs → R2 (vok ρ α) st rest → R2 (vok ρ α) ar av.reverse → eOk K.2.1.1 ρT → nOk K.2.1.2.2.2 ρT αT → R2 (vok ρT αT) K.2.1.2.1 av → R2 (hrel ca ρT αT) K.2.1.2.2.1 wc → va_D (fun _ => True) wc → va_P D vwCl wc H → (∀ q, va_A wc H.size q → A q) → cpx ca αT →
      va_Run p l e R s m args below meth c H locs (cb + nc) (sb + ns) K.2.2.2.1 K.2.2.2.2.1 (F0 m pc ls (av.reverse ++ rest)) rest (QK D ca K ρT αT wc H.size av.toArray) (va_A wc H.size))
    (kk : ∀ P ∈ K.2.2.1, ∃ r, inst env hp na τ θ ks P = some r ∧ ∀ S, r = some S → eG p l e R s m args below meth c Q D ca A nL cb sb r0 a0 S.1 lo (S.2.1 ++ st) S.2.2.1 S.2.2.2 (nc + K.2.2.2.1) (ns + K.2.2.2.2.1) (pc + 3)) : eG p l e R s m args below meth c Q D ca A nL cb sb r0 a0 env lo (ar ++ st) hp na nc ns pc := by
  intro ρ α ls lvl stk ws H locs h
  obtain ⟨h1, h2, h3, h4, h5, h6, hP, hD, hS⟩ := id h
  obtain ⟨x1, rest, rfl, h7, h8⟩ := R2.appI h5
  obtain ⟨ρT, t1, t2⟩ := mtE_ok h1 h2.1.2 hm1
  rw [← h2.1.1] at hm2
  obtain ⟨αT, u1, u2⟩ := mtA_ok hm2
  obtain ⟨wc, w1, w2⟩ := hmt_ok (ca := ca) h1 t1 u1 h6 hm5
  have hav : R2 (vok ρT αT) K.2.1.2.1 x1.reverse := vsmt_ok t1 u1 hm4 (R2.rev h7)
  have hPc := hP.sub (ws' := wc) ks (by
    have : ks.filterMap (fun i => ws[i]?) = (ks.map (fun i => ws[i]?)).filterMap id := by rw [List.filterMap_map]; rfl
    rw [this, w1, List.filterMap_map]
    show wc.filterMap some = wc
    exact List.filterMap_some ..)
  have hDc := hD.sub (ws' := wc) ks hm6 w1
  have hFc := va_free (wc := wc) hD hS hA ks w1
  have rn := run ρ ρT α αT ls lvl x1.reverse rest ws wc H locs (by rw [List.reverse_reverse]; exact h) h8 (by rw [List.reverse_reverse]; exact h7) t2 ⟨by rw [u2, hm3], fmt_ok h1 t1 h2.1.2 hm7⟩ hav w2 (hDc.weaken (fun _ _ _ _ => trivial)) hPc hFc (mtA_px hm2 (cpx_mono h2.2.2 hcx) u1)
  rw [List.reverse_reverse] at rn
  refine ev_call rn (fun v u t H1 locs1 hu ht hq hl => ?_)
  obtain ⟨⟨v', P, σ, β, ws', e0, p1, p2, p3, p4, p5, p6, p7⟩, f1, f2⟩ := hq
  cases e0
  obtain ⟨r, i1, i2⟩ := kk P p1
  obtain ⟨e1, q1, q2⟩ := inE_ok h1 t1 p2
  unfold inst at i1
  rw [drpq_eq] at i1
  rw [q1] at i1
  dsimp only at i1
  have lenT : tlen τ = ρT.length := by rw [tlen_eq]; exact R2.len t1
  have lenP : P.1.1 = ρT.length + σ.length := by rw [← p2.1, List.length_append]
  have lenB : P.2.2.2.1 = θ.length + β.length := by rw [← p3.1, List.length_append, u2]
  have lenE : env.1 = ρ.length := h1.1.symm
  rw [show P.1.1 - tlen τ = σ.length by omega, show P.2.2.2.1 - θ.length = β.length by omega] at i1
  split at i1
  · rename_i hh rr fs1 g1 g2 g3
    cases i1
    have tt : tOk (ρ ++ σ) (τ ++ [.inr (env.1, σ.length)]) (ρT ++ σ) := by
      show R2 (lfv (ρ ++ σ)) (exT (τ ++ [.inr (env.1, σ.length)])) (ρT ++ σ)
      rw [exT_app]
      refine R2.app (R2.imp (fun _ _ z => lfv_mono σ z) t1) ?_
      show R2 (lfv (ρ ++ σ)) (nvs env.1 σ.length ++ []) σ
      rw [List.append_nil]
      have := nvs_ok σ ρ []
      rw [List.append_nil, ← lenE] at this
      exact this
    have aa : aOk (α ++ β) (θ ++ nas na.1 β.length) (αT ++ β) := by
      refine R2.app (R2.imp (fun _ _ z => getE_mono β z) u1) ?_
      have := nas_ok β α []
      rw [List.append_nil, h2.1.1] at this
      exact this
    obtain ⟨isR, wr, d1, d2, d3, d4⟩ := drp_ok ks 0 h6
    rw [hu] at f1 f2
    obtain ⟨hP2, hD2⟩ := va_join (wr := wr) (w1 := ws') (H1 := H1) hP hD ks isR w1 (by simpa using d2) d4 (fun i hi => (d3 i hi).2) (fun q z1 z2 => by rw [← ht]; exact f2 q z1 z2) hFc (by rw [← ht]; exact p6) p7
    have eo : eOk (ecat2 e1 P.1 (tlen τ)) (ρ ++ σ) := by
      rw [lenT]
      exact ecat2_ok q2 p2
    have hr : R2 (vok (ρ ++ σ) (α ++ β)) rr v.toList := by
      refine inVs_ok tt aa g2 ?_
      unfold retOk at p4
      generalize P.2.1 = o at p4
      cases o <;> cases v <;> first | trivial | exact p4.elim | exact ⟨p4, trivial⟩
    have := i2 _ rfl (ρ ++ σ) (α ++ β) ls lvl (v.toList ++ rest) (wr ++ ws') H1 locs1 ⟨eo, ⟨⟨by rw [List.length_append, h2.1.1], fun F hF => by
      rcases List.mem_append.mp hF with z | z
      · exact fOk_mono σ h2.1.2 F z
      · exact inF_ok tt g3 p3.2 F z⟩, h2.2.1.trans (List.prefix_append _ _), h2.2.2.trans (List.prefix_append _ _)⟩, h3, R2.imp (fun _ _ z => lrel_mono σ β z) h4, R2.app hr (R2.imp (fun _ _ z => vok_mono σ β z) h8), R2.app (R2.imp (fun _ _ z => hrel_mono σ β z) d1) (inH_ok tt aa g1 p5), hP2, hD2, ?_⟩
    · rw [← Nat.add_assoc, ← Nat.add_assoc] at this
      exact this
    · refine ⟨Nat.le_trans hS.1 (by rw [← ht]; exact f1), fun q z1 z2 => ?_, fun z hz => ?_⟩
      · rw [← ht, f2 q (Nat.lt_of_lt_of_le z1 hS.1) (fun y => z2 (hFc q y))]
        exact hS.2.1 q z1 z2
      · rcases hl z hz with y | y
        · exact hS.2.2 z y
        · exact hFc _ y
  · cases i1
end
end
