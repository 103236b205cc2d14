noncomputable section
/-! longs, arrays of references, copies, switches, calls of the library -/
def jbf (o : Nat) (a b : Int64) : Int64 := match o with
  | 0 => a + b
  | 1 => a - b
  | 2 => a * b
  | 3 => a / b
  | 4 => a - a / b * b
  | 5 => a &&& b
  | 6 => a ||| b
  | _ => a ^^^ b
def jlin (o : Nat) (x y : eLF) : Option eLF := match o with
  | 0 => some (fadd x y)
  | 1 => some (fsub x y)
  | 2 => (match y.1 with
    | [] => some (fsc y.2 x)
    | _ => (match x.1 with
      | [] => some (fsc x.2 y)
      | _ => none))
  | _ => none
theorem jlin_ok (o : Nat) {ρ : List Int} {x y f : eLF} {a b : Int} (hx : lfv ρ x a) (hy : lfv ρ y b) (h : jlin o x y = some f) : ∃ c, lfv ρ f c ∧ Int64.ofInt c = jbf o (Int64.ofInt a) (Int64.ofInt b) ∧ ¬ (o = 3 ∨ o = 4) := by
  unfold jlin at h
  split at h
  · cases h; exact ⟨_, fadd_ok hx hy, Int64.ofInt_add a b, by decide⟩
  · cases h; exact ⟨_, fsub_ok hx hy, Int64.ofInt_sub a b, by decide⟩
  · split at h
    · rename_i hy0
      cases h
      have e : b = y.2 := fc_inv (ρ := ρ) (by unfold lfv at hy ⊢; rw [hy0] at hy; exact hy)
      refine ⟨y.2 * a, fsc_ok hx, ?_, by decide⟩
      rw [← e, Int.mul_comm]
      exact Int64.ofInt_mul a b
    · split at h
      · rename_i hx0
        cases h
        have e : a = x.2 := fc_inv (ρ := ρ) (by unfold lfv at hx ⊢; rw [hx0] at hx; exact hx)
        refine ⟨x.2 * b, fsc_ok hy, ?_, by decide⟩
        rw [← e]
        exact Int64.ofInt_mul a b
      · cases h
  · cases h
/-- quotient and rest of numbers that aren't negative -/
def jrgOf (o : Nat) (i j : Int × Int) : Option (Int × Int) := match o with
  | 3 => bif ile 0 i.1 && ile 1 j.1 then some (0, i.2 / j.1) else none
  | 4 => bif ile 0 i.1 && ile 1 j.1 then some (0, imin i.2 (j.2 - 1)) else bif ile 1 j.1 then some (mnL, mxL) else none
  | _ => some (mnL, mxL)
theorem jrgOf_ok (o : Nat) {i j r : Int × Int} {x y : Int64} (hx : ivr i x.toInt) (hy : ivr j y.toInt) (h : jrgOf o i j = some r) : ivr r (jbf o x y).toInt ∧ (o = 3 ∨ o = 4 → ¬ y = 0) := by
  have hx1 := hx.1
  have hx2 := hx.2
  have hy1 := hy.1
  have hy2 := hy.2
  have hq : 0 ≤ i.1 → 1 ≤ j.1 → ¬ y = 0 ∧ (x / y).toInt = x.toInt / y.toInt ∧ 0 ≤ x.toInt / y.toInt ∧ x.toInt / y.toInt ≤ x.toInt := by
    intro h1 h2
    have hn1 : y ≠ -1 := by
      intro e
      rw [e] at hy1
      have : (-1 : Int64).toInt = -1 := rfl
      omega
    refine ⟨fun e => ?_, ?_, Int.ediv_nonneg (by omega) (by omega), Int.ediv_le_self _ (by omega)⟩
    · rw [e] at hy1
      have : (0 : Int64).toInt = 0 := rfl
      omega
    · rw [Int64.toInt_div_of_ne_right _ _ hn1, Int.tdiv_eq_ediv_of_nonneg (by omega)]
  unfold jrgOf at h
  split at h
  · cases hb : ile 0 i.1 && ile 1 j.1
    · rw [hb] at h; cases h
    · rw [hb] at h; cases h
      rw [Bool.and_eq_true] at hb
      have h1 := ile_t hb.1
      have h2 := ile_t hb.2
      obtain ⟨q1, q2, q3, q4⟩ := hq h1 h2
      refine ⟨?_, fun _ => q1⟩
      show ivr _ (x / y).toInt
      rw [q2]
      refine ⟨q3, ?_⟩
      show x.toInt / y.toInt ≤ i.2 / j.1
      have r1 : x.toInt / y.toInt ≤ i.2 / y.toInt := Int.ediv_le_ediv (by omega) hx2
      have r2 : i.2 / y.toInt ≤ i.2 / j.1 := by
        apply Int.le_ediv_of_mul_le (by omega)
        have r3 : i.2 / y.toInt * y.toInt ≤ i.2 := Int.ediv_mul_le _ (by omega)
        have r4 : i.2 / y.toInt * j.1 ≤ i.2 / y.toInt * y.toInt := Int.mul_le_mul_of_nonneg_left hy1 (Int.ediv_nonneg (by omega) (by omega))
        omega
      omega
  · cases hb : ile 0 i.1 && ile 1 j.1
    · rw [hb] at h
      dsimp only [cond_false] at h
      cases hb1 : ile 1 j.1
      · rw [hb1] at h; cases h
      · rw [hb1] at h; cases h
        refine ⟨fullL _, fun _ e => ?_⟩
        have h2 := ile_t hb1
        rw [e] at hy1
        have : (0 : Int64).toInt = 0 := rfl
        omega
    · rw [hb] at h; cases h
      rw [Bool.and_eq_true] at hb
      have h1 := ile_t hb.1
      have h2 := ile_t hb.2
      obtain ⟨q1, q2, q3, q4⟩ := hq h1 h2
      refine ⟨?_, fun _ => q1⟩
      have e : x - x / y * y = Int64.ofInt (x.toInt % y.toInt) := by
        have e1 : x = Int64.ofInt x.toInt := (Int64.ofInt_toInt x).symm
        have e2 : x / y = Int64.ofInt (x.toInt / y.toInt) := by rw [← q2, Int64.ofInt_toInt]
        have e3 : y = Int64.ofInt y.toInt := (Int64.ofInt_toInt y).symm
        rw [e2]
        conv => lhs; rw [e1, e3]
        rw [Int64.toInt_ofInt_of_le (by have := x.le_toInt; omega) (by have := x.toInt_lt; omega), Int64.toInt_ofInt_of_le (by have := y.le_toInt; omega) (by have := y.toInt_lt; omega), ← Int64.ofInt_mul, ← Int64.ofInt_sub]
        congr 1
        have := Int.mul_ediv_add_emod x.toInt y.toInt
        rw [Int.mul_comm] at this
        omega
      show ivr _ (x - x / y * y).toInt
      have m1 : 0 ≤ x.toInt % y.toInt := Int.emod_nonneg _ (by omega)
      have m2 : x.toInt % y.toInt < y.toInt := Int.emod_lt_of_pos _ (by omega)
      have m3 : x.toInt % y.toInt ≤ x.toInt := by
        have := Int.mul_ediv_add_emod x.toInt y.toInt
        have m4 : 0 ≤ y.toInt * (x.toInt / y.toInt) := Int.mul_nonneg (by omega) q3
        omega
      rw [e, Int64.toInt_ofInt_of_le (by omega) (by have := x.toInt_lt; omega)]
      refine ⟨m1, ?_⟩
      show _ ≤ imin i.2 (j.2 - 1)
      rcases imin_or i.2 (j.2 - 1) with e | e <;> rw [e] <;> omega
  · rename_i n3 n4
    cases h
    refine ⟨fullL _, fun e => ?_⟩
    rcases e with e | e
    · exact absurd e n3
    · exact absurd e n4
def jbin (o : Nat) (env : eEv) (x y : eLF) : Option (eEv × eLF) := match x.1, y.1 with
  | [], [] => (bif (Nat.beq o 3 || Nat.beq o 4) && i0 (Int64.ofInt y.2).toInt then none else some (env, fc (jbf o (Int64.ofInt x.2) (Int64.ofInt y.2)).toInt))
  | _, _ => match jlin o x y with
    | some f => (match jrg env f with
      | some _ => some (env, f)
      | none => some (fr env mnL mxL))
    | none => (match jrg env x, jrg env y with
      | some i, some j => (match jrgOf o i j with
        | some r => some (fr env r.1 r.2)
        | none => none)
      | _, _ => none)
theorem jrg_ivr {env : eEv} {ρ : List Int} (hE : eOk env ρ) {f : eLF} {i : Int × Int} {x : Int} (h : jrg env f = some i) (hx : lfv ρ f x) : ivr i (Int64.ofInt x).toInt := by
  obtain ⟨h1, h2⟩ := jrg_ok hE h hx
  rw [h2]
  exact h1
theorem jbin_ok (o : Nat) {env : eEv} {ρ : List Int} (hE : eOk env ρ) {x y : eLF} {a b : Int} (hx : lfv ρ x a) (hy : lfv ρ y b) {r : eEv × eLF} (h : jbin o env x y = some r) :
    (∃ σ c, eOk r.1 (ρ ++ σ) ∧ lfv (ρ ++ σ) r.2 c ∧ Int64.ofInt c = jbf o (Int64.ofInt a) (Int64.ofInt b)) ∧ (o = 3 ∨ o = 4 → ¬ Int64.ofInt b = 0) := by
  have fin : ∀ (lo hi : Int), ivr (lo, hi) (jbf o (Int64.ofInt a) (Int64.ofInt b)).toInt → ∃ σ c, eOk (fr env lo hi).1 (ρ ++ σ) ∧ lfv (ρ ++ σ) (fr env lo hi).2 c ∧ Int64.ofInt c = jbf o (Int64.ofInt a) (Int64.ofInt b) := by
    intro lo hi hv
    obtain ⟨σ, h1, h2⟩ := fr_ok hE hv (fullL _)
    exact ⟨σ, _, h1, h2, Int64.ofInt_toInt _⟩
  unfold jbin at h
  split at h
  · rename_i hx0 hy0
    have e : b = y.2 := fc_inv (ρ := ρ) (by unfold lfv at hy ⊢; rw [hy0] at hy; exact hy)
    have e' : a = x.2 := fc_inv (ρ := ρ) (by unfold lfv at hx ⊢; rw [hx0] at hx; exact hx)
    subst e; subst e'
    cases hb : (Nat.beq o 3 || Nat.beq o 4) && i0 (Int64.ofInt y.2).toInt
    · rw [hb] at h; cases h
      refine ⟨⟨[], _, by rw [List.append_nil]; exact hE, fc_ok _, Int64.ofInt_toInt _⟩, fun ho hz => ?_⟩
      have : (Nat.beq o 3 || Nat.beq o 4) = true := by rcases ho with rfl | rfl <;> rfl
      rw [this, hz] at hb
      cases hb
    · rw [hb] at h; cases h
  · split at h
    · rename_i f hf
      obtain ⟨c, h1, h2, h3⟩ := jlin_ok o hx hy hf
      split at h
      · cases h
        exact ⟨⟨[], c, by rw [List.append_nil]; exact hE, by rw [List.append_nil]; exact h1, h2⟩, fun ho => absurd ho h3⟩
      · cases h
        exact ⟨fin _ _ (fullL _), fun ho => absurd ho h3⟩
    · split at h
      · rename_i i j hi hj
        split at h
        · rename_i r' hr
          cases h
          obtain ⟨q1, q2⟩ := jrgOf_ok o (jrg_ivr hE hi hx) (jrg_ivr hE hj hy) hr
          exact ⟨fin _ _ q1, q2⟩
        · cases h
      · cases h
section
variable {p : Program} {l : Launch} {e : Env} {R : Room} {s : State} {m : MethodId} {args : Array Value} {below : List Frame} {meth : Method} {c : Code} {Q : State → Prop} {D : va_G} {ca : Nat → ClassId} {A : Nat → Prop} {nL cb sb : Nat} {r0 : List Int} {a0 : List Nat} {own : String} {cc : ByteArray} {env : eEv} {lo : List (Nat × eSV)} {st : List eSV} {hp : eHp} {na : eNa} {nc ns pc : Nat}
theorem g_binL (o : Nat) {f g : eLF} {r : eEv × eLF} {pc' : Nat} (row : ∀ (x y : Int64) (H : Heap) (locs : List Loc) (ls : Array Slot) (rest : List Value), (o = 3 ∨ o = 4 → ¬ y = 0) → W p l e R s m args below meth c H locs (cb + nc) (sb + ns) Q (F0 m pc' ls (.long (jbf o x y) :: rest)) → W p l e R s m args below meth c H locs (cb + nc) (sb + ns) Q (F0 m pc ls (.long y :: .long x :: rest)))
    (h : jbin o env f g = some r) (k : eG p l e R s m args below meth c Q D ca A nL cb sb r0 a0 r.1 lo (.inr (.inl r.2) :: st) hp na nc ns pc') : eG p l e R s m args below meth c Q D ca A nL cb sb r0 a0 env lo (.inr (.inl g) :: .inr (.inl f) :: st) hp na nc ns pc := by
  intro ρ α ls lvl stk ws H locs hh
  obtain ⟨y, stk1, rfl, hy, h1⟩ := rep_popL hh
  obtain ⟨x, stk2, rfl, hx, h2⟩ := rep_popL h1
  obtain ⟨⟨σ, z, q1, q2, q3⟩, q4⟩ := jbin_ok o h2.1 hx hy h
  exact row _ _ H locs ls stk2 q4 (k (ρ ++ σ) α ls lvl _ ws H locs (rep_push (rep_env h2 q1) ⟨z, q2, by rw [q3]⟩))
def jno (i : Instr) : Option Nat := match i with
  | .ladd => some 0
  | .lsub => some 1
  | .lmul => some 2
  | .ldiv => some 3
  | .lrem => some 4
  | .land => some 5
  | .lor => some 6
  | .lxor => some 7
  | _ => none
theorem g_lbin (X : eCx p R s m args c D ca A nL own cc a0) {i : Instr} {o : Nat} (ho : jno i = some o) {f g : eLF} {r : eEv × eLF} (hd : decode cc pc = .ok (i, 1)) (h : jbin o env f g = some r) (k : eG p l e R s m args below meth c Q D ca A nL cb sb r0 a0 r.1 lo (.inr (.inl r.2) :: st) hp na nc ns (pc + 1)) : eG p l e R s m args below meth c Q D ca A nL cb sb r0 a0 env lo (.inr (.inl g) :: .inr (.inl f) :: st) hp na nc ns pc := by
  unfold jno at ho
  split at ho
  · cases ho; exact g_binL 0 (fun x y H locs ls rest _ kk => lv_ladd X.1 X.2.1 hd kk) h k
  · cases ho; exact g_binL 1 (fun x y H locs ls rest _ kk => lv_lsub X.1 X.2.1 hd kk) h k
  · cases ho; exact g_binL 2 (fun x y H locs ls rest _ kk => lv_lmul X.1 X.2.1 hd kk) h k
  · cases ho; exact g_binL 3 (fun x y H locs ls rest hn kk => lv_ldiv X.1 X.2.1 hd (hn (Or.inl rfl)) kk) h k
  · cases ho; exact g_binL 4 (fun x y H locs ls rest hn kk => lv_lrem X.1 X.2.1 hd (hn (Or.inr rfl)) kk) h k
  · cases ho; exact g_binL 5 (fun x y H locs ls rest _ kk => lv_land X.1 X.2.1 hd kk) h k
  · cases ho; exact g_binL 6 (fun x y H locs ls rest _ kk => lv_lor X.1 X.2.1 hd kk) h k
  · cases ho; exact g_binL 7 (fun x y H locs ls rest _ kk => lv_lxor X.1 X.2.1 hd kk) h k
  · cases ho
/-- a shift of a long: any long -/
theorem g_lshX (X : eCx p R s m args c D ca A nL own cc a0) {f g : eLF} (hd : decode cc pc = .ok (.lshl, 1) ∨ decode cc pc = .ok (.lushr, 1) ∨ decode cc pc = .ok (.lshr, 1)) (k : eG p l e R s m args below meth c Q D ca A nL cb sb r0 a0 (fr env mnL mxL).1 lo (.inr (.inl (fr env mnL mxL).2) :: st) hp na nc ns (pc + 1)) : eG p l e R s m args below meth c Q D ca A nL cb sb r0 a0 env lo (.inl g :: .inr (.inl f) :: st) hp na nc ns pc := by
  intro ρ α ls lvl stk ws H locs hh
  obtain ⟨y, stk1, rfl, hy, h1⟩ := rep_popI hh
  obtain ⟨x, stk2, rfl, hx, h2⟩ := rep_popL h1
  have go : ∀ z : Int64, W p l e R s m args below meth c H locs (cb + nc) (sb + ns) Q (F0 m (pc + 1) ls (.long z :: stk2)) := by
    intro z
    obtain ⟨σ, q1, q2⟩ := fr_ok h2.1 (fullL z) (fullL z)
    exact k (ρ ++ σ) α ls lvl _ ws H locs (rep_push (rep_env h2 q1) ⟨_, q2, by rw [Int64.ofInt_toInt]⟩)
  rcases hd with hd | hd | hd
  · exact lv_lshl X.1 X.2.1 hd rfl (go _)
  · exact lv_lushr X.1 X.2.1 hd rfl (go _)
  · exact lv_lshr X.1 X.2.1 hd rfl (go _)
theorem g_lcmp (X : eCx p R s m args c D ca A nL own cc a0) {f g : eLF} (hd : decode cc pc = .ok (.lcmp, 1)) (k1 : ∀ e', kLt env f g = some e' → eG p l e R s m args below meth c Q D ca A nL cb sb r0 a0 e' lo (.inl (fc (-1)) :: st) hp na nc ns (pc + 1)) (k2 : ∀ e', kEq env f g = some e' → eG p l e R s m args below meth c Q D ca A nL cb sb r0 a0 e' lo (.inl (fc 0) :: st) hp na nc ns (pc + 1)) (k3 : ∀ e', kLt env g f = some e' → eG p l e R s m args below meth c Q D ca A nL cb sb r0 a0 e' lo (.inl (fc 1) :: st) hp na nc ns (pc + 1)) : eG p l e R s m args below meth c Q D ca A nL cb sb r0 a0 env lo (.inr (.inl g) :: .inr (.inl f) :: st) hp na nc ns pc := by
  intro ρ α ls lvl stk ws H locs hh
  obtain ⟨y, stk1, rfl, hy, h1⟩ := rep_popL hh
  obtain ⟨x, stk2, rfl, hx, h2⟩ := rep_popL h1
  refine W.lcmp X.1 X.2.1 hd ?_
  unfold lg_cmp
  by_cases c1 : Int64.ofInt x > Int64.ofInt y
  · rw [if_pos c1]
    obtain ⟨e', q1, q2⟩ := kLt_ok h2.1 hy hx (Int64.lt_iff_toInt_lt.mp c1)
    exact k3 e' q1 ρ α ls lvl _ ws H locs (rep_push (rep_env0 h2 q2) ⟨1, fc_ok 1, rfl⟩)
  · rw [if_neg c1]
    by_cases c2 : Int64.ofInt x = Int64.ofInt y
    · rw [if_pos c2]
      obtain ⟨e', q1, q2⟩ := kEq_ok h2.1 hx hy (by rw [c2])
      exact k2 e' q1 ρ α ls lvl _ ws H locs (rep_push (rep_env0 h2 q2) ⟨0, fc_ok 0, rfl⟩)
    · rw [if_neg c2]
      have c3 : (Int64.ofInt x).toInt < (Int64.ofInt y).toInt := by
        have n1 : ¬ (Int64.ofInt y).toInt < (Int64.ofInt x).toInt := fun q => c1 (Int64.lt_iff_toInt_lt.mpr q)
        have n2 : ¬ (Int64.ofInt x).toInt = (Int64.ofInt y).toInt := fun q => c2 (Int64.toInt_inj.mp q)
        omega
      obtain ⟨e', q1, q2⟩ := kLt_ok h2.1 hx hy c3
      exact k1 e' q1 ρ α ls lvl _ ws H locs (rep_push (rep_env0 h2 q2) ⟨-1, fc_ok (-1), rfl⟩)
/-- one long form put for another of the same number, in the long arrays -/
def rpV (f g : eLF) (v : eSV) : eSV := match v with
  | .inr (.inl h) => bif fbeq h f then .inr (.inl g) else .inr (.inl h)
  | v => v
def rpE (f g : eLF) (e : eEl) : eEl := match e with
  | .inr v => .inr (rpV f g v)
  | .inl q => .inl q
def rpR (f g : eLF) (k v : Nat) : Nat → eSg → eSg
  | 0, t => t
  | n + 1, t => (1, .inl (rpE f g (pcA (.inr (k, v)) 0))) :: rpR f g k (Nat.add v 1) n t
def rpS (f g : eLF) : eSg → eSg
  | [] => []
  | q :: t => (match q.2 with
    | .inl e => (q.1, .inl (rpE f g e)) :: rpS f g t
    | .inr r => (match f.1 with
      | [(x, _)] => bif Nat.ble r.2 x && Nat.blt x (Nat.add r.2 q.1) then rpR f g r.1 r.2 q.1 (rpS f g t) else q :: rpS f g t
      | _ => q :: rpS f g t))
def rpC (f g : eLF) (c : eSC) : eSC := match c with
  | .inr (.inr (.inl q)) => .inr (.inr (.inl (q.1, cdK q.2 (rpS f g q.2))))
  | c => c
def rpH (f g : eLF) : eHp → eHp
  | [] => []
  | q :: t => (q.1, rpC f g q.2) :: rpH f g t
theorem rpR_lt {f g : eLF} : ∀ (n k v : Nat) (t : eSg) {j : Nat}, j < n → sga (rpR f g k v n t) j = some (rpE f g (pcA (.inr (k, v)) j))
  | 0, k, v, t, j, h => by omega
  | n + 1, k, v, t, 0, h => sga_lt1 (by decide)
  | n + 1, k, v, t, j + 1, h => by
    show sga ((1, .inl (rpE f g (pcA (.inr (k, v)) 0))) :: rpR f g k (v + 1) n t) (j + 1) = _
    rw [sga_ge (by omega), Nat.add_sub_cancel, rpR_lt n k (v + 1) t (by omega)]
    have e := pcA_S (.inr (k, v)) 1 j
    rw [Nat.add_comm 1 j] at e
    exact congrArg (fun z => some (rpE f g z)) e
theorem rpR_ge {f g : eLF} : ∀ (n k v : Nat) (t : eSg) {j : Nat}, n ≤ j → sga (rpR f g k v n t) j = sga t (j - n)
  | 0, k, v, t, j, h => rfl
  | n + 1, k, v, t, 0, h => by omega
  | n + 1, k, v, t, j + 1, h => by
    show sga ((1, .inl (rpE f g (pcA (.inr (k, v)) 0))) :: rpR f g k (v + 1) n t) (j + 1) = _
    rw [sga_ge (by omega), Nat.add_sub_cancel, rpR_ge n k (v + 1) t (by omega)]
    congr 1
    omega
theorem rpS_at {f g : eLF} : ∀ {sg : eSg} {j : Nat} {e : eEl}, sga sg j = some e → ∃ e', sga (rpS f g sg) j = some e' ∧ (e' = e ∨ e' = rpE f g e)
  | [], j, e, h => by cases h
  | (n, c) :: t, j, e, h => by
    have keep : ∃ e', sga ((n, c) :: rpS f g t) j = some e' ∧ (e' = e ∨ e' = rpE f g e) := by
      rcases Nat.lt_or_ge j n with z | z
      · rw [sga_lt z] at h
        cases h
        exact ⟨_, sga_lt z, Or.inl rfl⟩
      · rw [sga_ge z] at h
        obtain ⟨e', q1, q2⟩ := rpS_at h
        exact ⟨e', (sga_ge z).trans q1, q2⟩
    cases c with
    | inl e0 =>
      show ∃ e', sga ((n, .inl (rpE f g e0)) :: rpS f g t) j = some e' ∧ _
      rcases Nat.lt_or_ge j n with z | z
      · rw [sga_lt1 z] at h
        cases h
        exact ⟨_, sga_lt1 z, Or.inr rfl⟩
      · rw [sga_ge z] at h
        obtain ⟨e', q1, q2⟩ := rpS_at h
        exact ⟨e', (sga_ge z).trans q1, q2⟩
    | inr r =>
      unfold rpS
      dsimp only
      split
      · rename_i x y hx
        cases Nat.ble r.2 x && Nat.blt x (Nat.add r.2 n)
        · exact keep
        · show ∃ e', sga (rpR f g r.1 r.2 n (rpS f g t)) j = some e' ∧ _
          rcases Nat.lt_or_ge j n with z | z
          · rw [sga_lt z] at h
            cases h
            exact ⟨_, rpR_lt n r.1 r.2 _ z, Or.inr rfl⟩
          · rw [sga_ge z] at h
            obtain ⟨e', q1, q2⟩ := rpS_at h
            exact ⟨e', (rpR_ge n r.1 r.2 _ z).trans q1, q2⟩
      · exact keep
theorem rpC_ok {ca : Nat → ClassId} {ρ : List Int} {α : List Nat} {f g : eLF} {x y : Int} (hx : lfv ρ f x) (hy : lfv ρ g y) (he : Int64.ofInt x = Int64.ofInt y) {c : eSC} {w : va_E} (h : cok ca ρ α c w) : cok ca ρ α (rpC f g c) w := by
  unfold rpC
  split
  · rename_i q
    obtain ⟨F, h1, h2, h7⟩ := h
    refine ⟨F, h1, fun j hj => ?_, cdK_ok h7⟩
    obtain ⟨e, h3, h4⟩ := h2 j hj
    obtain ⟨e', h5, h6⟩ := rpS_at (f := f) (g := g) h3
    refine ⟨e', (cdK_at _ _ j).trans h5, ?_⟩
    rcases h6 with rfl | rfl
    · exact h4
    unfold rpE
    split
    · rename_i v
      unfold rpV
      split
      · rename_i h0
        cases hb : fbeq h0 f
        · exact h4
        · have e1 := fbeq_t hb
          subst e1
          obtain ⟨z, z1, z2⟩ := h4
          have e2 := lfv_fun z1 hx
          subst e2
          exact ⟨y, hy, by rw [z2, he]⟩
      · exact h4
    · exact h4
  · exact h
theorem rpH_ok {ca : Nat → ClassId} {ρ : List Int} {α : List Nat} {f g : eLF} {x y : Int} (hx : lfv ρ f x) (hy : lfv ρ g y) (he : Int64.ofInt x = Int64.ofInt y) : ∀ {hp : eHp} {ws : va_W}, R2 (hrel ca ρ α) hp ws → R2 (hrel ca ρ α) (rpH f g hp) ws
  | [], ws, h => h
  | q :: t, ws, h => by
    obtain ⟨w, ws', rfl, h1, h2⟩ := R2.cons_inv h
    exact ⟨⟨h1.1, rpC_ok hx hy he h1.2⟩, rpH_ok hx hy he h2⟩
theorem g_lcmpS (X : eCx p R s m args c D ca A nL own cc a0) {f g : eLF} (hd : decode cc pc = .ok (.lcmp, 1)) (k1 : ∀ e', kLt env f g = some e' → eG p l e R s m args below meth c Q D ca A nL cb sb r0 a0 e' lo (.inl (fc (-1)) :: st) hp na nc ns (pc + 1)) (k2 : ∀ e', kEq env f g = some e' → eG p l e R s m args below meth c Q D ca A nL cb sb r0 a0 e' lo (.inl (fc 0) :: st) (rpH f g hp) na nc ns (pc + 1)) (k3 : ∀ e', kLt env g f = some e' → eG p l e R s m args below meth c Q D ca A nL cb sb r0 a0 e' lo (.inl (fc 1) :: st) hp na nc ns (pc + 1)) : eG p l e R s m args below meth c Q D ca A nL cb sb r0 a0 env lo (.inr (.inl g) :: .inr (.inl f) :: st) hp na nc ns pc := by
  intro ρ α ls lvl stk ws H locs hh
  obtain ⟨y, stk1, rfl, hy, h1⟩ := rep_popL hh
  obtain ⟨x, stk2, rfl, hx, h2⟩ := rep_popL h1
  refine W.lcmp X.1 X.2.1 hd ?_
  unfold lg_cmp
  by_cases c1 : Int64.ofInt x > Int64.ofInt y
  · rw [if_pos c1]
    obtain ⟨e', q1, q2⟩ := kLt_ok h2.1 hy hx (Int64.lt_iff_toInt_lt.mp c1)
    exact k3 e' q1 ρ α ls lvl _ ws H locs (rep_push (rep_env0 h2 q2) ⟨1, fc_ok 1, rfl⟩)
  · rw [if_neg c1]
    by_cases c2 : Int64.ofInt x = Int64.ofInt y
    · rw [if_pos c2]
      obtain ⟨e', q1, q2⟩ := kEq_ok h2.1 hx hy (by rw [c2])
      obtain ⟨g1, g2, g3, g4, g5, g6, g7⟩ := rep_push (v := .inl (fc 0)) (w := .int 0) (rep_env0 h2 q2) ⟨0, fc_ok 0, rfl⟩
      exact k2 e' q1 ρ α ls lvl _ ws H locs ⟨g1, g2, g3, g4, g5, rpH_ok hx hy c2 g6, g7⟩
    · rw [if_neg c2]
      have c3 : (Int64.ofInt x).toInt < (Int64.ofInt y).toInt := by
        have n1 : ¬ (Int64.ofInt y).toInt < (Int64.ofInt x).toInt := fun q => c1 (Int64.lt_iff_toInt_lt.mpr q)
        have n2 : ¬ (Int64.ofInt x).toInt = (Int64.ofInt y).toInt := fun q => c2 (Int64.toInt_inj.mp q)
        omega
      obtain ⟨e', q1, q2⟩ := kLt_ok h2.1 hx hy c3
      exact k1 e' q1 ρ α ls lvl _ ws H locs (rep_push (rep_env0 h2 q2) ⟨-1, fc_ok (-1), rfl⟩)
/-- conversions -/
theorem g_i2l (X : eCx p R s m args c D ca A nL own cc a0) {f : eLF} {i : Int × Int} (hd : decode cc pc = .ok (.i2l, 1)) (hi : irg env f = some i) (k : eG p l e R s m args below meth c Q D ca A nL cb sb r0 a0 env lo (.inr (.inl f) :: st) hp na nc ns (pc + 1)) : eG p l e R s m args below meth c Q D ca A nL cb sb r0 a0 env lo (.inl f :: st) hp na nc ns pc := by
  intro ρ α ls lvl stk ws H locs hh
  obtain ⟨x, stk1, rfl, hx, h1⟩ := rep_popI hh
  obtain ⟨q1, q2⟩ := irg_ok hh.1 hi hx
  have e : (Int32.ofInt x).toInt64 = Int64.ofInt x := by
    apply Int64.toInt_inj.mp
    rw [Int32.toInt_toInt64, q2, Int64.toInt_ofInt_of_le]
    · have := (Int32.ofInt x).le_toInt; omega
    · have := (Int32.ofInt x).toInt_lt; omega
  exact lv_i2l X.1 X.2.1 hd e (k ρ α ls lvl _ ws H locs (rep_push h1 ⟨x, hx, rfl⟩))
def l2i (env : eEv) (f : eLF) : eEv × eLF := match irg env f with
  | some _ => (env, f)
  | none => fr env mnI mxI
theorem g_l2i (X : eCx p R s m args c D ca A nL own cc a0) {f : eLF} (hd : decode cc pc = .ok (.l2i, 1)) (k : eG p l e R s m args below meth c Q D ca A nL cb sb r0 a0 (l2i env f).1 lo (.inl (l2i env f).2 :: st) hp na nc ns (pc + 1)) : eG p l e R s m args below meth c Q D ca A nL cb sb r0 a0 env lo (.inr (.inl f) :: st) hp na nc ns pc := by
  intro ρ α ls lvl stk ws H locs hh
  obtain ⟨x, stk1, rfl, hx, h1⟩ := rep_popL hh
  unfold l2i at k
  split at k
  · exact lv_l2i X.1 X.2.1 hd Int64.toInt32_ofInt (k ρ α ls lvl _ ws H locs (rep_push h1 ⟨x, hx, rfl⟩))
  · obtain ⟨σ, q1, q2⟩ := fr_ok hh.1 (fullI (Int32.ofInt x)) (fullIL _)
    exact lv_l2i X.1 X.2.1 hd Int64.toInt32_ofInt (k (ρ ++ σ) α ls lvl _ ws H locs (rep_push (rep_env h1 q1) ⟨_, q2, by rw [Int32.ofInt_toInt]⟩))
theorem g_i2b (X : eCx p R s m args c D ca A nL own cc a0) {f : eLF} {r : eEv × eLF} (hd : decode cc pc = .ok (.i2b, 1)) (h : nrb env f = some r) (k : eG p l e R s m args below meth c Q D ca A nL cb sb r0 a0 r.1 lo (.inl r.2 :: st) hp na nc ns (pc + 1)) : eG p l e R s m args below meth c Q D ca A nL cb sb r0 a0 env lo (.inl f :: st) hp na nc ns pc := by
  intro ρ α ls lvl stk ws H locs hh
  obtain ⟨x, stk1, rfl, hx, h1⟩ := rep_popI hh
  obtain ⟨σ, z, q1, q2, q3⟩ := nrb_ok h ρ x hh.1 hx
  exact lv_i2b X.1 X.2.1 hd q3.symm (k (ρ ++ σ) α ls lvl _ ws H locs (rep_push (rep_env h1 q1) ⟨z, q2, rfl⟩))
def nrc (env : eEv) (g : eLF) : Option (eEv × eLF) := match irg env g with
  | some i => bif ile 0 i.1 && ile i.2 65535 then some (env, g) else some (fr env 0 65535)
  | none => none
theorem g_i2c (X : eCx p R s m args c D ca A nL own cc a0) {f : eLF} {r : eEv × eLF} (hd : decode cc pc = .ok (.i2c, 1)) (h : nrc env f = some r) (k : eG p l e R s m args below meth c Q D ca A nL cb sb r0 a0 r.1 lo (.inl r.2 :: st) hp na nc ns (pc + 1)) : eG p l e R s m args below meth c Q D ca A nL cb sb r0 a0 env lo (.inl f :: st) hp na nc ns pc := by
  intro ρ α ls lvl stk ws H locs hh
  obtain ⟨x, stk1, rfl, hx, h1⟩ := rep_popI hh
  unfold nrc at h
  split at h
  · rename_i i hi
    cases hb : ile 0 i.1 && ile i.2 65535
    · rw [hb] at h
      cases h
      have hv : ivr (0, 65535) ((Int32.ofInt x).toUInt32 % 65536).toInt32.toInt := by
        rw [pk_char, nI_toInt (by omega)]
        exact ⟨Int.natCast_nonneg _, by show _ ≤ (65535 : Int); omega⟩
      obtain ⟨σ, q1, q2⟩ := fr_ok hh.1 hv (fullIL _)
      exact lv_i2c X.1 X.2.1 hd (Int32.ofInt_toInt _).symm (k (ρ ++ σ) α ls lvl _ ws H locs (rep_push (rep_env h1 q1) ⟨_, q2, rfl⟩))
    · rw [hb] at h
      cases h
      rw [Bool.and_eq_true] at hb
      have g := irg_ivr hh.1 hi hx
      exact lv_i2c X.1 X.2.1 hd (lg_i2c_word (Int.le_trans (ile_t hb.1) g.1) (by have := Int.le_trans g.2 (ile_t hb.2); omega)) (k ρ α ls lvl _ ws H locs (rep_push h1 ⟨x, hx, rfl⟩))
  · cases h
/-- long arrays -/
def aldL (env : eEv) (n : Nat) (sg : eSg) (f : eLF) : Option (eEv × eLF) := match irg env f with
  | some i => bif ile 0 i.1 && ile (i.2 + 1) n then (bif ile i.2 i.1 then (match sga sg i.1.toNat with
      | some (.inr (.inr (.inl g))) => some (env, g)
      | some (.inl q) => some (fr env q.1 q.2)
      | _ => none) else some (fr env mnL mxL)) else none
  | none => none
theorem g_laload (X : eCx p R s m args c D ca A nL own cc a0) {i k n : Nat} {sg : eSg} {f : eLF} {r : eEv × eLF} (hd : decode cc pc = .ok (.laload, 1)) (hf : hfd i hp 0 = some (k, .inr (.inr (.inl (n, sg))))) (h : aldL env n sg f = some r) (kk : eG p l e R s m args below meth c Q D ca A nL cb sb r0 a0 r.1 lo (.inr (.inl r.2) :: st) hp na nc ns (pc + 1)) : eG p l e R s m args below meth c Q D ca A nL cb sb r0 a0 env lo (.inl f :: .inr (.inr (some i)) :: st) hp na nc ns pc := by
  intro ρ α ls lvl stk ws H locs hh
  obtain ⟨x, stk1, rfl, hx, h0⟩ := rep_popI hh
  obtain ⟨a, stk', rfl, h1, h2⟩ := rep_popR h0
  obtain ⟨y, h3, F, rfl, h4⟩ := rep_cell h2 hf h1
  unfold aldL at h
  split at h
  · rename_i i' hi
    cases hb : ile 0 i'.1 && ile (i'.2 + 1) n
    · rw [hb] at h; cases h
    · rw [hb] at h
      obtain ⟨g1, g2, g3, g4, g5, g6, g7⟩ := ald_in hh.1 hx hi hb
      refine va_lald X.1 X.2.1 X.2.2.2.2.2.1 h2.2.2.2.2.2.2.1 k 2 h3 rfl g1 hd ?_
      rw [g2]
      obtain ⟨y, y1, y2⟩ := h4.1 _ g3
      dsimp only [cond_true] at h
      cases hb2 : ile i'.2 i'.1
      · rw [hb2] at h
        cases h
        obtain ⟨σ, s1, s2⟩ := fr_ok hh.1 (fullL (F x.toNat)) (fullL _)
        exact kk (ρ ++ σ) α ls lvl _ ws H locs (rep_push (rep_env h2 s1) ⟨_, s2, by rw [Int64.ofInt_toInt]⟩)
      · rw [hb2] at h
        have := ile_t hb2
        have e : i'.1 = x := by omega
        rw [e, y1] at h
        dsimp only [cond_true] at h
        split at h
        · rename_i g hg
          cases hg
          cases h
          obtain ⟨z, z1, z2⟩ := y2
          exact kk ρ α ls lvl _ ws H locs (rep_push h2 ⟨z, z1, by rw [z2]⟩)
        · rename_i q hq
          cases hq
          cases h
          obtain ⟨σ, s1, s2⟩ := fr_ok hh.1 y2 (fullL _)
          exact kk (ρ ++ σ) α ls lvl _ ws H locs (rep_push (rep_env h2 s1) ⟨_, s2, by rw [Int64.ofInt_toInt]⟩)
        · cases h
  · cases h
def same0L (o : Option eEl) (g : eLF) : Bool := match o, g with
  | some (.inr (.inr (.inl ([], a)))), ([], b) => ile a b && ile b a
  | _, _ => false
theorem g_lastore (X : eCx p R s m args c D ca A nL own cc a0) {i k n : Nat} {sg : eSg} {f g : eLF} {j : Int × Int} (hd : decode cc pc = .ok (.lastore, 1)) (hf : hfd i hp 0 = some (k, .inr (.inr (.inl (n, sg))))) (hj : irg env f = some j) (hb : (ile 0 j.1 && ile (j.2 + 1) n) = true) (hb2 : ile j.2 j.1 = true)
    (kk : eG p l e R s m args below meth c Q D ca A nL cb sb r0 a0 env lo st (bif same0L (sga sg j.1.toNat) g then hp else hp.set k (i, .inr (.inr (.inl (n, cdX (sgs sg j.1.toNat (.inr (.inr (.inl g))))))))) na nc ns (pc + 1)) : eG p l e R s m args below meth c Q D ca A nL cb sb r0 a0 env lo (.inr (.inl g) :: .inl f :: .inr (.inr (some i)) :: st) hp na nc ns pc := by
  intro ρ α ls lvl stk ws H locs hh
  obtain ⟨y, stk0, rfl, hy, h00⟩ := rep_popL hh
  obtain ⟨x, stk1, rfl, hx, h0⟩ := rep_popI h00
  obtain ⟨a, stk', rfl, h1, h2⟩ := rep_popR h0
  obtain ⟨u, h3, F, rfl, h4⟩ := rep_cell h2 hf h1
  obtain ⟨g1, g2, g3, g4, g5, g6, g7⟩ := ald_in hh.1 hx hj hb
  have e0 : j.1 = x := by have := ile_t hb2; omega
  refine va_last X.1 X.2.1 X.2.2.2.2.2.1 h2.2.2.2.2.2.2.1 h2.2.2.2.2.2.2.2.1 h2.2.2.2.2.2.2.2.2 k 2 h3 rfl g1 hd (fun H1 locs1 gP gD gS => ?_)
  rw [g2] at gP gD
  obtain ⟨y0, y1, y2⟩ := h4.1 _ g3
  rw [e0] at kk
  cases hb3 : same0L (sga sg x.toNat) g
  · rw [hb3] at kk
    refine kk ρ α ls lvl stk' _ H1 locs1 (rep_set h2 hf h1 ⟨_, rfl, fun q hq => ?_, cdO_X _ _ _ _⟩ gP gD gS)
    rw [sga_cX]
    by_cases e : q = x.toNat
    · rw [e, pk_uLs]
      exact ⟨_, sgs_at sg _ _ y1, y, hy, rfl⟩
    · rw [pk_uLn e]
      obtain ⟨u1, u2, u3⟩ := h4.1 q hq
      exact ⟨u1, by rw [sgs_ne sg _ _ e]; exact u2, u3⟩
  · rw [hb3] at kk
    have hc : cok ca ρ α (.inr (.inr (.inl (n, sg)))) (.inl (ca 2, n, .inr (.inl (vp_updL F x.toNat (Int64.ofInt y))))) := by
      have eF : Int64.ofInt y = F x.toNat := by
        rw [y1] at hb3
        unfold same0L at hb3
        split at hb3
        · rename_i a' b' hh'
          cases hh'
          rw [Bool.and_eq_true] at hb3
          have r1 := ile_t hb3.1
          have r2 := ile_t hb3.2
          have r3 := fc_inv hy
          obtain ⟨w, w1, w2⟩ := y2
          have r4 := fc_inv w1
          rw [w2, r3, r4]
          congr 1
          omega
        · cases hb3
      have eU : ∀ q, vp_updL F x.toNat (Int64.ofInt y) q = F q := fun q => by
        by_cases e : q = x.toNat
        · rw [e, pk_uLs, eF]
        · rw [pk_uLn e]
      refine ⟨_, rfl, fun q hq => ?_, fun c0 o0 hc0 => ?_⟩
      · rw [eU]
        exact h4.1 q hq
      · obtain ⟨z, z1, z2⟩ := h4.2 c0 o0 hc0
        refine ⟨z, z1, fun q oq hq => ?_⟩
        show dcd q z = (vp_updL F x.toNat (Int64.ofInt y) q).toInt
        rw [eU]
        exact z2 q oq hq
    have hr := rep_set h2 hf h1 hc gP gD gS
    have e5 : hp.set k (i, .inr (.inr (.inl (n, sg)))) = hp := by
      obtain ⟨k', e1, e2⟩ := hfd_ok hf
      rw [Nat.zero_add] at e1
      subst e1
      obtain ⟨e3, e4⟩ := List.getElem?_eq_some_iff.mp e2
      rw [← e4]
      exact List.set_getElem_self e3
    rw [e5] at hr
    exact kk ρ α ls lvl stk' _ H1 locs1 hr
/-- a long put somewhere: the array is forgotten -/
theorem g_lastoreX (X : eCx p R s m args c D ca A nL own cc a0) {i k n : Nat} {sg : eSg} {f g : eLF} {j : Int × Int} (hd : decode cc pc = .ok (.lastore, 1)) (hf : hfd i hp 0 = some (k, .inr (.inr (.inl (n, sg))))) (hj : irg env f = some j) (hb : (ile 0 j.1 && ile (j.2 + 1) n) = true)
    (kk : eG p l e R s m args below meth c Q D ca A nL cb sb r0 a0 env lo st (hp.set k (i, .inr (.inr (.inl (n, [(n, .inl (.inl (mnL, mxL)))]))))) na nc ns (pc + 1)) : eG p l e R s m args below meth c Q D ca A nL cb sb r0 a0 env lo (.inr (.inl g) :: .inl f :: .inr (.inr (some i)) :: st) hp na nc ns pc := by
  intro ρ α ls lvl stk ws H locs hh
  obtain ⟨y, stk0, rfl, hy, h00⟩ := rep_popL hh
  obtain ⟨x, stk1, rfl, hx, h0⟩ := rep_popI h00
  obtain ⟨a, stk', rfl, h1, h2⟩ := rep_popR h0
  obtain ⟨u, h3, F, rfl, h4⟩ := rep_cell h2 hf h1
  obtain ⟨g1, g2, g3, g4, g5, g6, g7⟩ := ald_in hh.1 hx hj hb
  refine va_last X.1 X.2.1 X.2.2.2.2.2.1 h2.2.2.2.2.2.2.1 h2.2.2.2.2.2.2.2.1 h2.2.2.2.2.2.2.2.2 k 2 h3 rfl g1 hd (fun H1 locs1 gP gD gS => ?_)
  refine kk ρ α ls lvl stk' _ H1 locs1 (rep_set h2 hf h1 ⟨_, rfl, fun q hq => ?_, cdO_none (by show bq (Nat.beq n 0) none none = none; cases Nat.beq n 0 <;> rfl)⟩ gP gD gS)
  exact ⟨.inl (mnL, mxL), sga_lt1 hq, fullL _⟩
/-- arrays of references -/
theorem g_aaload (X : eCx p R s m args c D ca A nL own cc a0) {i k t n : Nat} {C : String} {sg : eSg} {f : eLF} {j : Int × Int} {v : eSV} (hd : decode cc pc = .ok (.aaload, 1)) (ht : (tys0 ca)[t]? = some (ca t, .object C)) (hf : hfd i hp 0 = some (k, .inr (.inr (.inr (t, n, sg))))) (hj : irg env f = some j) (hb : (ile 0 j.1 && ile (j.2 + 1) n) = true) (hb2 : ile j.2 j.1 = true) (hv : sga sg j.1.toNat = some (.inr v))
    (kk : eG p l e R s m args below meth c Q D ca A nL cb sb r0 a0 env lo (v :: st) hp na nc ns (pc + 1)) : eG p l e R s m args below meth c Q D ca A nL cb sb r0 a0 env lo (.inl f :: .inr (.inr (some i)) :: st) hp na nc ns pc := by
  intro ρ α ls lvl stk ws H locs hh
  obtain ⟨x, stk1, rfl, hx, h0⟩ := rep_popI hh
  obtain ⟨a, stk', rfl, h1, h2⟩ := rep_popR h0
  obtain ⟨u, h3, F, rfl, h4⟩ := rep_cell h2 hf h1
  obtain ⟨g1, g2, g3, g4, g5, g6, g7⟩ := ald_in hh.1 hx hj hb
  have e0 : j.1 = x := by have := ile_t hb2; omega
  refine va_aldq X.1 X.2.1 X.2.2.2.2.2.1 h2.2.2.2.2.2.2.1 k t h3 ht g1 hd ?_
  rw [g2]
  obtain ⟨y0, y1, y2⟩ := h4 _ g3
  rw [e0, y1] at hv
  cases hv
  exact kk ρ α ls lvl _ ws H locs (rep_push h2 y2)
theorem g_aastore (X : eCx p R s m args c D ca A nL own cc a0) {i k t n o ko ci : Nat} {q : vw_C} {fs : List eSV} {sg : eSg} {f : eLF} {j : Int × Int} (hd : decode cc pc = .ok (.aastore, 1)) (hc : vwCl[ci]? = some q) (ht : (tys0 ca)[t]? = some (ca t, .object q.1)) (hf : hfd i hp 0 = some (k, .inr (.inr (.inr (t, n, sg))))) (ho : hfd o hp 0 = some (ko, .inl (ci, fs))) (hj : irg env f = some j) (hb : (ile 0 j.1 && ile (j.2 + 1) n) = true) (hb2 : ile j.2 j.1 = true)
    (kk : eG p l e R s m args below meth c Q D ca A nL cb sb r0 a0 env lo st (hp.set k (i, .inr (.inr (.inr (t, n, sgs sg j.1.toNat (.inr (.inr (.inr (some o))))))))) na nc ns (pc + 1)) : eG p l e R s m args below meth c Q D ca A nL cb sb r0 a0 env lo (.inr (.inr (some o)) :: .inl f :: .inr (.inr (some i)) :: st) hp na nc ns pc := by
  intro ρ α ls lvl stk ws H locs hh
  obtain ⟨b, stk0, rfl, hy, h00⟩ := rep_popR hh
  obtain ⟨x, stk1, rfl, hx, h0⟩ := rep_popI h00
  obtain ⟨a, stk', rfl, h1, h2⟩ := rep_popR h0
  obtain ⟨u, h3, F, rfl, h4⟩ := rep_cell h2 hf h1
  obtain ⟨u', h5, vs, rfl, h6⟩ := rep_cell h2 ho hy
  obtain ⟨g1, g2, g3, g4, g5, g6, g7⟩ := ald_in hh.1 hx hj hb
  have e0 : j.1 = x := by have := ile_t hb2; omega
  refine va_astq X.1 X.2.1 X.2.2.2.2.2.1 h2.2.2.2.2.2.2.1 h2.2.2.2.2.2.2.2.1 h2.2.2.2.2.2.2.2.2 k t ko ci h3 ht h5 hc g1 hd (fun H1 locs1 gP gD gS => ?_)
  rw [g2] at gP gD
  rw [e0] at kk
  obtain ⟨y0, y1, y2⟩ := h4 _ g3
  refine kk ρ α ls lvl stk' _ H1 locs1 (rep_set h2 hf h1 ⟨_, rfl, fun p hp' => ?_⟩ gP gD gS)
  by_cases e : p = x.toNat
  · rw [e, va_up_self]
    exact ⟨_, sgs_at sg _ _ y1, b, hy, rfl⟩
  · rw [va_up_ne _ _ e]
    obtain ⟨u1, u2, u3⟩ := h4 p hp'
    exact ⟨u1, by rw [sgs_ne sg _ _ e]; exact u2, u3⟩
/-- a number of a small interval, one by one -/
theorem g_split {f : eLF} {j : Int × Int} (hj : irg env f = some j) (kk : ∀ v : Int, j.1 ≤ v → v ≤ j.2 → ∀ e', cEq env f (fc v) = some e' → eG p l e R s m args below meth c Q D ca A nL cb sb r0 a0 e' lo (.inl f :: st) hp na nc ns pc) : eG p l e R s m args below meth c Q D ca A nL cb sb r0 a0 env lo (.inl f :: st) hp na nc ns pc := by
  intro ρ α ls lvl stk ws H locs hh
  obtain ⟨x, stk1, rfl, hx, h0⟩ := rep_popI hh
  obtain ⟨h1, h2⟩ := irg_ok hh.1 hj hx
  obtain ⟨e', q1, q2⟩ := cEq_ok hh.1 hx (fc_ok x) rfl
  exact kk x h1.1 h1.2 e' q1 ρ α ls lvl _ ws H locs (rep_env0 hh q2)
/-- Object.<init> and abs -/
theorem sum_cat {ρ : List Int} {α : List Nat} : ∀ {sv : List eSV} {vs : List Value}, R2 (vok ρ α) sv vs → (vs.map fun v => v.category).sum = (sv.map ecat).sum := by
  intro sv
  induction sv with
  | nil => intro vs hr; rw [R2.nil_inv hr]; rfl
  | cons a t ih =>
    intro vs hr
    obtain ⟨b, t', rfl, g1, g2⟩ := R2.cons_inv hr
    simp [ih g2, vok_cat g1]
theorem g_objI (X : eCx p R s m args c D ca A nL own cc a0) {idx i : Nat} (hd : decode cc pc = .ok (.invokespecial idx, 3)) (hw : Cond.methodLink own idx Lib.objectInit ∈ gtbl) (hw1 : Cond.instanceMethod Lib.objectInit ∈ gtbl) (hw2 : Cond.code Lib.objectInit ⟨#[0xb1]⟩ 1 none ∈ gtbl) (hst : (st.map ecat).sum ≤ 8) (kk : eG p l e R s m args below meth c Q D ca A nL cb sb r0 a0 env lo st hp na nc ns (pc + 3)) : eG p l e R s m args below meth c Q D ca A nL cb sb r0 a0 env lo (.inr (.inr (some i)) :: st) hp na nc ns pc := by
  intro ρ α ls lvl stk ws H locs hh
  obtain ⟨a, stk', rfl, h1, h2⟩ := rep_popR hh
  refine W.objInit X.1 X.2.1 X.2.2.2.1 (X.2.2.2.2.1 _ hw) (X.2.2.2.2.1 _ hw1) (X.2.2.2.2.1 _ hw2) rfl (by rw [X.2.2.1]; exact h2.2.2.1.1) rfl hd X.2.2.2.2.2.2.2.2.1 ?_ (kk ρ α ls lvl stk' ws H locs h2)
  have e := sum_cat h2.2.2.2.2.1
  have := X.2.2.2.2.2.2.2.2.2.1
  have r : 2 * (F0 m pc ls (.ref a :: stk')).monitorRoom + (stk'.map fun v => v.category).sum ≤ 8 := lv_room (by omega)
  omega
def eabs (env : eEv) (f : eLF) : Option (eEv × eLF) := match irg env f with
  | some i => bif ile 0 i.1 then some (env, f) else bif ile (mnI + 1) i.1 then some (fr env 0 (imax (-i.1) i.2)) else none
  | none => none
theorem g_abs (X : eCx p R s m args c D ca A nL own cc a0) {idx : Nat} {f : eLF} {r : eEv × eLF} (hd : decode cc pc = .ok (.invokestatic idx, 3)) (hw : Cond.methodLink own idx Lib.Math.abs.name ∈ gtbl) (hw1 : Cond.static Lib.Math.abs.name ∈ gtbl) (hw2 : Cond.initialized "java/lang/Math" ∈ gtbl) (hw3 : Cond.code Lib.Math.abs.name Lib.Math.abs.code 1 (some .int) ∈ gtbl) (hst : (st.map ecat).sum ≤ 8) (hc : cb + nc ≤ R.cells) (hs : sb + ns ≤ R.slots) (h : eabs env f = some r)
    (kk : eG p l e R s m args below meth c Q D ca A nL cb sb r0 a0 r.1 lo (.inl r.2 :: st) hp na nc ns (pc + 3)) : eG p l e R s m args below meth c Q D ca A nL cb sb r0 a0 env lo (.inl f :: st) hp na nc ns pc := by
  intro ρ α ls lvl stk ws H locs hh
  obtain ⟨x, stk1, rfl, hx, h1⟩ := rep_popI hh
  have e := sum_cat h1.2.2.2.2.1
  have hr := X.2.2.2.2.2.2.2.2.2.1
  refine va_mabs X.1 X.2.1 (by rw [X.2.2.1, h1.2.2.1.1]) X.2.2.2.1 (X.2.2.2.2.1 _ hw) (X.2.2.2.2.1 _ hw1) (X.2.2.2.2.1 _ hw2) (X.2.2.2.2.1 _ hw3) X.2.2.2.2.2.2.2.2.1 (by omega) hc hs hd ?_
  unfold eabs at h
  split at h
  · rename_i i hi
    obtain ⟨q1, q2⟩ := irg_ok hh.1 hi hx
    have q3 := q1.1
    have q4 := q1.2
    have hle : (0 ≤ Int32.ofInt x) ↔ 0 ≤ x := by rw [Int32.le_iff_toInt_le, q2]; rfl
    cases hb : ile 0 i.1
    · rw [hb] at h
      cases hb2 : ile (mnI + 1) i.1
      · rw [hb2] at h; cases h
      · rw [hb2] at h
        cases h
        have h5 := ile_t hb2
        unfold mnI at h5
        have hv : ivr (0, imax (-i.1) i.2) (if 0 ≤ Int32.ofInt x then Int32.ofInt x else 0 - Int32.ofInt x).toInt := by
          have m1 := imax_ge1 (-i.1) i.2
          have m2 := imax_ge2 (-i.1) i.2
          split
          · rename_i hz
            rw [hle] at hz
            rw [q2]
            exact ⟨hz, by show x ≤ imax (-i.1) i.2; omega⟩
          · rename_i hz
            rw [hle] at hz
            have e3 : (0 : Int32) - Int32.ofInt x = Int32.ofInt (0 - x) := (Int32.ofInt_sub 0 x).symm
            rw [e3, Int32.toInt_ofInt_of_le (by omega) (by have := (Int32.ofInt x).le_toInt; omega)]
            exact ⟨by show (0 : Int) ≤ 0 - x; omega, by show 0 - x ≤ imax (-i.1) i.2; omega⟩
        obtain ⟨σ, s1, s2⟩ := fr_ok hh.1 hv (fullIL _)
        exact kk (ρ ++ σ) α ls lvl _ ws H locs (rep_push (rep_env h1 s1) ⟨_, s2, by rw [Int32.ofInt_toInt]⟩)
    · rw [hb] at h
      cases h
      have := ile_t hb
      rw [if_pos (hle.mpr (by omega))]
      exact kk ρ α ls lvl _ ws H locs (rep_push h1 ⟨x, hx, rfl⟩)
  · cases h
end
end
