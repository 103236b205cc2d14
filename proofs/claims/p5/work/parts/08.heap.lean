noncomputable section
/-! an instruction, a row: fields, objects, arrays -/
def pok (ty : FieldType) (env : eEv) (v : eSV) : Bool := match ty, v with
  | .int, .inl _ => true
  | .long, .inr (.inl _) => true
  | .boolean, .inl f => (match irg env f with
    | some i => ile 0 i.1 && ile i.2 1
    | none => false)
  | .byte, .inl f => (match irg env f with
    | some i => ile (-128) i.1 && ile i.2 127
    | none => false)
  | .char, .inl f => (match irg env f with
    | some i => ile 0 i.1 && ile i.2 65535
    | none => false)
  | .object _, .inr (.inr _) => true
  | .array _, .inr (.inr _) => true
  | _, _ => false
theorem char_ok {x : Int32} (h0 : 0 ≤ x.toInt) (h1 : x.toInt ≤ 65535) : narrow .char (.int x) = .int x ∧ fits .char (.int x) = true := by
  obtain ⟨n, hn, en, n2⟩ := nI_ex h0
  rw [en]
  exact pk_charN (by omega)
theorem zo_cases {x : Int32} (h0 : 0 ≤ x.toInt) (h1 : x.toInt ≤ 1) : x = 0 ∨ x = 1 := by
  rcases (show x.toInt = 0 ∨ x.toInt = 1 by omega) with h | h
  · exact Or.inl (Int32.toInt_inj.mp h)
  · exact Or.inr (Int32.toInt_inj.mp h)
theorem byte_same {x : Int32} (h0 : -128 ≤ x.toInt) (h1 : x.toInt ≤ 127) : x.toInt8.toInt32 = x := by
  apply Int32.toInt_inj.mp
  rw [Int8.toInt_toInt32, Int32.toInt_toInt8]
  exact Int.bmod_eq_of_le (by omega) (by omega)
theorem pok_ok {ty : FieldType} {env : eEv} {ρ : List Int} {α : List Nat} (hE : eOk env ρ) {v : eSV} {w : Value} (h : pok ty env v = true) (hv : vok ρ α v w) : narrow ty w = w ∧ fits ty w = true := by
  unfold pok at h
  unfold vok at hv
  split at h
  · obtain ⟨x, h1, rfl⟩ := hv; exact ⟨rfl, rfl⟩
  · obtain ⟨x, h1, rfl⟩ := hv; exact ⟨rfl, rfl⟩
  · rename_i f
    obtain ⟨x, h1, rfl⟩ := hv
    split at h
    · rename_i i hi
      rw [Bool.and_eq_true] at h
      have g := irg_ivr hE hi h1
      have g1 := ile_t h.1
      have g2 := ile_t h.2
      rcases zo_cases (x := Int32.ofInt x) (Int.le_trans g1 g.1) (Int.le_trans g.2 g2) with e | e <;> rw [e] <;> exact ⟨rfl, rfl⟩
    · cases h
  · rename_i f
    obtain ⟨x, h1, rfl⟩ := hv
    split at h
    · rename_i i hi
      rw [Bool.and_eq_true] at h
      have g := irg_ivr hE hi h1
      have g1 := ile_t h.1
      have g2 := ile_t h.2
      have q1 : -128 ≤ (Int32.ofInt x).toInt := Int.le_trans g1 g.1
      have q2 : (Int32.ofInt x).toInt ≤ 127 := Int.le_trans g.2 g2
      refine ⟨?_, ?_⟩
      · show Value.int (Int32.ofInt x).toInt8.toInt32 = _
        rw [byte_same q1 q2]
      · show (decide ((-128 : Int32) ≤ Int32.ofInt x) && decide (Int32.ofInt x ≤ (127 : Int32))) = true
        rw [Bool.and_eq_true, decide_eq_true_eq, decide_eq_true_eq, Int32.le_iff_toInt_le, Int32.le_iff_toInt_le]
        exact ⟨q1, q2⟩
    · cases h
  · rename_i f
    obtain ⟨x, h1, rfl⟩ := hv
    split at h
    · rename_i i hi
      rw [Bool.and_eq_true] at h
      have g := irg_ivr hE hi h1
      exact char_ok (Int.le_trans (ile_t h.1) g.1) (Int.le_trans g.2 (ile_t h.2))
    · cases h
  · rename_i o
    cases o with
    | none => subst hv; exact ⟨rfl, rfl⟩
    | some i => obtain ⟨a, h1, rfl⟩ := hv; exact ⟨rfl, rfl⟩
  · rename_i o
    cases o with
    | none => subst hv; exact ⟨rfl, rfl⟩
    | some i => obtain ⟨a, h1, rfl⟩ := hv; exact ⟨rfl, rfl⟩
  · cases h
theorem R2.mapR {A B C : Type} {r : B → C → Prop} {f : A → B} {g : A → C} : ∀ (l : List A), (∀ a ∈ l, r (f a) (g a)) → R2 r (l.map f) (l.map g)
  | [], _ => trivial
  | a :: l, h => ⟨h a List.mem_cons_self, R2.mapR l (fun b hb => h b (List.mem_cons_of_mem _ hb))⟩
def plainTy (ty : FieldType) : Bool := match ty with
  | .float => false
  | .double => false
  | _ => true
def dsv (ty : FieldType) : eSV := match ty with
  | .long => .inr (.inl (fc 0))
  | .object _ => .inr (.inr none)
  | .array _ => .inr (.inr none)
  | _ => .inl (fc 0)
theorem dsv_ok {ρ : List Int} {α : List Nat} {ty : FieldType} (h : plainTy ty = true) : vok ρ α (dsv ty) (defaultValue ty) := by
  cases ty <;> first | (cases h; done) | exact ⟨0, fc_ok 0, rfl⟩ | rfl
section
variable {p : Program} {l : Launch} {e : Env} {R : Room} {s : State} {m : MethodId} {args : Array Value} {below : List Frame} {meth : Method} {c : Code} {Q : State → Prop} {D : va_G} {ca : Nat → ClassId} {A : Nat → Prop} {nL cb sb : Nat} {r0 : List Int} {a0 : List Nat} {own : String} {cc : ByteArray} {env : eEv} {lo : List (Nat × eSV)} {st : List eSV} {hp : eHp} {na : eNa} {nc ns pc : Nat}
theorem g_get (X : eCx p R s m args c D ca A nL own cc a0) {idx i k kf ci : Nat} {fs : List eSV} {v : eSV} {q : vw_C} (hd : decode cc pc = .ok (.getfield idx, 3)) (hc : vwCl[ci]? = some q) (hk : kf < q.2.2) (hw : Cond.fieldLink own idx (q.2.1 kf).1 (q.2.1 kf).2.1 (q.2.1 kf).2.2.1 ∈ gtbl) (hf : hfd i hp 0 = some (k, .inl (ci, fs))) (hv : fs[kf]? = some v)
    (kk : eG p l e R s m args below meth c Q D ca A nL cb sb r0 a0 env lo (v :: st) hp na nc ns (pc + 3)) : eG p l e R s m args below meth c Q D ca A nL cb sb r0 a0 env lo (.inr (.inr (some i)) :: st) hp na nc ns pc := by
  intro ρ α ls lvl stk ws H locs h
  obtain ⟨a, stk', rfl, h1, h2⟩ := rep_popR h
  obtain ⟨x, h3, vs, rfl, h4⟩ := rep_cell h2 hf h1
  obtain ⟨w, h5, h6⟩ := R2.get h4 hv
  exact va_get X.1 X.2.1 X.2.2.2.2.1 (cl_ok hc).1 X.2.2.2.1 X.2.2.2.2.2.1 h2.2.2.2.2.2.2.1 k h3 hc kf hk (X.2.2.2.2.1 _ hw) (fun _ z => z) h5 hd (kk ρ α ls lvl _ ws H locs (rep_push h2 h6))
theorem g_put (X : eCx p R s m args c D ca A nL own cc a0) {idx i k kf ci : Nat} {fs : List eSV} {v : eSV} {q : vw_C} (hd : decode cc pc = .ok (.putfield idx, 3)) (hc : vwCl[ci]? = some q) (hk : kf < q.2.2) (hw : Cond.fieldLink own idx (q.2.1 kf).1 (q.2.1 kf).2.1 (q.2.1 kf).2.2.1 ∈ gtbl) (hfin : (q.2.1 kf).2.2.2 = false) (hp1 : pok (clTy ci kf) env v = true) (hl : kf < fs.length) (hf : hfd i hp 0 = some (k, .inl (ci, fs)))
    (kk : eG p l e R s m args below meth c Q D ca A nL cb sb r0 a0 env lo st (hp.set k (i, .inl (ci, fs.set kf v))) na nc ns (pc + 3)) : eG p l e R s m args below meth c Q D ca A nL cb sb r0 a0 env lo (v :: .inr (.inr (some i)) :: st) hp na nc ns pc := by
  intro ρ α ls lvl stk ws H locs h
  obtain ⟨w, stk1, rfl, hv, h0⟩ := rep_pop h
  obtain ⟨a, stk', rfl, h1, h2⟩ := rep_popR h0
  obtain ⟨x, h3, vs, rfl, h4⟩ := rep_cell h2 hf h1
  obtain ⟨n1, n2⟩ := pok_ok h.1 hp1 hv
  exact va_put X.1 X.2.1 X.2.2.2.2.1 (cl_ok hc).1 (clTy ci) (cl_ok hc).2.1 (cl_ok hc).2.2 X.2.2.2.1 X.2.2.2.2.2.1 h2.2.2.2.2.2.2.1 h2.2.2.2.2.2.2.2.1 h2.2.2.2.2.2.2.2.2 k h3 hc kf hk (X.2.2.2.2.1 _ hw) (fun _ z => z) hfin ((cl_ok hc).2.1 kf hk) n1 n2 (by rw [← R2.len h4]; exact hl) hd
    (fun H1 locs1 gP gD gS => kk ρ α ls lvl stk' _ H1 locs1 (rep_set h2 hf h1 ⟨_, rfl, R2.set hv h4 kf⟩ gP gD gS))
theorem g_putF (X : eCx p R s m args c D ca A nL own cc a0) (hI : meth.name = "<init>") {idx i k kf ci : Nat} {fs : List eSV} {v : eSV} {q : vw_C} (hd : decode cc pc = .ok (.putfield idx, 3)) (hc : vwCl[ci]? = some q) (hk : kf < q.2.2) (hw : Cond.fieldLink own idx (q.2.1 kf).1 (q.2.1 kf).2.1 (q.2.1 kf).2.2.1 ∈ gtbl) (hfin : (q.2.1 kf).2.2.2 = true) (hdc : (q.2.1 kf).1 = own) (hp1 : pok (clTy ci kf) env v = true) (hl : kf < fs.length) (hf : hfd i hp 0 = some (k, .inl (ci, fs)))
    (kk : eG p l e R s m args below meth c Q D ca A nL cb sb r0 a0 env lo st (hp.set k (i, .inl (ci, fs.set kf v))) na nc ns (pc + 3)) : eG p l e R s m args below meth c Q D ca A nL cb sb r0 a0 env lo (v :: .inr (.inr (some i)) :: st) hp na nc ns pc := by
  intro ρ α ls lvl stk ws H locs h
  obtain ⟨w, stk1, rfl, hv, h0⟩ := rep_pop h
  obtain ⟨a, stk', rfl, h1, h2⟩ := rep_popR h0
  obtain ⟨x, h3, vs, rfl, h4⟩ := rep_cell h2 hf h1
  obtain ⟨n1, n2⟩ := pok_ok h.1 hp1 hv
  exact va_putF X.1 X.2.1 X.2.2.2.2.1 (cl_ok hc).1 (clTy ci) (cl_ok hc).2.1 (cl_ok hc).2.2 X.2.2.2.1 X.2.2.2.2.2.1 h2.2.2.2.2.2.2.1 h2.2.2.2.2.2.2.2.1 h2.2.2.2.2.2.2.2.2 k h3 hc kf hk (X.2.2.2.2.1 _ hw) (fun _ z => z) hfin hI hdc ((cl_ok hc).2.1 kf hk) n1 n2 (by rw [← R2.len h4]; exact hl) hd
    (fun H1 locs1 gP gD gS => kk ρ α ls lvl stk' _ H1 locs1 (rep_set h2 hf h1 ⟨_, rfl, R2.set hv h4 kf⟩ gP gD gS))
/-- one cell more -/
theorem rep_new {ρ : List Int} {α : List Nat} {ls : Array Slot} {lvl : List (Nat × Value)} {stk : List Value} {ws : va_W} {H H1 : Heap} {locs locs1 : List Loc} {c' : eSC} {x' : va_E} {q : Nat} (h : eRep s D ca A nL r0 a0 env lo st hp na ρ α ls lvl stk ws H locs) (hc : cok ca ρ (α ++ [q]) c' x')
    (hP : va_P D vwCl (ws ++ [(q, x')]) H1) (hD : va_D A (ws ++ [(q, x')])) (hS : va_S A s.heap H1 locs1) : eRep s D ca A nL r0 a0 env lo (.inr (.inr (some na.1)) :: st) (hp ++ [(na.1, c')]) (na.1 + 1, na.2) ρ (α ++ [q]) ls lvl (.ref q :: stk) (ws ++ [(q, x')]) H1 locs1 := by
  obtain ⟨h1, h2, h3, h4, h5, h6, h7⟩ := h
  have e : (α ++ [q])[na.1]? = some q := by rw [← h2.1.1, List.getElem?_append_right (Nat.le_refl _), Nat.sub_self]; rfl
  refine ⟨h1, ⟨⟨by simp [h2.1.1], h2.1.2⟩, h2.2.1, h2.2.2.trans (List.prefix_append α [q])⟩, h3, R2.imp (fun _ _ h => ?_) h4, ⟨⟨q, e, rfl⟩, R2.imp (fun _ _ h => ?_) h5⟩, R2.app (R2.imp (fun _ _ h => ?_) h6) (R2.one ⟨e, hc⟩), hP, hD, hS⟩
  · have := lrel_mono [] [q] h; rwa [List.append_nil] at this
  · have := vok_mono [] [q] h; rwa [List.append_nil] at this
  · have := hrel_mono (ca := ca) [] [q] h; rwa [List.append_nil] at this
def dfl (ci N : Nat) : List eSV := (List.range N).map (fun j => dsv (clTy ci j))
theorem g_new (X : eCx p R s m args c D ca A nL own cc a0) {idx ci : Nat} {q : vw_C} (hd : decode cc pc = .ok (.new idx, 3)) (hc : vwCl[ci]? = some q) (hw1 : Cond.classLink own idx q.1 ∈ gtbl) (hw2 : Cond.instantiable q.1 q.2.2 ∈ gtbl) (hw3 : Cond.initialized q.1 ∈ gtbl) (hpl : (List.range q.2.2).all (fun j => plainTy (clTy ci j)) = true) (hcl : cb + nc + 1 ≤ R.cells) (hsl : sb + ns + q.2.2 ≤ R.slots)
    (kk : eG p l e R s m args below meth c Q D ca A nL cb sb r0 a0 env lo (.inr (.inr (some na.1)) :: st) (hp ++ [(na.1, .inl (ci, dfl ci q.2.2))]) (na.1 + 1, na.2) (nc + 1) (ns + q.2.2) (pc + 3)) : eG p l e R s m args below meth c Q D ca A nL cb sb r0 a0 env lo st hp na nc ns pc := by
  intro ρ α ls lvl stk ws H locs h
  refine va_new (fs := (List.range q.2.2).map (fun j => defaultValue (clTy ci j))) X.1 X.2.1 X.2.2.2.2.1 (cl_ok hc).1 (clTy ci) (cl_ok hc).2.1 X.2.2.2.1 (X.2.2.2.2.1 _ hw1) (X.2.2.2.2.1 _ hw2) (X.2.2.2.2.1 _ hw3) X.2.2.2.2.2.1 h.2.2.2.2.2.2.1 h.2.2.2.2.2.2.2.1 h.2.2.2.2.2.2.2.2 X.2.2.2.2.2.2.2.1 hc (fun j hj => ?_) hcl hsl hd (fun q' H1 gP gD gS => ?_)
  · show _ = ((List.range q.2.2).map (fun j => defaultValue (clTy ci j))).getD j .null
    simp [List.getD, hj]
  · have := kk ρ (α ++ [q']) ls lvl (.ref q' :: stk) _ H1 locs (rep_new h ⟨_, rfl, R2.mapR _ (fun j hj => dsv_ok (List.all_eq_true.mp hpl j hj))⟩ gP gD gS)
    rwa [← Nat.add_assoc, ← Nat.add_assoc] at this
/-- a new array of ints, bytes, booleans, longs: all 0 -/
def z0 (n : Nat) : eSg := [(n, .inl (.inr (.inl (fc 0))))]
def z0L (n : Nat) : eSg := [(n, .inl (.inr (.inr (.inl (fc 0)))))]
theorem one_cls {D : va_G} {U : State} {tys : List (ClassId × FieldType)} {t : Nat} {cA c0 : ClassId} {ty : FieldType} (hp : ∀ C, ty ≠ .object C) (h : va_K D vwCl (tys ++ [(cA, ty)]) U) (ht : tys[t]? = some (c0, ty)) : cA = c0 := by
  have h1 := (h.2 tys.length (cA, ty) (by simp)).2
  have h2 := (h.2 t (c0, ty) (getE_mono _ ht)).2
  cases ty <;> first | exact absurd rfl (hp _) | exact Option.some.inj (h1.symm.trans h2)
theorem one_clsO {D : va_G} {U : State} {tys : List (ClassId × FieldType)} {t : Nat} {cA c0 : ClassId} {C : String} (h : va_K D vwCl (tys ++ [(cA, .object C)]) U) (ht : tys[t]? = some (c0, .object C)) : cA = c0 := by
  obtain ⟨_, _, _, _, _, h1⟩ := (h.2 tys.length (cA, .object C) (by simp)).2
  obtain ⟨_, _, _, _, _, h2⟩ := (h.2 t (c0, .object C) (getE_mono _ ht)).2
  exact Option.some.inj (h1.symm.trans h2)
theorem cl_of {n : Nat} (h : n < 2 ^ 31) : ¬ Int32.ofInt (n : Int) < 0 ∧ (Int32.ofInt (n : Int)).toNatClampNeg = n := by
  have e : Int32.ofInt (n : Int) = nI n := rfl
  rw [e]
  exact ⟨nI_pos h, nI_clamp h⟩
theorem z0_cd (n : Nat) : cdG (z0 n) = none := by
  show bq (Nat.beq n 0) none none = none
  cases Nat.beq n 0 <;> rfl
theorem z0L_cd (n : Nat) : cdG (z0L n) = none := by
  show bq (Nat.beq n 0) none none = none
  cases Nat.beq n 0 <;> rfl
theorem sga_z0 {n j : Nat} (hj : j < n) : sga (z0 n) j = some (.inr (.inl (fc 0))) := sga_lt1 hj
theorem sga_z0L {n j : Nat} (hj : j < n) : sga (z0L n) j = some (.inr (.inr (.inl (fc 0)))) := sga_lt1 hj
theorem g_newa (X : eCx p R s m args c D ca A nL own cc a0) {at_ : ArrayType} {t n : Nat} {ty : FieldType} (hd : decode cc pc = .ok (.newarray at_, 2)) (hty : newarray.typeOf at_ = ty) (ht : (tys0 ca)[t]? = some (ca t, ty)) (hob : ∀ C, ty ≠ .object C) (hdf : defaultValue ty = .int 0) (hw : Cond.arrayClass ty ∈ gtbl) (hn : n < 100000) (hby : componentBytes ty ≤ 8) (hcl : cb + nc + 1 ≤ R.cells) (hsl : sb + ns + n ≤ R.slots)
    (kk : eG p l e R s m args below meth c Q D ca A nL cb sb r0 a0 env lo (.inr (.inr (some na.1)) :: st) (hp ++ [(na.1, .inr (.inl (t, n, z0 n)))]) (na.1 + 1, na.2) (nc + 1) (ns + n) (pc + 2)) : eG p l e R s m args below meth c Q D ca A nL cb sb r0 a0 env lo (.inl (fc (n : Int)) :: st) hp na nc ns pc := by
  intro ρ α ls lvl stk ws H locs h
  obtain ⟨x, stk', rfl, h1, h2⟩ := rep_popI h
  have e := fc_inv h1
  subst e
  subst hty
  obtain ⟨c1, c2⟩ := cl_of (n := n) (by omega)
  refine va_newa (a0 := (n, .inl (fun _ => 0))) X.1 X.2.1 (X.2.2.2.2.1 _ hw) rfl X.2.2.2.2.2.1 h2.2.2.2.2.2.2.1 h2.2.2.2.2.2.2.2.1 h2.2.2.2.2.2.2.2.2 X.2.2.2.2.2.2.2.1 (fun cA => by rw [vp_cell_i, hdf]) c1 c2 ?_ hcl hsl hd (fun q cA H1 gK gP gD gS => ?_)
  · have : n * componentBytes (newarray.typeOf at_) ≤ 100000 * 8 := Nat.mul_le_mul (by omega) hby
    omega
  · have e2 := one_cls hob gK ht
    subst e2
    have := kk ρ (α ++ [q]) ls lvl (.ref q :: stk') _ H1 locs (rep_new h2 ⟨_, rfl, fun j hj => ⟨_, sga_z0 hj, 0, fc_ok 0, rfl⟩, cdO_none (z0_cd n)⟩ gP gD gS)
    rwa [← Nat.add_assoc, ← Nat.add_assoc] at this
theorem g_newaL (X : eCx p R s m args c D ca A nL own cc a0) {n : Nat} (hd : decode cc pc = .ok (.newarray .long, 2)) (hw : Cond.arrayClass .long ∈ gtbl) (hn : n < 100000) (hcl : cb + nc + 1 ≤ R.cells) (hsl : sb + ns + n ≤ R.slots)
    (kk : eG p l e R s m args below meth c Q D ca A nL cb sb r0 a0 env lo (.inr (.inr (some na.1)) :: st) (hp ++ [(na.1, .inr (.inr (.inl (n, z0L n))))]) (na.1 + 1, na.2) (nc + 1) (ns + n) (pc + 2)) : eG p l e R s m args below meth c Q D ca A nL cb sb r0 a0 env lo (.inl (fc (n : Int)) :: st) hp na nc ns pc := by
  intro ρ α ls lvl stk ws H locs h
  obtain ⟨x, stk', rfl, h1, h2⟩ := rep_popI h
  have e := fc_inv h1
  subst e
  obtain ⟨c1, c2⟩ := cl_of (n := n) (by omega)
  refine va_newa (atype := .long) (ty := .long) (a0 := (n, .inr (.inl (fun _ => 0)))) X.1 X.2.1 (X.2.2.2.2.1 _ hw) rfl X.2.2.2.2.2.1 h2.2.2.2.2.2.2.1 h2.2.2.2.2.2.2.2.1 h2.2.2.2.2.2.2.2.2 X.2.2.2.2.2.2.2.1 (fun cA => rfl) c1 c2 (by show n * 8 ≤ 536870912; omega) hcl hsl hd (fun q cA H1 gK gP gD gS => ?_)
  have e2 := one_cls (t := 2) (c0 := ca 2) (by intro C h; cases h) gK rfl
  subst e2
  have := kk ρ (α ++ [q]) ls lvl (.ref q :: stk') _ H1 locs (rep_new h2 ⟨fun _ => 0, rfl, fun j hj => ⟨_, sga_z0L hj, 0, fc_ok 0, rfl⟩, cdO_none (z0L_cd n)⟩ gP gD gS)
  rwa [← Nat.add_assoc, ← Nat.add_assoc] at this
theorem g_newq (X : eCx p R s m args c D ca A nL own cc a0) {idx t n : Nat} {C : String} (hd : decode cc pc = .ok (.anewarray idx, 3)) (ht : (tys0 ca)[t]? = some (ca t, .object C)) (hw1 : Cond.classLink own idx C ∈ gtbl) (hw2 : Cond.arrayOver (.object C) ∈ xtbl) (hn : n < 100000) (hcl : cb + nc + 1 ≤ R.cells) (hsl : sb + ns + n ≤ R.slots)
    (kk : eG p l e R s m args below meth c Q D ca A nL cb sb r0 a0 env lo (.inr (.inr (some na.1)) :: st) (hp ++ [(na.1, .inr (.inr (.inr (t, n, [(n, .inl (.inr (.inr (.inr none))))]))))]) (na.1 + 1, na.2) (nc + 1) (ns + n) (pc + 3)) : eG p l e R s m args below meth c Q D ca A nL cb sb r0 a0 env lo (.inl (fc (n : Int)) :: st) hp na nc ns pc := by
  intro ρ α ls lvl stk ws H locs h
  obtain ⟨x, stk', rfl, h1, h2⟩ := rep_popI h
  have e := fc_inv h1
  subst e
  obtain ⟨c1, c2⟩ := cl_of (n := n) (by omega)
  refine va_newq X.1 X.2.1 X.2.2.2.1 (X.2.2.2.2.1 _ hw1) (X.2.2.2.2.2.2.1 _ hw2) X.2.2.2.2.2.1 h2.2.2.2.2.2.2.1 h2.2.2.2.2.2.2.2.1 h2.2.2.2.2.2.2.2.2 X.2.2.2.2.2.2.2.1 c1 c2 (by omega) hcl hsl hd (fun q cA H1 gK gP gD gS => ?_)
  have e2 := one_clsO gK ht
  subst e2
  have := kk ρ (α ++ [q]) ls lvl (.ref q :: stk') _ H1 locs (rep_new h2 ⟨fun _ => none, rfl, fun j hj => ⟨.inr (.inr (.inr none)), sga_lt1 hj, rfl⟩⟩ gP gD gS)
  rwa [← Nat.add_assoc, ← Nat.add_assoc] at this
/-- loads -/
def ald (env : eEv) (n : Nat) (sg : eSg) (f : eLF) : Option (eEv × eLF) := match irg env f with
  | some i => bif ile 0 i.1 && ile (i.2 + 1) n then (bif ile i.2 i.1 then (match sga sg i.1.toNat with
      | some (.inr (.inl g)) => some (env, g)
      | some (.inl q) => some (fr env q.1 q.2)
      | _ => none) else (match sgh env i.1.toNat i.2.toNat 0 (sgX i.1.toNat i.2.toNat 0 sg) none with
      | some q => some (fr env q.1 q.2)
      | none => none)) else none
  | none => none
theorem eclamp {x : Int} (h : (Int32.ofInt x).toInt = x) : (Int32.ofInt x).toNatClampNeg = x.toNat := by
  show (Int32.ofInt x).toInt.toNat = x.toNat
  rw [h]
theorem ald_in {ρ : List Int} (hE : eOk env ρ) {n : Nat} {f : eLF} {x : Int} (hx : lfv ρ f x) {i : Int × Int} (hi : irg env f = some i) (hb : (ile 0 i.1 && ile (i.2 + 1) n) = true) : vp_in (Int32.ofInt x) n ∧ (Int32.ofInt x).toNatClampNeg = x.toNat ∧ x.toNat < n ∧ 0 ≤ x ∧ i.1 ≤ x ∧ x ≤ i.2 ∧ 0 ≤ i.1 := by
  obtain ⟨h1, h2⟩ := irg_ok hE hi hx
  rw [Bool.and_eq_true] at hb
  have g1 := ile_t hb.1
  have g2 := ile_t hb.2
  have h3 := h1.1
  have h4 := h1.2
  refine ⟨vp_in_iff.mpr ?_, eclamp h2, by omega, by omega, h3, h4, g1⟩
  rw [h2]
  omega
theorem ald_ok {ρ : List Int} (hE : eOk env ρ) {n : Nat} {sg : eSg} {f : eLF} {x : Int} {F : Nat → Int32} (hx : lfv ρ f x) (hF : ∀ j, j < n → ∃ y, sga sg j = some y ∧ eli ρ y (F j)) {r : eEv × eLF} (h : ald env n sg f = some r) :
    vp_in (Int32.ofInt x) n ∧ ∃ σ z, eOk r.1 (ρ ++ σ) ∧ lfv (ρ ++ σ) r.2 z ∧ Int32.ofInt z = F (Int32.ofInt x).toNatClampNeg := by
  unfold ald at h
  split at h
  · rename_i i hi
    cases hb : ile 0 i.1 && ile (i.2 + 1) n
    · rw [hb] at h; cases h
    · rw [hb] at h
      obtain ⟨g1, g2, g3, g4, g5, g6, g7⟩ := ald_in hE hx hi hb
      refine ⟨g1, ?_⟩
      rw [g2]
      obtain ⟨y, y1, y2⟩ := hF _ g3
      dsimp only [cond_true] at h
      cases hb2 : ile i.2 i.1
      · rw [hb2] at h
        dsimp only [cond_false] at h
        split at h
        · rename_i q hq
          cases h
          have := sgh_ok hE (sgX i.1.toNat i.2.toNat 0 sg) 0 hq x.toNat ((sgX_at sg 0 _).trans y1) y2 (by omega) (by omega)
          obtain ⟨σ, s1, s2⟩ := fr_ok hE this (fullIL _)
          exact ⟨σ, _, s1, s2, Int32.ofInt_toInt _⟩
        · cases h
      · rw [hb2] at h
        have := ile_t hb2
        have e : i.1 = x := by omega
        rw [e, y1] at h
        dsimp only [cond_true] at h
        split at h
        · rename_i g hg
          cases hg
          cases h
          obtain ⟨z, z1, z2⟩ := y2
          exact ⟨[], z, by rw [List.append_nil]; exact hE, by rw [List.append_nil]; exact z1, z2.symm⟩
        · rename_i q hq
          cases hq
          cases h
          obtain ⟨σ, s1, s2⟩ := fr_ok hE y2 (fullIL _)
          exact ⟨σ, _, s1, s2, Int32.ofInt_toInt _⟩
        · cases h
  · cases h
theorem g_ald {i k t n pc' : Nat} {sg : eSg} {f : eLF} {r : eEv × eLF} (row : ∀ (a : Nat) (x : Int32) (F : Nat → Int32) (ws : va_W) (H : Heap) (locs : List Loc) (ls : Array Slot) (rest : List Value), va_P D vwCl ws H → ws[k]? = some (a, .inl (ca t, n, .inl F)) → vp_in x n → W p l e R s m args below meth c H locs (cb + nc) (sb + ns) Q (F0 m pc' ls (.int (F x.toNatClampNeg) :: rest)) → W p l e R s m args below meth c H locs (cb + nc) (sb + ns) Q (F0 m pc ls (.int x :: .ref a :: rest)))
    (hf : hfd i hp 0 = some (k, .inr (.inl (t, n, sg)))) (h : ald env n (cdX sg) f = some r) (kk : eG p l e R s m args below meth c Q D ca A nL cb sb r0 a0 r.1 lo (.inl r.2 :: st) hp na nc ns pc') : eG p l e R s m args below meth c Q D ca A nL cb sb r0 a0 env lo (.inl f :: .inr (.inr (some i)) :: st) hp na nc ns pc := by
  intro ρ α ls lvl stk ws H locs hh
  obtain ⟨x, stk1, rfl, hx, h0⟩ := rep_popI hh
  obtain ⟨a, stk', rfl, h1, h2⟩ := rep_popR h0
  obtain ⟨y, h3, F, rfl, h4⟩ := rep_cell h2 hf h1
  obtain ⟨g1, σ, z, g2, g3, g4⟩ := ald_ok hh.1 hx (fun j hj => by rw [sga_cX]; exact h4.1 j hj) h
  exact row a _ F ws H locs ls stk' h2.2.2.2.2.2.2.1 h3 g1 (kk (ρ ++ σ) α ls lvl _ ws H locs (rep_push (rep_env h2 g2) ⟨z, g3, by rw [g4]⟩))
/-- a load that tells which element it was -/
theorem ald_ix {n : Nat} {sg : eSg} {f : eLF} {r : eEv × eLF} (h : ald env n sg f = some r) : ∃ i, irg env f = some i ∧ (ile 0 i.1 && ile (i.2 + 1) n) = true := by
  unfold ald at h
  split at h
  · rename_i i hi
    cases hb : ile 0 i.1 && ile (i.2 + 1) n
    · rw [hb] at h; cases h
    · exact ⟨i, hi, hb⟩
  · cases h
def fDec (x : eLF) (c : Nat) (f : eLF) : eFa := (.inr 1000001, [x, ([(c, 1)], 0), f])
/-- the place is not ahead of where the number begins -/
def oBe (env : eEv) (f : eLF) (o : Nat) : Bool := match irg env f with
  | some i => ile o i.1
  | none => false
theorem oBe_ok {ρ : List Int} (hE : eOk env ρ) {f : eLF} {o : Nat} {x : Int} (h : oBe env f o = true) (hx : lfv ρ f x) : (o : Int) ≤ x := by
  unfold oBe at h
  split at h
  · rename_i i hi
    exact Int.le_trans (ile_t h) (irg_ok hE hi hx).1.1
  · cases h
theorem g_aldD {i k t n pc' c0 o0 : Nat} {sg : eSg} {f : eLF} {r : eEv × eLF} {q : Int × Int} (row : ∀ (a : Nat) (x : Int32) (F : Nat → Int32) (ws : va_W) (H : Heap) (locs : List Loc) (ls : Array Slot) (rest : List Value), va_P D vwCl ws H → ws[k]? = some (a, .inl (ca t, n, .inl F)) → vp_in x n → W p l e R s m args below meth c H locs (cb + nc) (sb + ns) Q (F0 m pc' ls (.int (F x.toNatClampNeg) :: rest)) → W p l e R s m args below meth c H locs (cb + nc) (sb + ns) Q (F0 m pc ls (.int x :: .ref a :: rest)))
    (hf : hfd i hp 0 = some (k, .inr (.inl (t, n, sg)))) (h : ald env n (cdX sg) f = some r) (hq : irg r.1 r.2 = some q) (hc : cdG sg = some (c0, o0)) (ho : oBe env f o0 = true) (kk : eG p l e R s m args below meth c Q D ca A nL cb sb r0 a0 r.1 lo (.inl r.2 :: st) hp (adF na [fDec r.2 c0 f]) nc ns pc') : eG p l e R s m args below meth c Q D ca A nL cb sb r0 a0 env lo (.inl f :: .inr (.inr (some i)) :: st) hp na nc ns pc := by
  intro ρ α ls lvl stk ws H locs hh
  obtain ⟨x, stk1, rfl, hx, h0⟩ := rep_popI hh
  obtain ⟨a, stk', rfl, h1, h2⟩ := rep_popR h0
  obtain ⟨y, h3, F, rfl, h4⟩ := rep_cell h2 hf h1
  obtain ⟨ix, i1, i2⟩ := ald_ix h
  obtain ⟨_, j2, j3, j4, _, _, _⟩ := ald_in hh.1 hx i1 i2
  obtain ⟨g1, σ, z, g2, g3, g4⟩ := ald_ok hh.1 hx (fun j hj => by rw [sga_cX]; exact h4.1 j hj) h
  have ez := (irg_ok g2 hq g3).2
  obtain ⟨zc, z1, z2⟩ := h4.2 c0 o0 hc
  have ho1 := oBe_ok hh.1 ho hx
  have hF : fOk (ρ ++ σ) [fDec r.2 c0 f] := by
    intro G hG
    rcases List.mem_cons.mp hG with rfl | hG
    · refine ⟨[z, zc, x], ⟨g3, lfv_v2 (getE_mono σ z1), lfv_mono σ hx, trivial⟩, (bxS_t (t := 1)).mpr ?_⟩
      show pDec z zc x
      refine ⟨j4, ?_⟩
      rw [z2 _ (by omega) j3, ← j2]
      show (F (Int32.ofInt x).toNatClampNeg).toInt = z
      rw [← g4, ez]
    · cases hG
  exact row a _ F ws H locs ls stk' h2.2.2.2.2.2.2.1 h3 g1 (kk (ρ ++ σ) α ls lvl _ ws H locs (rep_addFs (rep_push (rep_env h2 g2) ⟨z, g3, by rw [g4]⟩) hF))
/-- an element that is known already: by a load, by a store -/
def dcF (c : Nat) (f : eLF) (F : eFa) : Option eLF := match F.1 with
  | .inl _ => none
  | .inr n => bq (Nat.beq n 1000001) (match F.2 with
    | [x, z, i] => bq (fbeq z ([(c, 1)], 0) && fbeq i f) (some x) none
    | _ => none) (bq (Nat.beq n 1000002) (match F.2 with
    | [z, _, i, v] => bq (fbeq z ([(c, 1)], 0) && fbeq i f) (some v) none
    | _ => none) none)
def fdD1 (o : Option eLF) (ih : Option eLF) : Option eLF := match o with
  | some g => some g
  | none => ih
def fdD (c : Nat) (f : eLF) (fs : List eFa) : Option eLF := @List.rec eFa (fun _ => Option eLF) none (fun F _ ih => fdD1 (dcF c f F) ih) fs
theorem dcF_ok {ρ : List Int} {c : Nat} {f g : eLF} {F : eFa} (h : dcF c f F = some g) (hF : bxOk ρ F) {z x : Int} (hz : ρ[c]? = some z) (hx : lfv ρ f x) : lfv ρ g (dcd x.toNat z) := by
  obtain ⟨F1, F2⟩ := F
  unfold dcF at h
  dsimp only at h
  split at h
  · cases h
  · rename_i n
    cases hb : Nat.beq n 1000001
    · rw [hb, bq_f] at h
      cases hb2 : Nat.beq n 1000002
      · rw [hb2] at h; cases h
      · rw [hb2, bq_t] at h
        have en : n = 1000000 + 2 := Nat.eq_of_beq_eq_true hb2
        subst en
        split at h
        · rename_i z0 y0 i0 v0
          cases hc : fbeq z0 ([(c, 1)], 0) && fbeq i0 f
          · rw [hc] at h; cases h
          · rw [hc, bq_t] at h
            cases h
            rw [Bool.and_eq_true] at hc
            have e1 := fbeq_t hc.1
            have e2 := fbeq_t hc.2
            subst e1; subst e2
            obtain ⟨xs, x1, x2⟩ := hF
            have x1 : R2 (lfv ρ) [([(c, 1)], 0), y0, i0, g] xs := x1
            obtain ⟨a0, t0, rfl, g0, x1⟩ := R2.cons_inv x1
            obtain ⟨a1, t1, rfl, g1, x1⟩ := R2.cons_inv x1
            obtain ⟨a2, t2, rfl, g2, x1⟩ := R2.cons_inv x1
            obtain ⟨a3, t3, rfl, g3, x1⟩ := R2.cons_inv x1
            have e := R2.nil_inv x1
            subst e
            have q : pUpd a0 a1 a2 a3 := (bxS_t (t := 2)).mp x2
            rw [lfv_v1 g0] at hz
            cases hz
            have e3 := lfv_fun g2 hx
            subst e3
            obtain ⟨u1, u2, u3, rfl⟩ := q
            rw [dcd_us u3 (by omega)]
            exact g3
        · cases h
    · rw [hb, bq_t] at h
      have en : n = 1000000 + 1 := Nat.eq_of_beq_eq_true hb
      subst en
      split at h
      · rename_i x0 z0 i0
        cases hc : fbeq z0 ([(c, 1)], 0) && fbeq i0 f
        · rw [hc] at h; cases h
        · rw [hc, bq_t] at h
          cases h
          rw [Bool.and_eq_true] at hc
          have e1 := fbeq_t hc.1
          have e2 := fbeq_t hc.2
          subst e1; subst e2
          obtain ⟨xs, x1, x2⟩ := hF
          have x1 : R2 (lfv ρ) [g, ([(c, 1)], 0), i0] xs := x1
          obtain ⟨a0, t0, rfl, g0, x1⟩ := R2.cons_inv x1
          obtain ⟨a1, t1, rfl, g1, x1⟩ := R2.cons_inv x1
          obtain ⟨a2, t2, rfl, g2, x1⟩ := R2.cons_inv x1
          have e := R2.nil_inv x1
          subst e
          have q : pDec a0 a1 a2 := (bxS_t (t := 1)).mp x2
          rw [lfv_v1 g1] at hz
          cases hz
          have e3 := lfv_fun g2 hx
          subst e3
          rw [q.2]
          exact g0
      · cases h
theorem fdD_ok {ρ : List Int} {c : Nat} {f g : eLF} : ∀ {fs : List eFa}, fdD c f fs = some g → fOk ρ fs → ∀ {z x : Int}, ρ[c]? = some z → lfv ρ f x → lfv ρ g (dcd x.toNat z)
  | [], h, _, _, _, _, _ => by cases h
  | F :: t, h, hF, z, x, hz, hx => by
    have h' : fdD1 (dcF c f F) (fdD c f t) = some g := h
    unfold fdD1 at h'
    split at h'
    · rename_i g' hg
      cases h'
      exact dcF_ok hg (hF F List.mem_cons_self) hz hx
    · exact fdD_ok h' (fun G hG => hF G (List.mem_cons_of_mem _ hG)) hz hx
theorem g_aldM {i k t n pc' c0 o0 : Nat} {sg : eSg} {f g : eLF} {r : eEv × eLF} (row : ∀ (a : Nat) (x : Int32) (F : Nat → Int32) (ws : va_W) (H : Heap) (locs : List Loc) (ls : Array Slot) (rest : List Value), va_P D vwCl ws H → ws[k]? = some (a, .inl (ca t, n, .inl F)) → vp_in x n → W p l e R s m args below meth c H locs (cb + nc) (sb + ns) Q (F0 m pc' ls (.int (F x.toNatClampNeg) :: rest)) → W p l e R s m args below meth c H locs (cb + nc) (sb + ns) Q (F0 m pc ls (.int x :: .ref a :: rest)))
    (hf : hfd i hp 0 = some (k, .inr (.inl (t, n, sg)))) (h : ald env n (cdX sg) f = some r) (hc : cdG sg = some (c0, o0)) (ho : oBe env f o0 = true) (hg : fdD c0 f na.2 = some g) (kk : eG p l e R s m args below meth c Q D ca A nL cb sb r0 a0 env lo (.inl g :: st) hp na nc ns pc') : eG p l e R s m args below meth c Q D ca A nL cb sb r0 a0 env lo (.inl f :: .inr (.inr (some i)) :: st) hp na nc ns pc := by
  intro ρ α ls lvl stk ws H locs hh
  obtain ⟨x, stk1, rfl, hx, h0⟩ := rep_popI hh
  obtain ⟨a, stk', rfl, h1, h2⟩ := rep_popR h0
  obtain ⟨y, h3, F, rfl, h4⟩ := rep_cell h2 hf h1
  obtain ⟨ix, i1, i2⟩ := ald_ix h
  obtain ⟨j1, j2, j3, j4, _, _, _⟩ := ald_in hh.1 hx i1 i2
  obtain ⟨zc, z1, z2⟩ := h4.2 c0 o0 hc
  have ho1 := oBe_ok hh.1 ho hx
  have hv := fdD_ok hg hh.2.1.1.2 z1 hx
  rw [z2 _ (by omega) j3] at hv
  exact row a _ F ws H locs ls stk' h2.2.2.2.2.2.2.1 h3 j1 (kk ρ α ls lvl _ ws H locs (rep_push h2 ⟨_, hv, by rw [j2, Int32.ofInt_toInt]⟩))
theorem g_ialoadM (X : eCx p R s m args c D ca A nL own cc a0) {i k n c0 o0 : Nat} {sg : eSg} {f g : eLF} {r : eEv × eLF} (hd : decode cc pc = .ok (.iaload, 1)) (hf : hfd i hp 0 = some (k, .inr (.inl (1, n, sg)))) (h : ald env n (cdX sg) f = some r) (hc : cdG sg = some (c0, o0)) (ho : oBe env f o0 = true) (hg : fdD c0 f na.2 = some g) (kk : eG p l e R s m args below meth c Q D ca A nL cb sb r0 a0 env lo (.inl g :: st) hp na nc ns (pc + 1)) : eG p l e R s m args below meth c Q D ca A nL cb sb r0 a0 env lo (.inl f :: .inr (.inr (some i)) :: st) hp na nc ns pc :=
  g_aldM (fun a x F ws H locs ls rest gP ha hin w => va_iald X.1 X.2.1 X.2.2.2.2.2.1 gP k 1 ha rfl hin hd w) hf h hc ho hg kk
theorem g_baloadM (X : eCx p R s m args c D ca A nL own cc a0) {i k n c0 o0 : Nat} {sg : eSg} {f g : eLF} {r : eEv × eLF} (hd : decode cc pc = .ok (.baload, 1)) (hf : hfd i hp 0 = some (k, .inr (.inl (0, n, sg)))) (h : ald env n (cdX sg) f = some r) (hc : cdG sg = some (c0, o0)) (ho : oBe env f o0 = true) (hg : fdD c0 f na.2 = some g) (kk : eG p l e R s m args below meth c Q D ca A nL cb sb r0 a0 env lo (.inl g :: st) hp na nc ns (pc + 1)) : eG p l e R s m args below meth c Q D ca A nL cb sb r0 a0 env lo (.inl f :: .inr (.inr (some i)) :: st) hp na nc ns pc :=
  g_aldM (fun a x F ws H locs ls rest gP ha hin w => va_bald X.1 X.2.1 X.2.2.2.2.2.1 gP k 0 ha rfl hin hd w) hf h hc ho hg kk
theorem g_ialoadD (X : eCx p R s m args c D ca A nL own cc a0) {i k n c0 o0 : Nat} {sg : eSg} {f : eLF} {r : eEv × eLF} {q : Int × Int} (hd : decode cc pc = .ok (.iaload, 1)) (hf : hfd i hp 0 = some (k, .inr (.inl (1, n, sg)))) (h : ald env n (cdX sg) f = some r) (hq : irg r.1 r.2 = some q) (hc : cdG sg = some (c0, o0)) (ho : oBe env f o0 = true) (kk : eG p l e R s m args below meth c Q D ca A nL cb sb r0 a0 r.1 lo (.inl r.2 :: st) hp (adF na [fDec r.2 c0 f]) nc ns (pc + 1)) : eG p l e R s m args below meth c Q D ca A nL cb sb r0 a0 env lo (.inl f :: .inr (.inr (some i)) :: st) hp na nc ns pc :=
  g_aldD (fun a x F ws H locs ls rest gP ha hin w => va_iald X.1 X.2.1 X.2.2.2.2.2.1 gP k 1 ha rfl hin hd w) hf h hq hc ho kk
theorem g_baloadD (X : eCx p R s m args c D ca A nL own cc a0) {i k n c0 o0 : Nat} {sg : eSg} {f : eLF} {r : eEv × eLF} {q : Int × Int} (hd : decode cc pc = .ok (.baload, 1)) (hf : hfd i hp 0 = some (k, .inr (.inl (0, n, sg)))) (h : ald env n (cdX sg) f = some r) (hq : irg r.1 r.2 = some q) (hc : cdG sg = some (c0, o0)) (ho : oBe env f o0 = true) (kk : eG p l e R s m args below meth c Q D ca A nL cb sb r0 a0 r.1 lo (.inl r.2 :: st) hp (adF na [fDec r.2 c0 f]) nc ns (pc + 1)) : eG p l e R s m args below meth c Q D ca A nL cb sb r0 a0 env lo (.inl f :: .inr (.inr (some i)) :: st) hp na nc ns pc :=
  g_aldD (fun a x F ws H locs ls rest gP ha hin w => va_bald X.1 X.2.1 X.2.2.2.2.2.1 gP k 0 ha rfl hin hd w) hf h hq hc ho kk
theorem g_iaload (X : eCx p R s m args c D ca A nL own cc a0) {i k n : Nat} {sg : eSg} {f : eLF} {r : eEv × eLF} (hd : decode cc pc = .ok (.iaload, 1)) (hf : hfd i hp 0 = some (k, .inr (.inl (1, n, sg)))) (h : ald env n (cdX sg) f = some r) (kk : eG p l e R s m args below meth c Q D ca A nL cb sb r0 a0 r.1 lo (.inl r.2 :: st) hp na nc ns (pc + 1)) : eG p l e R s m args below meth c Q D ca A nL cb sb r0 a0 env lo (.inl f :: .inr (.inr (some i)) :: st) hp na nc ns pc :=
  g_ald (fun a x F ws H locs ls rest gP ha hin w => va_iald X.1 X.2.1 X.2.2.2.2.2.1 gP k 1 ha rfl hin hd w) hf h kk
theorem g_baload (X : eCx p R s m args c D ca A nL own cc a0) {i k n : Nat} {sg : eSg} {f : eLF} {r : eEv × eLF} (hd : decode cc pc = .ok (.baload, 1)) (hf : hfd i hp 0 = some (k, .inr (.inl (0, n, sg)))) (h : ald env n (cdX sg) f = some r) (kk : eG p l e R s m args below meth c Q D ca A nL cb sb r0 a0 r.1 lo (.inl r.2 :: st) hp na nc ns (pc + 1)) : eG p l e R s m args below meth c Q D ca A nL cb sb r0 a0 env lo (.inl f :: .inr (.inr (some i)) :: st) hp na nc ns pc :=
  g_ald (fun a x F ws H locs ls rest gP ha hin w => va_bald X.1 X.2.1 X.2.2.2.2.2.1 gP k 0 ha rfl hin hd w) hf h kk
theorem g_zaload (X : eCx p R s m args c D ca A nL own cc a0) {i k n : Nat} {sg : eSg} {f : eLF} {r : eEv × eLF} (hd : decode cc pc = .ok (.baload, 1)) (hf : hfd i hp 0 = some (k, .inr (.inl (3, n, sg)))) (h : ald env n (cdX sg) f = some r) (kk : eG p l e R s m args below meth c Q D ca A nL cb sb r0 a0 r.1 lo (.inl r.2 :: st) hp na nc ns (pc + 1)) : eG p l e R s m args below meth c Q D ca A nL cb sb r0 a0 env lo (.inl f :: .inr (.inr (some i)) :: st) hp na nc ns pc :=
  g_ald (fun a x F ws H locs ls rest gP ha hin w => va_zald X.1 X.2.1 X.2.2.2.2.2.1 gP k 3 ha rfl hin hd w) hf h kk
/-- stores -/
def fUpd (c' c : Nat) (f g : eLF) : eFa := (.inr 1000002, [([(c', 1)], 0), ([(c, 1)], 0), f, g])
def cdS (env : eEv) (n : Nat) (sg sg' : eSg) (f g : eLF) : eEv × eSg × List eFa := match cdG sg with
  | none => (env, cdX sg', [])
  | some c => (match irg env f, irg env g with
    | some i, some _ => bq (ile (i.2 + 1) c.2) (env, cdN c.1 c.2 (cdX sg'), []) (bq (Nat.ble n 4096) ((Nat.add env.1 1, dcat env.2 (Nat.mul 2 env.1) 0), cdN env.1 c.2 (cdX sg'), [fUpd env.1 c.1 f g]) (env, cdX sg', []))
    | _, _ => (env, cdX sg', []))
theorem cdS_ok {ρ : List Int} (hE : eOk env ρ) {n : Nat} {sg sg' : eSg} {f g : eLF} {x y : Int} {F : Nat → Int32} (hx : lfv ρ f x) (h0 : 0 ≤ x) (hn : x.toNat < n) (hy : lfv ρ g y) (hB : ∀ j, j < n → ∃ z, sga sg' j = some z ∧ eli ρ z (upd F x.toNat (Int32.ofInt y) j)) (hc : cdO ρ sg n (fun j => (F j).toInt)) :
    ∃ σ, eOk (cdS env n sg sg' f g).1 (ρ ++ σ) ∧ ((∀ j, j < n → ∃ z, sga (cdS env n sg sg' f g).2.1 j = some z ∧ eli (ρ ++ σ) z (upd F x.toNat (Int32.ofInt y) j)) ∧ cdO (ρ ++ σ) (cdS env n sg sg' f g).2.1 n (fun j => (upd F x.toNat (Int32.ofInt y) j).toInt)) ∧ fOk (ρ ++ σ) (cdS env n sg sg' f g).2.2 := by
  have plain : ∃ σ, eOk env (ρ ++ σ) ∧ ((∀ j, j < n → ∃ z, sga (cdX sg') j = some z ∧ eli (ρ ++ σ) z (upd F x.toNat (Int32.ofInt y) j)) ∧ cdO (ρ ++ σ) (cdX sg') n (fun j => (upd F x.toNat (Int32.ofInt y) j).toInt)) ∧ fOk (ρ ++ σ) [] := by
    refine ⟨[], by rw [List.append_nil]; exact hE, ⟨fun j hj => ?_, cdO_X _ _ _ _⟩, fun G hG => by cases hG⟩
    rw [List.append_nil, sga_cX]
    exact hB j hj
  unfold cdS
  split
  · exact plain
  · rename_i c hcc
    split
    rotate_left
    · exact plain
    rename_i i0 i hi0 hi
    obtain ⟨z, z1, z2⟩ := hc c.1 c.2 hcc
    have ho := cdG_lt hcc
    cases hb0 : ile (i0.2 + 1) c.2
    rotate_left
    · rw [bq_t]
      have k1 := ile_t hb0
      have k2 := (irg_ok hE hi0 hx).1.2
      refine ⟨[], by rw [List.append_nil]; exact hE, ⟨fun j hj => ?_, ?_⟩, fun G hG => by cases hG⟩
      · rw [List.append_nil, sga_cN, sga_cX]
        exact hB j hj
      · rw [List.append_nil]
        refine cdO_N ho z1 (fun j oj hj => ?_)
        show dcd j z = (upd F x.toNat (Int32.ofInt y) j).toInt
        rw [pk_un (by omega)]
        exact z2 j oj hj
    · rw [bq_f]
      cases hb : Nat.ble n 4096
      · exact plain
      · have hn2 := Nat.le_of_ble_eq_true hb
        rw [bq_t]
        have ey := (irg_ok hE hi hy).2
        have hb64 : b64 y := by
          have a1 := (Int32.ofInt y).le_toInt
          have a2 := (Int32.ofInt y).toInt_lt
          rw [ey] at a1 a2
          unfold b64
          omega
        have hnew := new_get hE (ucd z x.toNat y)
        refine ⟨[ucd z x.toNat y], eOk_new hE _, ⟨fun j hj => ?_, ?_⟩, fun G hG => ?_⟩
        · rw [sga_cN, sga_cX]
          obtain ⟨e0, e1, e2⟩ := hB j hj
          exact ⟨e0, e1, eli_mono _ e2⟩
        · refine cdO_N ho hnew (fun j oj hj => ?_)
          show dcd j (ucd z x.toNat y) = (upd F x.toNat (Int32.ofInt y) j).toInt
          by_cases e : j = x.toNat
          · rw [e, pk_us, ey]
            exact dcd_us hb64 (by omega)
          · rw [pk_un e, dcd_un hb64 (by omega) e]
            exact z2 j oj hj
        · rcases List.mem_cons.mp hG with rfl | hG
          · refine ⟨[ucd z x.toNat y, z, x, y], ⟨lfv_v2 hnew, lfv_v2 (getE_mono _ z1), lfv_mono _ hx, lfv_mono _ hy, trivial⟩, (bxS_t (t := 2)).mpr ?_⟩
            show pUpd (ucd z x.toNat y) z x y
            exact ⟨h0, by omega, hb64, rfl⟩
          · cases hG
def same0 (o : Option eEl) (g : eLF) : Bool := match o, g with
  | some (.inr (.inl ([], a))), ([], b) => ile a b && ile b a
  | _, _ => false
def asto (env : eEv) (n : Nat) (sg : eSg) (f g : eLF) : Option eSg := match irg env f with
  | some i => bif ile 0 i.1 && ile (i.2 + 1) n then (bif ile i.2 i.1 then (bif same0 (sga sg i.1.toNat) g then some sg else some (sgs sg i.1.toNat (.inr (.inl g)))) else (match irg env g with
      | some j => sgj env i.1.toNat i.2.toNat j 0 (sgX i.1.toNat i.2.toNat 0 sg)
      | none => none)) else none
  | none => none
theorem asto_ok {ρ : List Int} (hE : eOk env ρ) {n : Nat} {sg sg' : eSg} {f g : eLF} {x y : Int} {F : Nat → Int32} (hx : lfv ρ f x) (hy : lfv ρ g y) (hF : ∀ j, j < n → ∃ y, sga sg j = some y ∧ eli ρ y (F j)) (h : asto env n sg f g = some sg') :
    vp_in (Int32.ofInt x) n ∧ ∀ j, j < n → ∃ z, sga sg' j = some z ∧ eli ρ z (upd F (Int32.ofInt x).toNatClampNeg (Int32.ofInt y) j) := by
  unfold asto at h
  split at h
  · rename_i i hi
    cases hb : ile 0 i.1 && ile (i.2 + 1) n
    · rw [hb] at h; cases h
    · rw [hb] at h
      obtain ⟨g1, g2, g3, g4, g5, g6, g7⟩ := ald_in hE hx hi hb
      refine ⟨g1, ?_⟩
      rw [g2]
      dsimp only [cond_true] at h
      cases hb2 : ile i.2 i.1
      · rw [hb2] at h
        dsimp only [cond_false] at h
        split at h
        · rename_i q hq
          intro j hj
          obtain ⟨u, u1, u2⟩ := hF j hj
          obtain ⟨u', v1, v2, v3⟩ := sgj_ok hE (sgX i.1.toNat i.2.toNat 0 sg) 0 h j ((sgX_at sg 0 _).trans u1) u2
          refine ⟨u', v1, ?_⟩
          by_cases e : j = x.toNat
          · rw [e, pk_us]
            exact v3 (by omega) (by omega) _ (irg_ivr hE hq hy)
          · rw [pk_un e]
            exact v2
        · cases h
      · rw [hb2] at h
        have := ile_t hb2
        have e0 : i.1 = x := by omega
        rw [e0] at h
        dsimp only [cond_true] at h
        obtain ⟨y0, y1, y2⟩ := hF _ g3
        cases hb3 : same0 (sga sg x.toNat) g
        · rw [hb3] at h
          cases h
          intro j hj
          by_cases e : j = x.toNat
          · rw [e, pk_us]
            exact ⟨_, sgs_at sg _ _ y1, y, hy, rfl⟩
          · rw [pk_un e, sgs_ne sg _ _ e]
            exact hF j hj
        · rw [hb3] at h
          cases h
          intro j hj
          by_cases e : j = x.toNat
          · rw [e, pk_us]
            refine ⟨y0, y1, ?_⟩
            rw [y1] at hb3
            unfold same0 at hb3
            split at hb3
            · rename_i a b hh
              cases hh
              rw [Bool.and_eq_true] at hb3
              have r1 := ile_t hb3.1
              have r2 := ile_t hb3.2
              have r3 := fc_inv hy
              refine ⟨a, fc_ok a, ?_⟩
              rw [r3]
              congr 1
              omega
            · cases hb3
          · rw [pk_un e]
            exact hF j hj
  · cases h
theorem asto_ix {n : Nat} {sg sg' : eSg} {f g : eLF} (h : asto env n sg f g = some sg') : ∃ i, irg env f = some i ∧ (ile 0 i.1 && ile (i.2 + 1) n) = true := by
  unfold asto at h
  split at h
  · rename_i i hi
    cases hb : ile 0 i.1 && ile (i.2 + 1) n
    · rw [hb] at h; cases h
    · exact ⟨i, hi, hb⟩
  · cases h
theorem g_ast (nf : Int32 → Int32) {i k t n pc' : Nat} {sg sg' : eSg} {f g : eLF} {env' : eEv} {g' : eLF} (row : ∀ (a : Nat) (x y : Int32) (F : Nat → Int32) (ws : va_W) (H : Heap) (locs : List Loc) (ls : Array Slot) (rest : List Value), va_P D vwCl ws H → va_D A ws → va_S A s.heap H locs → ws[k]? = some (a, .inl (ca t, n, .inl F)) → vp_in x n →
        (∀ (H1 : Heap) (locs1 : List Loc), va_P D vwCl (ws.set k (a, .inl (ca t, n, .inl (upd F x.toNatClampNeg (nf y))))) H1 → va_D A (ws.set k (a, .inl (ca t, n, .inl (upd F x.toNatClampNeg (nf y))))) → va_S A s.heap H1 locs1 → W p l e R s m args below meth c H1 locs1 (cb + nc) (sb + ns) Q (F0 m pc' ls rest)) → W p l e R s m args below meth c H locs (cb + nc) (sb + ns) Q (F0 m pc ls (.int y :: .int x :: .ref a :: rest)))
    (hn : ∀ (ρ : List Int) (z : Int), eOk env ρ → lfv ρ g z → ∃ σ z', eOk env' (ρ ++ σ) ∧ lfv (ρ ++ σ) g' z' ∧ Int32.ofInt z' = nf (Int32.ofInt z))
    (hf : hfd i hp 0 = some (k, .inr (.inl (t, n, sg)))) (h : asto env' n (cdX sg) f g' = some sg') (kk : eG p l e R s m args below meth c Q D ca A nL cb sb r0 a0 (cdS env' n sg sg' f g').1 lo st (hp.set k (i, .inr (.inl (t, n, (cdS env' n sg sg' f g').2.1)))) (adF na (cdS env' n sg sg' f g').2.2) nc ns pc') : eG p l e R s m args below meth c Q D ca A nL cb sb r0 a0 env lo (.inl g :: .inl f :: .inr (.inr (some i)) :: st) hp na nc ns pc := by
  intro ρ α ls lvl stk ws H locs hh
  obtain ⟨y, stk0, rfl, hy, h00⟩ := rep_popI hh
  obtain ⟨x, stk1, rfl, hx, h0⟩ := rep_popI h00
  obtain ⟨a, stk', rfl, h1, h2⟩ := rep_popR h0
  obtain ⟨σ, z, q1, q2, q3⟩ := hn ρ y hh.1 hy
  have h3 := rep_env h2 q1
  obtain ⟨u, h4, F, rfl, h5⟩ := rep_cell h3 hf h1
  obtain ⟨g1, g2⟩ := asto_ok q1 (lfv_mono σ hx) q2 (fun j hj => by rw [sga_cX]; exact h5.1 j hj) h
  obtain ⟨ix, i1, i2⟩ := asto_ix h
  obtain ⟨_, j2, j3, j4, _, _, _⟩ := ald_in q1 (lfv_mono σ hx) i1 i2
  rw [j2] at g2
  obtain ⟨σ2, w1, ⟨w2, w3⟩, w4⟩ := cdS_ok q1 (lfv_mono σ hx) j4 j3 q2 g2 h5.2
  refine row a _ _ F ws H locs ls stk' h2.2.2.2.2.2.2.1 h2.2.2.2.2.2.2.2.1 h2.2.2.2.2.2.2.2.2 h4 g1 (fun H1 locs1 gP gD gS => ?_)
  exact kk (ρ ++ σ ++ σ2) α ls lvl stk' _ H1 locs1 (rep_addFs (rep_set (rep_env h3 w1) hf h1 ⟨_, rfl, by rw [← q3, j2]; exact w2, by rw [← q3, j2]; exact w3⟩ gP gD gS) w4)
theorem g_iastore (X : eCx p R s m args c D ca A nL own cc a0) {i k n : Nat} {sg sg' : eSg} {f g : eLF} (hd : decode cc pc = .ok (.iastore, 1)) (hf : hfd i hp 0 = some (k, .inr (.inl (1, n, sg)))) (h : asto env n (cdX sg) f g = some sg') (kk : eG p l e R s m args below meth c Q D ca A nL cb sb r0 a0 (cdS env n sg sg' f g).1 lo st (hp.set k (i, .inr (.inl (1, n, (cdS env n sg sg' f g).2.1)))) (adF na (cdS env n sg sg' f g).2.2) nc ns (pc + 1)) : eG p l e R s m args below meth c Q D ca A nL cb sb r0 a0 env lo (.inl g :: .inl f :: .inr (.inr (some i)) :: st) hp na nc ns pc :=
  g_ast (fun y => y) (fun a x y F ws H locs ls rest gP gD gS ha hin w => va_iast X.1 X.2.1 X.2.2.2.2.2.1 gP gD gS k 1 ha rfl hin hd w) (fun ρ z hE hz => ⟨[], z, by rw [List.append_nil]; exact hE, by rw [List.append_nil]; exact hz, rfl⟩) hf h kk
/-- what a byte or a boolean array keeps of an int -/
def nrb (env : eEv) (g : eLF) : Option (eEv × eLF) := match irg env g with
  | some i => bif ile (-128) i.1 && ile i.2 127 then some (env, g) else some (fr env (-128) 127)
  | none => none
def nrz (env : eEv) (g : eLF) : Bool := match irg env g with
  | some i => ile 0 i.1 && ile i.2 1
  | none => false
theorem i8_in (x : Int8) : ivr (-128, 127) x.toInt32.toInt := by
  rw [Int8.toInt_toInt32]
  have h1 := x.toInt_lt
  have h2 := x.le_toInt
  exact ⟨by show (-128 : Int) ≤ _; omega, by show _ ≤ (127 : Int); omega⟩
theorem nrb_ok {r : eEv × eLF} {g : eLF} (h : nrb env g = some r) : ∀ (ρ : List Int) (z : Int), eOk env ρ → lfv ρ g z → ∃ σ z', eOk r.1 (ρ ++ σ) ∧ lfv (ρ ++ σ) r.2 z' ∧ Int32.ofInt z' = (Int32.ofInt z).toInt8.toInt32 := by
  intro ρ z hE hz
  unfold nrb at h
  split at h
  · rename_i i hi
    cases hb : ile (-128) i.1 && ile i.2 127
    · rw [hb] at h
      cases h
      obtain ⟨σ, h1, h2⟩ := fr_ok hE (i8_in (Int32.ofInt z).toInt8) (fullIL _)
      exact ⟨σ, _, h1, h2, Int32.ofInt_toInt _⟩
    · rw [hb] at h
      cases h
      rw [Bool.and_eq_true] at hb
      have g := irg_ivr hE hi hz
      refine ⟨[], z, by rw [List.append_nil]; exact hE, by rw [List.append_nil]; exact hz, ?_⟩
      rw [byte_same (Int.le_trans (ile_t hb.1) g.1) (Int.le_trans g.2 (ile_t hb.2))]
  · cases h
theorem g_bastore (X : eCx p R s m args c D ca A nL own cc a0) {i k n : Nat} {sg sg' : eSg} {f g : eLF} {r : eEv × eLF} (hd : decode cc pc = .ok (.bastore, 1)) (hf : hfd i hp 0 = some (k, .inr (.inl (0, n, sg)))) (hr : nrb env g = some r) (h : asto r.1 n (cdX sg) f r.2 = some sg') (kk : eG p l e R s m args below meth c Q D ca A nL cb sb r0 a0 (cdS r.1 n sg sg' f r.2).1 lo st (hp.set k (i, .inr (.inl (0, n, (cdS r.1 n sg sg' f r.2).2.1)))) (adF na (cdS r.1 n sg sg' f r.2).2.2) nc ns (pc + 1)) : eG p l e R s m args below meth c Q D ca A nL cb sb r0 a0 env lo (.inl g :: .inl f :: .inr (.inr (some i)) :: st) hp na nc ns pc :=
  g_ast (fun y => vp_nar .byte y) (fun a x y F ws H locs ls rest gP gD gS ha hin w => va_bast X.1 X.2.1 X.2.2.2.2.2.1 gP gD gS k 0 ha rfl hin hd w) (fun ρ z hE hz => by rw [vp_nar_byte]; exact nrb_ok hr ρ z hE hz) hf h kk
theorem g_zastore (X : eCx p R s m args c D ca A nL own cc a0) {i k n : Nat} {sg sg' : eSg} {f g : eLF} (hd : decode cc pc = .ok (.bastore, 1)) (hf : hfd i hp 0 = some (k, .inr (.inl (3, n, sg)))) (hr : nrz env g = true) (h : asto env n (cdX sg) f g = some sg') (kk : eG p l e R s m args below meth c Q D ca A nL cb sb r0 a0 (cdS env n sg sg' f g).1 lo st (hp.set k (i, .inr (.inl (3, n, (cdS env n sg sg' f g).2.1)))) (adF na (cdS env n sg sg' f g).2.2) nc ns (pc + 1)) : eG p l e R s m args below meth c Q D ca A nL cb sb r0 a0 env lo (.inl g :: .inl f :: .inr (.inr (some i)) :: st) hp na nc ns pc :=
  g_ast (fun y => vp_nar .boolean y) (fun a x y F ws H locs ls rest gP gD gS ha hin w => va_zast X.1 X.2.1 X.2.2.2.2.2.1 gP gD gS k 3 ha rfl hin hd w) (fun ρ z hE hz => by
    refine ⟨[], z, by rw [List.append_nil]; exact hE, by rw [List.append_nil]; exact hz, ?_⟩
    unfold nrz at hr
    split at hr
    · rename_i j hj
      rw [Bool.and_eq_true] at hr
      have g := irg_ivr hE hj hz
      rcases zo_cases (x := Int32.ofInt z) (Int.le_trans (ile_t hr.1) g.1) (Int.le_trans g.2 (ile_t hr.2)) with e | e <;> rw [e] <;> rfl
    · cases hr) hf h kk
theorem g_alen (X : eCx p R s m args c D ca A nL own cc a0) {i k t n : Nat} {sg : eSg} (hd : decode cc pc = .ok (.arraylength, 1)) (ht : t < 6) (hf : hfd i hp 0 = some (k, .inr (.inl (t, n, sg)))) (hn : n < 100000) (kk : eG p l e R s m args below meth c Q D ca A nL cb sb r0 a0 env lo (.inl (fc (n : Int)) :: st) hp na nc ns (pc + 1)) : eG p l e R s m args below meth c Q D ca A nL cb sb r0 a0 env lo (.inr (.inr (some i)) :: st) hp na nc ns pc := by
  intro ρ α ls lvl stk ws H locs h
  obtain ⟨a, stk', rfl, h1, h2⟩ := rep_popR h
  obtain ⟨x, h3, F, rfl, h4⟩ := rep_cell h2 hf h1
  obtain ⟨ty, hty⟩ : ∃ ty, (tys0 ca)[t]? = some (ca t, ty) := by
    match t, ht with
    | 0, _ => exact ⟨_, rfl⟩
    | 1, _ => exact ⟨_, rfl⟩
    | 2, _ => exact ⟨_, rfl⟩
    | 3, _ => exact ⟨_, rfl⟩
    | 4, _ => exact ⟨_, rfl⟩
    | 5, _ => exact ⟨_, rfl⟩
    | k + 6, h => omega
  exact va_alen X.1 X.2.1 X.2.2.2.2.2.1 h2.2.2.2.2.2.2.1 k t h3 hty rfl hd (kk ρ α ls lvl _ ws H locs (rep_push h2 ⟨(n : Int), fc_ok _, rfl⟩))
end
end
