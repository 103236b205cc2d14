noncomputable section
/-! an instruction, a row: constants, locals, numbers, branches -/
section
variable {p : Program} {l : Launch} {e : Env} {R : Room} {s : State} {m : MethodId} {args : Array Value} {below : List Frame} {meth : Method} {c : Code} {Q : State → Prop} {D : va_G} {ca : Nat → ClassId} {A : Nat → Prop} {nL cb sb : Nat} {r0 : List Int} {a0 : List Nat} {own : String} {cc : ByteArray} {env : eEv} {lo : List (Nat × eSV)} {st : List eSV} {hp : eHp} {na : eNa} {nc ns pc : Nat}
theorem g_pushW {v : eSV} {w : Value} {pc' : Nat} (row : ∀ (H : Heap) (locs : List Loc) (ls : Array Slot) (rest : List Value), W p l e R s m args below meth c H locs (cb + nc) (sb + ns) Q (F0 m pc' ls (w :: rest)) → W p l e R s m args below meth c H locs (cb + nc) (sb + ns) Q (F0 m pc ls rest)) (hv : ∀ ρ α, vok ρ α v w)
    (k : eG p l e R s m args below meth c Q D ca A nL cb sb r0 a0 env lo (v :: st) hp na nc ns pc') : eG p l e R s m args below meth c Q D ca A nL cb sb r0 a0 env lo st hp na nc ns pc := fun ρ α ls lvl stk ws H locs h => row H locs ls stk (k ρ α ls lvl _ ws H locs (rep_push h (hv ρ α)))
theorem vok_ci {ρ : List Int} {α : List Nat} (x : Int32) : vok ρ α (.inl (fc x.toInt)) (.int x) := ⟨x.toInt, fc_ok _, by rw [Int32.ofInt_toInt]⟩
theorem vok_cl {ρ : List Int} {α : List Nat} (x : Int64) : vok ρ α (.inr (.inl (fc x.toInt))) (.long x) := ⟨x.toInt, fc_ok _, by rw [Int64.ofInt_toInt]⟩
theorem g_iconst (X : eCx p R s m args c D ca A nL own cc a0) {n : Int} (hd : decode cc pc = .ok (.iconst n, 1)) (k : eG p l e R s m args below meth c Q D ca A nL cb sb r0 a0 env lo (.inl (fc n) :: st) hp na nc ns (pc + 1)) : eG p l e R s m args below meth c Q D ca A nL cb sb r0 a0 env lo st hp na nc ns pc :=
  g_pushW (v := .inl (fc n)) (w := .int (Int32.ofInt n)) (fun _ _ _ _ kk => lv_iconst X.1 X.2.1 hd rfl kk) (fun _ _ => ⟨n, fc_ok n, rfl⟩) k
theorem g_bipush (X : eCx p R s m args c D ca A nL own cc a0) {n : Int} (hd : decode cc pc = .ok (.bipush n, 2)) (k : eG p l e R s m args below meth c Q D ca A nL cb sb r0 a0 env lo (.inl (fc (Int8.ofInt n).toInt32.toInt) :: st) hp na nc ns (pc + 2)) : eG p l e R s m args below meth c Q D ca A nL cb sb r0 a0 env lo st hp na nc ns pc :=
  g_pushW (w := .int (Int8.ofInt n).toInt32) (fun _ _ _ _ kk => lv_bipush X.1 X.2.1 hd rfl kk) (fun _ _ => vok_ci _) k
theorem g_sipush (X : eCx p R s m args c D ca A nL own cc a0) {n : Int} (hd : decode cc pc = .ok (.sipush n, 3)) (k : eG p l e R s m args below meth c Q D ca A nL cb sb r0 a0 env lo (.inl (fc (Int16.ofInt n).toInt32.toInt) :: st) hp na nc ns (pc + 3)) : eG p l e R s m args below meth c Q D ca A nL cb sb r0 a0 env lo st hp na nc ns pc :=
  g_pushW (w := .int (Int16.ofInt n).toInt32) (fun _ _ _ _ kk => lv_sipush X.1 X.2.1 hd rfl kk) (fun _ _ => vok_ci _) k
theorem g_lconst (X : eCx p R s m args c D ca A nL own cc a0) {n : Fin 2} (hd : decode cc pc = .ok (.lconst n, 1)) (k : eG p l e R s m args below meth c Q D ca A nL cb sb r0 a0 env lo (.inr (.inl (fc (Int64.ofNat (n : Nat)).toInt)) :: st) hp na nc ns (pc + 1)) : eG p l e R s m args below meth c Q D ca A nL cb sb r0 a0 env lo st hp na nc ns pc :=
  g_pushW (w := .long (Int64.ofNat (n : Nat))) (fun _ _ _ _ kk => lv_lconst X.1 X.2.1 hd rfl kk) (fun _ _ => vok_cl _) k
theorem g_ldc (X : eCx p R s m args c D ca A nL own cc a0) {i x : Nat} (hw : Cond.constant own i (Int32.ofNat x) ∈ gtbl) (hd : decode cc pc = .ok (.ldc i, 2)) (k : eG p l e R s m args below meth c Q D ca A nL cb sb r0 a0 env lo (.inl (fc (Int32.ofNat x).toInt) :: st) hp na nc ns (pc + 2)) : eG p l e R s m args below meth c Q D ca A nL cb sb r0 a0 env lo st hp na nc ns pc :=
  g_pushW (w := .int (Int32.ofNat x)) (fun _ _ _ _ kk => lv_ldc X.1 X.2.1 X.2.2.2.1 (X.2.2.2.2.1 _ hw) hd kk) (fun _ _ => vok_ci _) k
theorem g_ldc2 (X : eCx p R s m args c D ca A nL own cc a0) {i x : Nat} (hw : Cond.constantLong own i (Int64.ofNat x) ∈ gtbl) (hd : decode cc pc = .ok (.ldc2_w i, 3)) (k : eG p l e R s m args below meth c Q D ca A nL cb sb r0 a0 env lo (.inr (.inl (fc (Int64.ofNat x).toInt)) :: st) hp na nc ns (pc + 3)) : eG p l e R s m args below meth c Q D ca A nL cb sb r0 a0 env lo st hp na nc ns pc :=
  g_pushW (w := .long (Int64.ofNat x)) (fun _ _ _ _ kk => lv_ldc2 X.1 X.2.1 X.2.2.2.1 (X.2.2.2.2.1 _ hw) hd kk) (fun _ _ => vok_cl _) k
theorem g_ldcw (X : eCx p R s m args c D ca A nL own cc a0) {i x : Nat} (hw : Cond.constant own i (Int32.ofNat x) ∈ gtbl) (hd : decode cc pc = .ok (.ldc_w i, 3)) (k : eG p l e R s m args below meth c Q D ca A nL cb sb r0 a0 env lo (.inl (fc (Int32.ofNat x).toInt) :: st) hp na nc ns (pc + 3)) : eG p l e R s m args below meth c Q D ca A nL cb sb r0 a0 env lo st hp na nc ns pc :=
  g_pushW (w := .int (Int32.ofNat x)) (fun _ _ _ _ kk => lv_ldcw X.1 X.2.1 X.2.2.2.1 (X.2.2.2.2.1 _ hw) hd kk) (fun _ _ => vok_ci _) k
theorem g_gets (X : eCx p R s m args c D ca A nL own cc a0) {i : Nat} {z : String × String × String × Int32} (hz : z ∈ stZ) (hw : Cond.fieldLink own i z.1 z.2.1 z.2.2.1 ∈ gtbl) (hd : decode cc pc = .ok (.getstatic i, 3)) (k : eG p l e R s m args below meth c Q D ca A nL cb sb r0 a0 env lo (.inl (fc z.2.2.2.toInt) :: st) hp na nc ns (pc + 3)) : eG p l e R s m args below meth c Q D ca A nL cb sb r0 a0 env lo st hp na nc ns pc := by
  intro ρ α ls lvl stk ws H locs h
  exact va_gets X.1 X.2.1 (X.2.2.2.2.2.2.2.2.2.2.1.1.1 z hz) h.2.2.2.2.2.2.2.2 X.2.2.2.1 (X.2.2.2.2.1 _ hw) (fun _ q => q) hd (k ρ α ls lvl _ ws H locs (rep_push h (vok_ci _)))
/-- a local, by its number -/
def lfd (i : Nat) (l : List (Nat × eSV)) : Option eSV := @List.rec (Nat × eSV) (fun _ => Option eSV) none (fun q _ ih => bq (Nat.beq q.1 i) (some q.2) ih) l
theorem lfd_cons (i : Nat) (q : Nat × eSV) (t : List (Nat × eSV)) : lfd i (q :: t) = (bif Nat.beq q.1 i then some q.2 else lfd i t) := by
  show bq (Nat.beq q.1 i) (some q.2) (lfd i t) = _
  cases Nat.beq q.1 i <;> rfl
theorem lfd_ok {ρ : List Int} {α : List Nat} {i : Nat} {v : eSV} {ls : Array Slot} {nL : Nat} : ∀ {lo : List (Nat × eSV)} {lvl : List (Nat × Value)}, lfd i lo = some v → R2 (lrel ρ α) lo lvl → lv_has ls nL lvl → ∃ (w : Value) (k : Nat), vok ρ α v w ∧ ls[i]? = some (.val w) ∧ lvl[k]? = some (i, w)
  | [], [], h, _, _ => by cases h
  | q :: t, [], _, h, _ => h.elim
  | [], _ :: _, _, h, _ => h.elim
  | q :: t, w :: t', h, ⟨h1, h2⟩, hl => by
    rw [lfd_cons] at h
    cases hb : Nat.beq q.1 i
    · rw [hb] at h
      obtain ⟨w', k, g1, g2, g3⟩ := lfd_ok (lvl := t') h h2 ⟨hl.1, hl.2.1, fun q hq => hl.2.2 q (List.mem_cons_of_mem _ hq)⟩
      exact ⟨w', k + 1, g1, g2, by simpa using g3⟩
    · rw [hb] at h
      cases h
      have e1 := Nat.eq_of_beq_eq_true hb
      have e2 : w = (i, w.2) := by rw [← e1, h1.1]
      exact ⟨w.2, 0, h1.2, by rw [← e1, h1.1]; exact hl.2.2 w List.mem_cons_self, by rw [List.getElem?_cons_zero, ← e2]⟩
theorem g_load {i : Nat} {v : eSV} {pc' : Nat} (row : ∀ (w : Value) (ρ : List Int) (α : List Nat) (H : Heap) (locs : List Loc) (ls : Array Slot) (rest : List Value), vok ρ α v w → ls[i]? = some (.val w) → W p l e R s m args below meth c H locs (cb + nc) (sb + ns) Q (F0 m pc' ls (w :: rest)) → W p l e R s m args below meth c H locs (cb + nc) (sb + ns) Q (F0 m pc ls rest)) (hf : lfd i lo = some v)
    (k : eG p l e R s m args below meth c Q D ca A nL cb sb r0 a0 env lo (v :: st) hp na nc ns pc') : eG p l e R s m args below meth c Q D ca A nL cb sb r0 a0 env lo st hp na nc ns pc := by
  intro ρ α ls lvl stk ws H locs h
  obtain ⟨w, _, h1, h2, _⟩ := lfd_ok hf h.2.2.2.1 h.2.2.1
  exact row w ρ α H locs ls stk h1 h2 (k ρ α ls lvl _ ws H locs (rep_push h h1))
theorem g_iload_n (X : eCx p R s m args c D ca A nL own cc a0) {i : Fin 4} {f : eLF} (hd : decode cc pc = .ok (.iload_n i, 1)) (hf : lfd i lo = some (.inl f)) (k : eG p l e R s m args below meth c Q D ca A nL cb sb r0 a0 env lo (.inl f :: st) hp na nc ns (pc + 1)) : eG p l e R s m args below meth c Q D ca A nL cb sb r0 a0 env lo st hp na nc ns pc :=
  g_load (fun w ρ α H locs ls rest hv hl kk => by obtain ⟨x, h1, rfl⟩ := hv; exact lv_iload_n X.1 X.2.1 hd rfl hl kk) hf k
theorem g_iload (X : eCx p R s m args c D ca A nL own cc a0) {i : Nat} {f : eLF} (hd : decode cc pc = .ok (.iload i, 2)) (hf : lfd i lo = some (.inl f)) (k : eG p l e R s m args below meth c Q D ca A nL cb sb r0 a0 env lo (.inl f :: st) hp na nc ns (pc + 2)) : eG p l e R s m args below meth c Q D ca A nL cb sb r0 a0 env lo st hp na nc ns pc :=
  g_load (fun w ρ α H locs ls rest hv hl kk => by obtain ⟨x, h1, rfl⟩ := hv; exact lv_iload X.1 X.2.1 hd hl kk) hf k
theorem g_lload_n (X : eCx p R s m args c D ca A nL own cc a0) {i : Fin 4} {f : eLF} (hd : decode cc pc = .ok (.lload_n i, 1)) (hf : lfd i lo = some (.inr (.inl f))) (k : eG p l e R s m args below meth c Q D ca A nL cb sb r0 a0 env lo (.inr (.inl f) :: st) hp na nc ns (pc + 1)) : eG p l e R s m args below meth c Q D ca A nL cb sb r0 a0 env lo st hp na nc ns pc :=
  g_load (fun w ρ α H locs ls rest hv hl kk => by obtain ⟨x, h1, rfl⟩ := hv; exact lv_lload_n X.1 X.2.1 hd rfl hl kk) hf k
theorem g_lload (X : eCx p R s m args c D ca A nL own cc a0) {i : Nat} {f : eLF} (hd : decode cc pc = .ok (.lload i, 2)) (hf : lfd i lo = some (.inr (.inl f))) (k : eG p l e R s m args below meth c Q D ca A nL cb sb r0 a0 env lo (.inr (.inl f) :: st) hp na nc ns (pc + 2)) : eG p l e R s m args below meth c Q D ca A nL cb sb r0 a0 env lo st hp na nc ns pc :=
  g_load (fun w ρ α H locs ls rest hv hl kk => by obtain ⟨x, h1, rfl⟩ := hv; exact lv_lload X.1 X.2.1 hd hl kk) hf k
theorem g_aload_n (X : eCx p R s m args c D ca A nL own cc a0) {i : Fin 4} {j : Nat} (hd : decode cc pc = .ok (.aload_n i, 1)) (hf : lfd i lo = some (.inr (.inr (some j)))) (k : eG p l e R s m args below meth c Q D ca A nL cb sb r0 a0 env lo (.inr (.inr (some j)) :: st) hp na nc ns (pc + 1)) : eG p l e R s m args below meth c Q D ca A nL cb sb r0 a0 env lo st hp na nc ns pc :=
  g_load (fun w ρ α H locs ls rest hv hl kk => by obtain ⟨x, h1, rfl⟩ := hv; exact lv_aload_n X.1 X.2.1 hd rfl hl kk) hf k
theorem g_aload (X : eCx p R s m args c D ca A nL own cc a0) {i : Nat} {j : Nat} (hd : decode cc pc = .ok (.aload i, 2)) (hf : lfd i lo = some (.inr (.inr (some j)))) (k : eG p l e R s m args below meth c Q D ca A nL cb sb r0 a0 env lo (.inr (.inr (some j)) :: st) hp na nc ns (pc + 2)) : eG p l e R s m args below meth c Q D ca A nL cb sb r0 a0 env lo st hp na nc ns pc :=
  g_load (fun w ρ α H locs ls rest hv hl kk => by obtain ⟨x, h1, rfl⟩ := hv; exact lv_aload X.1 X.2.1 hd hl kk) hf k
/-- stores -/
def lst1 (i : Nat) (v : eSV) (lo : List (Nat × eSV)) : List (Nat × eSV) := (i, v) :: lo.filter (fun q => !(q.1 == i) && !(q.1 + 1 == i && ecat q.2 == 2))
def lst2 (i : Nat) (v : eSV) (lo : List (Nat × eSV)) : List (Nat × eSV) := (i, v) :: lo.filter (fun q => !(q.1 == i) && (!(q.1 == i + 1) && !(q.1 + 1 == i && ecat q.2 == 2)))
theorem lst1_ok {ρ : List Int} {α : List Nat} {lo : List (Nat × eSV)} {lvl : List (Nat × Value)} {i : Nat} {v : eSV} {w : Value} (h : R2 (lrel ρ α) lo lvl) (hv : vok ρ α v w) : R2 (lrel ρ α) (lst1 i v lo) ((i, w) :: lvl.filter (fun q => !(q.1 == i) && !(q.1 + 1 == i && q.2.category == 2))) := by
  refine ⟨⟨rfl, hv⟩, R2.filter (fun a b hab => ?_) h⟩
  rw [hab.1, vok_cat hab.2]
theorem lst2_ok {ρ : List Int} {α : List Nat} {lo : List (Nat × eSV)} {lvl : List (Nat × Value)} {i : Nat} {v : eSV} {w : Value} (h : R2 (lrel ρ α) lo lvl) (hv : vok ρ α v w) : R2 (lrel ρ α) (lst2 i v lo) ((i, w) :: lvl.filter (fun q => !(q.1 == i) && (!(q.1 == i + 1) && !(q.1 + 1 == i && q.2.category == 2)))) := by
  refine ⟨⟨rfl, hv⟩, R2.filter (fun a b hab => ?_) h⟩
  rw [hab.1, vok_cat hab.2]
theorem rep_lo {ρ : List Int} {α : List Nat} {ls ls' : Array Slot} {lvl lvl' : List (Nat × Value)} {lo' : List (Nat × eSV)} {stk : List Value} {ws : va_W} {H : Heap} {locs : List Loc} (h : eRep s D ca A nL r0 a0 env lo st hp na ρ α ls lvl stk ws H locs) (h1 : lv_has ls' nL lvl') (h2 : R2 (lrel ρ α) lo' lvl') : eRep s D ca A nL r0 a0 env lo' st hp na ρ α ls' lvl' stk ws H locs := by
  obtain ⟨g1, g2, g3, g4, g5⟩ := h
  exact ⟨g1, g2, h1, h2, g5⟩
theorem g_istore_n (X : eCx p R s m args c D ca A nL own cc a0) {i : Fin 4} {f : eLF} (hd : decode cc pc = .ok (.istore_n i, 1)) (hi : (i : Nat) < nL) (k : eG p l e R s m args below meth c Q D ca A nL cb sb r0 a0 env (lst1 i (.inl f) lo) st hp na nc ns (pc + 1)) : eG p l e R s m args below meth c Q D ca A nL cb sb r0 a0 env lo (.inl f :: st) hp na nc ns pc := by
  intro ρ α ls lvl stk ws H locs h
  obtain ⟨x, stk', rfl, h1, h2⟩ := rep_popI h
  exact lv_istore_n X.1 X.2.1 hd rfl h2.2.2.1 hi rfl (fun ls' hl' => k ρ α ls' _ stk' ws H locs (rep_lo h2 hl' (lst1_ok h2.2.2.2.1 ⟨x, h1, rfl⟩)))
theorem g_istore (X : eCx p R s m args c D ca A nL own cc a0) {i : Nat} {f : eLF} (hd : decode cc pc = .ok (.istore i, 2)) (hi : i < nL) (k : eG p l e R s m args below meth c Q D ca A nL cb sb r0 a0 env (lst1 i (.inl f) lo) st hp na nc ns (pc + 2)) : eG p l e R s m args below meth c Q D ca A nL cb sb r0 a0 env lo (.inl f :: st) hp na nc ns pc := by
  intro ρ α ls lvl stk ws H locs h
  obtain ⟨x, stk', rfl, h1, h2⟩ := rep_popI h
  exact lv_istore X.1 X.2.1 hd h2.2.2.1 hi rfl (fun ls' hl' => k ρ α ls' _ stk' ws H locs (rep_lo h2 hl' (lst1_ok h2.2.2.2.1 ⟨x, h1, rfl⟩)))
theorem g_astore_n (X : eCx p R s m args c D ca A nL own cc a0) {i : Fin 4} {j : Nat} (hd : decode cc pc = .ok (.astore_n i, 1)) (hi : (i : Nat) < nL) (k : eG p l e R s m args below meth c Q D ca A nL cb sb r0 a0 env (lst1 i (.inr (.inr (some j))) lo) st hp na nc ns (pc + 1)) : eG p l e R s m args below meth c Q D ca A nL cb sb r0 a0 env lo (.inr (.inr (some j)) :: st) hp na nc ns pc := by
  intro ρ α ls lvl stk ws H locs h
  obtain ⟨x, stk', rfl, h1, h2⟩ := rep_popR h
  exact lv_astore_n X.1 X.2.1 hd rfl h2.2.2.1 hi rfl (fun ls' hl' => k ρ α ls' _ stk' ws H locs (rep_lo h2 hl' (lst1_ok h2.2.2.2.1 ⟨x, h1, rfl⟩)))
theorem g_astore (X : eCx p R s m args c D ca A nL own cc a0) {i : Nat} {j : Nat} (hd : decode cc pc = .ok (.astore i, 2)) (hi : i < nL) (k : eG p l e R s m args below meth c Q D ca A nL cb sb r0 a0 env (lst1 i (.inr (.inr (some j))) lo) st hp na nc ns (pc + 2)) : eG p l e R s m args below meth c Q D ca A nL cb sb r0 a0 env lo (.inr (.inr (some j)) :: st) hp na nc ns pc := by
  intro ρ α ls lvl stk ws H locs h
  obtain ⟨x, stk', rfl, h1, h2⟩ := rep_popR h
  exact lv_astore X.1 X.2.1 hd h2.2.2.1 hi rfl (fun ls' hl' => k ρ α ls' _ stk' ws H locs (rep_lo h2 hl' (lst1_ok h2.2.2.2.1 ⟨x, h1, rfl⟩)))
theorem g_lstore_n (X : eCx p R s m args c D ca A nL own cc a0) {i : Fin 4} {f : eLF} (hd : decode cc pc = .ok (.lstore_n i, 1)) (hi : (i : Nat) + 1 < nL) (k : eG p l e R s m args below meth c Q D ca A nL cb sb r0 a0 env (lst2 i (.inr (.inl f)) lo) st hp na nc ns (pc + 1)) : eG p l e R s m args below meth c Q D ca A nL cb sb r0 a0 env lo (.inr (.inl f) :: st) hp na nc ns pc := by
  intro ρ α ls lvl stk ws H locs h
  obtain ⟨x, stk', rfl, h1, h2⟩ := rep_popL h
  exact lv_lstore_n X.1 X.2.1 hd rfl h2.2.2.1 hi rfl (fun ls' hl' => k ρ α ls' _ stk' ws H locs (rep_lo h2 hl' (lst2_ok h2.2.2.2.1 ⟨x, h1, rfl⟩)))
theorem g_lstore (X : eCx p R s m args c D ca A nL own cc a0) {i : Nat} {f : eLF} (hd : decode cc pc = .ok (.lstore i, 2)) (hi : i + 1 < nL) (k : eG p l e R s m args below meth c Q D ca A nL cb sb r0 a0 env (lst2 i (.inr (.inl f)) lo) st hp na nc ns (pc + 2)) : eG p l e R s m args below meth c Q D ca A nL cb sb r0 a0 env lo (.inr (.inl f) :: st) hp na nc ns pc := by
  intro ρ α ls lvl stk ws H locs h
  obtain ⟨x, stk', rfl, h1, h2⟩ := rep_popL h
  exact lv_lstore X.1 X.2.1 hd h2.2.2.1 hi rfl (fun ls' hl' => k ρ α ls' _ stk' ws H locs (rep_lo h2 hl' (lst2_ok h2.2.2.2.1 ⟨x, h1, rfl⟩)))
/-- numbers -/
theorem g_bin (o : Nat) {f g : eLF} {r : eEv × eLF} {pc' : Nat} (row : ∀ (x y : Int32) (H : Heap) (locs : List Loc) (ls : Array Slot) (rest : List Value), ls.size = nL → (rest.map fun v => v.category).sum ≤ (st.map ecat).sum → (o = 3 ∨ o = 4 → ¬ y = 0) → W p l e R s m args below meth c H locs (cb + nc) (sb + ns) Q (F0 m pc' ls (.int (ibf o x y) :: rest)) → W p l e R s m args below meth c H locs (cb + nc) (sb + ns) Q (F0 m pc ls (.int y :: .int x :: rest)))
    (h : ibin o env f g = some r) (k : eG p l e R s m args below meth c Q D ca A nL cb sb r0 a0 r.1 lo (.inl r.2 :: st) hp na nc ns pc') : eG p l e R s m args below meth c Q D ca A nL cb sb r0 a0 env lo (.inl g :: .inl f :: st) hp na nc ns pc := by
  intro ρ α ls lvl stk ws H locs hh
  obtain ⟨y, stk1, rfl, hy, h1⟩ := rep_popI hh
  obtain ⟨x, stk2, rfl, hx, h2⟩ := rep_popI h1
  obtain ⟨⟨σ, z, q1, q2, q3⟩, q4⟩ := ibin_ok o h2.1 hx hy h
  refine row _ _ H locs ls stk2 h2.2.2.1.1 ?_ q4 ?_
  · have : ∀ {sv : List eSV} {vs : List Value}, R2 (vok ρ α) sv vs → (vs.map fun v => v.category).sum = (sv.map ecat).sum := by
      intro sv
      induction sv with
      | nil => intro vs hr; rw [R2.nil_inv hr]; rfl
      | cons a t ih =>
        intro vs hr
        obtain ⟨b, t', rfl, g1, g2⟩ := R2.cons_inv hr
        simp [ih g2, vok_cat g1]
    exact Nat.le_of_eq (this h2.2.2.2.2.1)
  · exact k (ρ ++ σ) α ls lvl _ ws H locs (rep_push (rep_env h2 q1) ⟨z, q2, by rw [q3]⟩)
theorem g_iadd (X : eCx p R s m args c D ca A nL own cc a0) {f g : eLF} {r : eEv × eLF} (hd : decode cc pc = .ok (.iadd, 1)) (h : ibin 0 env f g = some r) (k : eG p l e R s m args below meth c Q D ca A nL cb sb r0 a0 r.1 lo (.inl r.2 :: st) hp na nc ns (pc + 1)) : eG p l e R s m args below meth c Q D ca A nL cb sb r0 a0 env lo (.inl g :: .inl f :: st) hp na nc ns pc := g_bin 0 (fun x y H locs ls rest _ _ _ kk => lv_iadd X.1 X.2.1 hd kk) h k
theorem g_isub (X : eCx p R s m args c D ca A nL own cc a0) {f g : eLF} {r : eEv × eLF} (hd : decode cc pc = .ok (.isub, 1)) (h : ibin 1 env f g = some r) (k : eG p l e R s m args below meth c Q D ca A nL cb sb r0 a0 r.1 lo (.inl r.2 :: st) hp na nc ns (pc + 1)) : eG p l e R s m args below meth c Q D ca A nL cb sb r0 a0 env lo (.inl g :: .inl f :: st) hp na nc ns pc := g_bin 1 (fun x y H locs ls rest _ _ _ kk => lv_isub X.1 X.2.1 hd kk) h k
theorem g_ineg (X : eCx p R s m args c D ca A nL own cc a0) {f : eLF} {r : eEv × eLF} (hd : decode cc pc = .ok (.ineg, 1)) (h : ibin 1 env (fc 0) f = some r) (k : eG p l e R s m args below meth c Q D ca A nL cb sb r0 a0 r.1 lo (.inl r.2 :: st) hp na nc ns (pc + 1)) : eG p l e R s m args below meth c Q D ca A nL cb sb r0 a0 env lo (.inl f :: st) hp na nc ns pc := by
  intro ρ α ls lvl stk ws H locs hh
  obtain ⟨y, stk1, rfl, hy, h1⟩ := rep_popI hh
  obtain ⟨⟨σ, z, q1, q2, q3⟩, q4⟩ := ibin_ok 1 h1.1 (fc_ok 0) hy h
  refine lv_ineg X.1 X.2.1 hd ?_
  have e : -(Int32.ofInt y) = Int32.ofInt z := by
    rw [q3]
    show _ = Int32.ofInt 0 - Int32.ofInt y
    have : Int32.ofInt 0 = 0 := rfl
    rw [this, Int32.zero_sub]
  rw [e]
  exact k (ρ ++ σ) α ls lvl _ ws H locs (rep_push (rep_env h1 q1) ⟨z, q2, rfl⟩)
theorem g_imul (X : eCx p R s m args c D ca A nL own cc a0) {f g : eLF} {r : eEv × eLF} (hd : decode cc pc = .ok (.imul, 1)) (h : ibin 2 env f g = some r) (k : eG p l e R s m args below meth c Q D ca A nL cb sb r0 a0 r.1 lo (.inl r.2 :: st) hp na nc ns (pc + 1)) : eG p l e R s m args below meth c Q D ca A nL cb sb r0 a0 env lo (.inl g :: .inl f :: st) hp na nc ns pc := g_bin 2 (fun x y H locs ls rest _ _ _ kk => lv_imul X.1 X.2.1 hd kk) h k
theorem g_idiv (X : eCx p R s m args c D ca A nL own cc a0) {f g : eLF} {r : eEv × eLF} (hd : decode cc pc = .ok (.idiv, 1)) (h : ibin 3 env f g = some r) (k : eG p l e R s m args below meth c Q D ca A nL cb sb r0 a0 r.1 lo (.inl r.2 :: st) hp na nc ns (pc + 1)) : eG p l e R s m args below meth c Q D ca A nL cb sb r0 a0 env lo (.inl g :: .inl f :: st) hp na nc ns pc := g_bin 3 (fun x y H locs ls rest _ _ hn kk => lv_idiv X.1 X.2.1 hd (hn (Or.inl rfl)) kk) h k
theorem g_irem (X : eCx p R s m args c D ca A nL own cc a0) {f g : eLF} {r : eEv × eLF} (hd : decode cc pc = .ok (.irem, 1)) (h : ibin 4 env f g = some r) (k : eG p l e R s m args below meth c Q D ca A nL cb sb r0 a0 r.1 lo (.inl r.2 :: st) hp na nc ns (pc + 1)) : eG p l e R s m args below meth c Q D ca A nL cb sb r0 a0 env lo (.inl g :: .inl f :: st) hp na nc ns pc := g_bin 4 (fun x y H locs ls rest _ _ hn kk => lv_irem X.1 X.2.1 hd (hn (Or.inr rfl)) kk) h k
theorem g_iand (X : eCx p R s m args c D ca A nL own cc a0) {f g : eLF} {r : eEv × eLF} (hd : decode cc pc = .ok (.iand, 1)) (h : ibin 5 env f g = some r) (k : eG p l e R s m args below meth c Q D ca A nL cb sb r0 a0 r.1 lo (.inl r.2 :: st) hp na nc ns (pc + 1)) : eG p l e R s m args below meth c Q D ca A nL cb sb r0 a0 env lo (.inl g :: .inl f :: st) hp na nc ns pc := g_bin 5 (fun x y H locs ls rest _ _ _ kk => lv_iand X.1 X.2.1 hd kk) h k
theorem g_ior (X : eCx p R s m args c D ca A nL own cc a0) {f g : eLF} {r : eEv × eLF} (hd : decode cc pc = .ok (.ior, 1)) (h : ibin 6 env f g = some r) (k : eG p l e R s m args below meth c Q D ca A nL cb sb r0 a0 r.1 lo (.inl r.2 :: st) hp na nc ns (pc + 1)) : eG p l e R s m args below meth c Q D ca A nL cb sb r0 a0 env lo (.inl g :: .inl f :: st) hp na nc ns pc := g_bin 6 (fun x y H locs ls rest _ _ _ kk => lv_ior X.1 X.2.1 hd kk) h k
theorem g_ixor (X : eCx p R s m args c D ca A nL own cc a0) {f g : eLF} {r : eEv × eLF} (hd : decode cc pc = .ok (.ixor, 1)) (h : ibin 7 env f g = some r) (k : eG p l e R s m args below meth c Q D ca A nL cb sb r0 a0 r.1 lo (.inl r.2 :: st) hp na nc ns (pc + 1)) : eG p l e R s m args below meth c Q D ca A nL cb sb r0 a0 env lo (.inl g :: .inl f :: st) hp na nc ns pc := g_bin 7 (fun x y H locs ls rest _ _ _ kk => lv_ixor X.1 X.2.1 hd kk) h k
theorem g_ishl (X : eCx p R s m args c D ca A nL own cc a0) {f g : eLF} {r : eEv × eLF} (hd : decode cc pc = .ok (.ishl, 1)) (h : ibin 8 env f g = some r) (k : eG p l e R s m args below meth c Q D ca A nL cb sb r0 a0 r.1 lo (.inl r.2 :: st) hp na nc ns (pc + 1)) : eG p l e R s m args below meth c Q D ca A nL cb sb r0 a0 env lo (.inl g :: .inl f :: st) hp na nc ns pc := g_bin 8 (fun x y H locs ls rest _ _ _ kk => lv_ishl X.1 X.2.1 hd kk) h k
theorem g_ishr (X : eCx p R s m args c D ca A nL own cc a0) {f g : eLF} {r : eEv × eLF} (hd : decode cc pc = .ok (.ishr, 1)) (h : ibin 9 env f g = some r) (k : eG p l e R s m args below meth c Q D ca A nL cb sb r0 a0 r.1 lo (.inl r.2 :: st) hp na nc ns (pc + 1)) : eG p l e R s m args below meth c Q D ca A nL cb sb r0 a0 env lo (.inl g :: .inl f :: st) hp na nc ns pc := g_bin 9 (fun x y H locs ls rest _ _ _ kk => lv_ishr X.1 X.2.1 hd kk) h k
theorem g_iushr (X : eCx p R s m args c D ca A nL own cc a0) {f g : eLF} {r : eEv × eLF} (hd : decode cc pc = .ok (.iushr, 1)) (h : ibin 10 env f g = some r) (k : eG p l e R s m args below meth c Q D ca A nL cb sb r0 a0 r.1 lo (.inl r.2 :: st) hp na nc ns (pc + 1)) : eG p l e R s m args below meth c Q D ca A nL cb sb r0 a0 env lo (.inl g :: .inl f :: st) hp na nc ns pc := g_bin 10 (fun x y H locs ls rest _ _ _ kk => lv_iushr X.1 X.2.1 hd rfl kk) h k
theorem g_max (X : eCx p R s m args c D ca A nL own cc a0) {i : Nat} {f g : eLF} {r : eEv × eLF} (hd : decode cc pc = .ok (.invokestatic i, 3)) (hw : Cond.methodLink own i Lib.Math.max.name ∈ gtbl) (hw1 : Cond.static Lib.Math.max.name ∈ gtbl) (hw2 : Cond.initialized "java/lang/Math" ∈ gtbl) (hw3 : Cond.code Lib.Math.max.name Lib.Math.max.code 2 (some .int) ∈ gtbl) (hst : (st.map ecat).sum ≤ 8) (hc : cb + nc ≤ R.cells) (hs : sb + ns ≤ R.slots)
    (h : ibin 11 env f g = some r) (k : eG p l e R s m args below meth c Q D ca A nL cb sb r0 a0 r.1 lo (.inl r.2 :: st) hp na nc ns (pc + 3)) : eG p l e R s m args below meth c Q D ca A nL cb sb r0 a0 env lo (.inl g :: .inl f :: st) hp na nc ns pc :=
  g_bin 11 (fun x y H locs ls rest hz hcat _ kk => va_mmax X.1 X.2.1 (by rw [X.2.2.1, hz]) X.2.2.2.1 (X.2.2.2.2.1 _ hw) (X.2.2.2.2.1 _ hw1) (X.2.2.2.2.1 _ hw2) (X.2.2.2.2.1 _ hw3) X.2.2.2.2.2.2.2.2.1 (by have := X.2.2.2.2.2.2.2.2.2; omega) hc hs hd kk) h k
theorem g_min (X : eCx p R s m args c D ca A nL own cc a0) {i : Nat} {f g : eLF} {r : eEv × eLF} (hd : decode cc pc = .ok (.invokestatic i, 3)) (hw : Cond.methodLink own i Lib.Math.min.name ∈ gtbl) (hw1 : Cond.static Lib.Math.min.name ∈ gtbl) (hw2 : Cond.initialized "java/lang/Math" ∈ gtbl) (hw3 : Cond.code Lib.Math.min.name Lib.Math.min.code 2 (some .int) ∈ gtbl) (hst : (st.map ecat).sum ≤ 8) (hc : cb + nc ≤ R.cells) (hs : sb + ns ≤ R.slots)
    (h : ibin 12 env f g = some r) (k : eG p l e R s m args below meth c Q D ca A nL cb sb r0 a0 r.1 lo (.inl r.2 :: st) hp na nc ns (pc + 3)) : eG p l e R s m args below meth c Q D ca A nL cb sb r0 a0 env lo (.inl g :: .inl f :: st) hp na nc ns pc :=
  g_bin 12 (fun x y H locs ls rest hz hcat _ kk => va_mmin X.1 X.2.1 (by rw [X.2.2.1, hz]) X.2.2.2.1 (X.2.2.2.2.1 _ hw) (X.2.2.2.2.1 _ hw1) (X.2.2.2.2.1 _ hw2) (X.2.2.2.2.1 _ hw3) X.2.2.2.2.2.2.2.2.1 (by have := X.2.2.2.2.2.2.2.2.2; omega) hc hs hd kk) h k
theorem g_iinc (X : eCx p R s m args c D ca A nL own cc a0) {i : Nat} {n : Int} {f : eLF} {r : eEv × eLF} (hd : decode cc pc = .ok (.iinc i n, 3)) (hf : lfd i lo = some (.inl f)) (hi : i < nL) (h : ibin 0 env f (fc n) = some r) (k : eG p l e R s m args below meth c Q D ca A nL cb sb r0 a0 r.1 (lst1 i (.inl r.2) lo) st hp na nc ns (pc + 3)) : eG p l e R s m args below meth c Q D ca A nL cb sb r0 a0 env lo st hp na nc ns pc := by
  intro ρ α ls lvl stk ws H locs hh
  obtain ⟨w, j, ⟨x, h1, rfl⟩, h2, h3⟩ := lfd_ok hf hh.2.2.2.1 hh.2.2.1
  obtain ⟨⟨σ, z, q1, q2, q3⟩, q4⟩ := ibin_ok 0 hh.1 h1 (fc_ok n) h
  have h5 := rep_env hh q1
  refine lv_iinc X.1 X.2.1 hd hh.2.2.1 h3 (v := Int32.ofInt z) (by rw [q3]; rfl) hi rfl (fun ls' hl' => ?_)
  exact k (ρ ++ σ) α ls' _ stk ws H locs (rep_lo h5 hl' (lst1_ok h5.2.2.2.1 ⟨z, q2, rfl⟩))
/-- the stack -/
theorem g_dup (X : eCx p R s m args c D ca A nL own cc a0) {v : eSV} (hd : decode cc pc = .ok (.dup, 1)) (hv : ecat v = 1) (k : eG p l e R s m args below meth c Q D ca A nL cb sb r0 a0 env lo (v :: v :: st) hp na nc ns (pc + 1)) : eG p l e R s m args below meth c Q D ca A nL cb sb r0 a0 env lo (v :: st) hp na nc ns pc := by
  intro ρ α ls lvl stk ws H locs h
  obtain ⟨w, stk', rfl, h1, h2⟩ := rep_pop h
  exact lv_dup X.1 X.2.1 hd (by rw [vok_cat h1, hv]) (k ρ α ls lvl _ ws H locs (rep_push h h1))
theorem g_pop (X : eCx p R s m args c D ca A nL own cc a0) {v : eSV} (hd : decode cc pc = .ok (.pop, 1)) (hv : ecat v = 1) (k : eG p l e R s m args below meth c Q D ca A nL cb sb r0 a0 env lo st hp na nc ns (pc + 1)) : eG p l e R s m args below meth c Q D ca A nL cb sb r0 a0 env lo (v :: st) hp na nc ns pc := by
  intro ρ α ls lvl stk ws H locs h
  obtain ⟨w, stk', rfl, h1, h2⟩ := rep_pop h
  exact lv_pop X.1 X.2.1 hd (by rw [vok_cat h1, hv]) (k ρ α ls lvl _ ws H locs h2)
theorem g_dup_x1 (X : eCx p R s m args c D ca A nL own cc a0) {v u : eSV} (hd : decode cc pc = .ok (.dup_x1, 1)) (hv : ecat v = 1) (hu : ecat u = 1) (k : eG p l e R s m args below meth c Q D ca A nL cb sb r0 a0 env lo (v :: u :: v :: st) hp na nc ns (pc + 1)) : eG p l e R s m args below meth c Q D ca A nL cb sb r0 a0 env lo (v :: u :: st) hp na nc ns pc := by
  intro ρ α ls lvl stk ws H locs h
  obtain ⟨w, stk', rfl, h1, h2⟩ := rep_pop h
  obtain ⟨w2, stk2, rfl, h3, h4⟩ := rep_pop h2
  exact lv_dup_x1 X.1 X.2.1 hd (by rw [vok_cat h1, hv]) (by rw [vok_cat h3, hu]) (k ρ α ls lvl _ ws H locs (rep_push (rep_push (rep_push h4 h1) h3) h1))
theorem g_dup2 (X : eCx p R s m args c D ca A nL own cc a0) {v u : eSV} (hd : decode cc pc = .ok (.dup2, 1)) (hv : ecat v = 1) (hu : ecat u = 1) (k : eG p l e R s m args below meth c Q D ca A nL cb sb r0 a0 env lo (v :: u :: v :: u :: st) hp na nc ns (pc + 1)) : eG p l e R s m args below meth c Q D ca A nL cb sb r0 a0 env lo (v :: u :: st) hp na nc ns pc := by
  intro ρ α ls lvl stk ws H locs h
  obtain ⟨w, stk', rfl, h1, h2⟩ := rep_pop h
  obtain ⟨w2, stk2, rfl, h3, h4⟩ := rep_pop h2
  exact lv_dup2_11 X.1 X.2.1 hd (by rw [vok_cat h1, hv]) (by rw [vok_cat h3, hu]) (k ρ α ls lvl _ ws H locs (rep_push (rep_push h h3) h1))
theorem g_goto (X : eCx p R s m args c D ca A nL own cc a0) {off : Int} {tgt : Nat} (hd : decode cc pc = .ok (.goto off, 3)) (ht : (pc : Int) + off = (tgt : Int)) (k : eG p l e R s m args below meth c Q D ca A nL cb sb r0 a0 env lo st hp na nc ns tgt) : eG p l e R s m args below meth c Q D ca A nL cb sb r0 a0 env lo st hp na nc ns pc :=
  fun ρ α ls lvl stk ws H locs h => lv_goto X.1 X.2.1 hd ht (k ρ α ls lvl stk ws H locs h)
/-- branches -/
def ccT (o : Nat) (env : eEv) (x y : eLF) : Option eEv := match o with
  | 0 => cEq env x y
  | 1 => cNe env x y
  | 2 => cLt env x y
  | 3 => cLe env y x
  | 4 => cLt env y x
  | _ => cLe env x y
def ccF (o : Nat) (env : eEv) (x y : eLF) : Option eEv := match o with
  | 0 => cNe env x y
  | 1 => cEq env x y
  | 2 => cLe env y x
  | 3 => cLt env x y
  | 4 => cLe env x y
  | _ => cLt env y x
def ccP (o : Nat) (x y : Int32) : Prop := match o with
  | 0 => x = y
  | 1 => ¬ x = y
  | 2 => x < y
  | 3 => y ≤ x
  | 4 => y < x
  | _ => x ≤ y
theorem ccT_ok (o : Nat) {ρ : List Int} (hE : eOk env ρ) {x y : eLF} {a b : Int} (hx : lfv ρ x a) (hy : lfv ρ y b) (h : ccP o (Int32.ofInt a) (Int32.ofInt b)) : ∃ e, ccT o env x y = some e ∧ eOk e ρ := by
  unfold ccP at h
  unfold ccT
  split at h
  · exact cEq_ok hE hx hy (by rw [h])
  · exact cNe_ok hE hx hy (fun q => h (Int32.toInt_inj.mp q))
  · exact cLt_ok hE hx hy (Int32.lt_iff_toInt_lt.mp h)
  · exact cLe_ok hE hy hx (Int32.le_iff_toInt_le.mp h)
  · exact cLt_ok hE hy hx (Int32.lt_iff_toInt_lt.mp h)
  · exact cLe_ok hE hx hy (Int32.le_iff_toInt_le.mp h)
theorem ccF_ok (o : Nat) {ρ : List Int} (hE : eOk env ρ) {x y : eLF} {a b : Int} (hx : lfv ρ x a) (hy : lfv ρ y b) (h : ¬ ccP o (Int32.ofInt a) (Int32.ofInt b)) : ∃ e, ccF o env x y = some e ∧ eOk e ρ := by
  unfold ccP at h
  unfold ccF
  split at h
  · exact cNe_ok hE hx hy (fun q => h (Int32.toInt_inj.mp q))
  · exact cEq_ok hE hx hy (by rw [Decidable.not_not.mp h])
  · exact cLe_ok hE hy hx (by rw [Int32.lt_iff_toInt_lt] at h; omega)
  · exact cLt_ok hE hx hy (by rw [Int32.le_iff_toInt_le] at h; omega)
  · exact cLe_ok hE hx hy (by rw [Int32.lt_iff_toInt_lt] at h; omega)
  · exact cLt_ok hE hy hx (by rw [Int32.le_iff_toInt_le] at h; omega)
theorem g_cmp (o : Nat) {f g : eLF} {tgt : Nat} (row : ∀ (x y : Int32) (H : Heap) (locs : List Loc) (ls : Array Slot) (rest : List Value), (ccP o x y → W p l e R s m args below meth c H locs (cb + nc) (sb + ns) Q (F0 m tgt ls rest)) → (¬ ccP o x y → W p l e R s m args below meth c H locs (cb + nc) (sb + ns) Q (F0 m (pc + 3) ls rest)) → W p l e R s m args below meth c H locs (cb + nc) (sb + ns) Q (F0 m pc ls (.int y :: .int x :: rest)))
    (kt : ∀ e', ccT o env f g = some e' → eG p l e R s m args below meth c Q D ca A nL cb sb r0 a0 e' lo st hp na nc ns tgt) (kf : ∀ e', ccF o env f g = some e' → eG p l e R s m args below meth c Q D ca A nL cb sb r0 a0 e' lo st hp na nc ns (pc + 3)) : eG p l e R s m args below meth c Q D ca A nL cb sb r0 a0 env lo (.inl g :: .inl f :: st) hp na nc ns pc := by
  intro ρ α ls lvl stk ws H locs hh
  obtain ⟨y, stk1, rfl, hy, h1⟩ := rep_popI hh
  obtain ⟨x, stk2, rfl, hx, h2⟩ := rep_popI h1
  refine row _ _ H locs ls stk2 (fun hp => ?_) (fun hp => ?_)
  · obtain ⟨e', q1, q2⟩ := ccT_ok o h2.1 hx hy hp
    exact kt e' q1 ρ α ls lvl _ ws H locs (rep_env0 h2 q2)
  · obtain ⟨e', q1, q2⟩ := ccF_ok o h2.1 hx hy hp
    exact kf e' q1 ρ α ls lvl _ ws H locs (rep_env0 h2 q2)
theorem g_cmp0 (o : Nat) {f : eLF} {tgt : Nat} (row : ∀ (x : Int32) (H : Heap) (locs : List Loc) (ls : Array Slot) (rest : List Value), (ccP o x 0 → W p l e R s m args below meth c H locs (cb + nc) (sb + ns) Q (F0 m tgt ls rest)) → (¬ ccP o x 0 → W p l e R s m args below meth c H locs (cb + nc) (sb + ns) Q (F0 m (pc + 3) ls rest)) → W p l e R s m args below meth c H locs (cb + nc) (sb + ns) Q (F0 m pc ls (.int x :: rest)))
    (kt : ∀ e', ccT o env f (fc 0) = some e' → eG p l e R s m args below meth c Q D ca A nL cb sb r0 a0 e' lo st hp na nc ns tgt) (kf : ∀ e', ccF o env f (fc 0) = some e' → eG p l e R s m args below meth c Q D ca A nL cb sb r0 a0 e' lo st hp na nc ns (pc + 3)) : eG p l e R s m args below meth c Q D ca A nL cb sb r0 a0 env lo (.inl f :: st) hp na nc ns pc := by
  intro ρ α ls lvl stk ws H locs hh
  obtain ⟨x, stk2, rfl, hx, h2⟩ := rep_popI hh
  refine row _ H locs ls stk2 (fun hp => ?_) (fun hp => ?_)
  · obtain ⟨e', q1, q2⟩ := ccT_ok o h2.1 hx (fc_ok 0) hp
    exact kt e' q1 ρ α ls lvl _ ws H locs (rep_env0 h2 q2)
  · obtain ⟨e', q1, q2⟩ := ccF_ok o h2.1 hx (fc_ok 0) hp
    exact kf e' q1 ρ α ls lvl _ ws H locs (rep_env0 h2 q2)
def cno (k : Jvm.ClassFile.Cond) : Nat := match k with
  | .eq => 0
  | .ne => 1
  | .lt => 2
  | .ge => 3
  | .gt => 4
  | .le => 5
theorem g_icmp (X : eCx p R s m args c D ca A nL own cc a0) {k : Jvm.ClassFile.Cond} {off : Int} {f g : eLF} {tgt : Nat} (hd : decode cc pc = .ok (.if_icmp k off, 3)) (ht : (pc : Int) + off = (tgt : Int))
    (kt : ∀ e', ccT (cno k) env f g = some e' → eG p l e R s m args below meth c Q D ca A nL cb sb r0 a0 e' lo st hp na nc ns tgt) (kf : ∀ e', ccF (cno k) env f g = some e' → eG p l e R s m args below meth c Q D ca A nL cb sb r0 a0 e' lo st hp na nc ns (pc + 3)) : eG p l e R s m args below meth c Q D ca A nL cb sb r0 a0 env lo (.inl g :: .inl f :: st) hp na nc ns pc := by
  cases k with
  | eq => exact g_cmp 0 (fun x y H locs ls rest a b => lv_icmp_eq X.1 X.2.1 hd ht a b) kt kf
  | ne => exact g_cmp 1 (fun x y H locs ls rest a b => lv_icmp_ne X.1 X.2.1 hd ht a (fun q => b (fun n => n q))) kt kf
  | lt => exact g_cmp 2 (fun x y H locs ls rest a b => lv_icmp_lt X.1 X.2.1 hd ht a b) kt kf
  | ge => exact g_cmp 3 (fun x y H locs ls rest a b => lv_icmp_ge X.1 X.2.1 hd ht a b) kt kf
  | gt => exact g_cmp 4 (fun x y H locs ls rest a b => lv_icmp_gt X.1 X.2.1 hd ht a b) kt kf
  | le => exact g_cmp 5 (fun x y H locs ls rest a b => lv_icmp_le X.1 X.2.1 hd ht a b) kt kf
theorem g_if (X : eCx p R s m args c D ca A nL own cc a0) {k : Jvm.ClassFile.Cond} {off : Int} {f : eLF} {tgt : Nat} (hd : decode cc pc = .ok (.ifCond k off, 3)) (ht : (pc : Int) + off = (tgt : Int))
    (kt : ∀ e', ccT (cno k) env f (fc 0) = some e' → eG p l e R s m args below meth c Q D ca A nL cb sb r0 a0 e' lo st hp na nc ns tgt) (kf : ∀ e', ccF (cno k) env f (fc 0) = some e' → eG p l e R s m args below meth c Q D ca A nL cb sb r0 a0 e' lo st hp na nc ns (pc + 3)) : eG p l e R s m args below meth c Q D ca A nL cb sb r0 a0 env lo (.inl f :: st) hp na nc ns pc := by
  cases k with
  | eq => exact g_cmp0 0 (fun x H locs ls rest a b => lv_if_eq X.1 X.2.1 hd ht a b) kt kf
  | ne => exact g_cmp0 1 (fun x H locs ls rest a b => lv_if_ne X.1 X.2.1 hd ht a (fun q => b (fun n => n q))) kt kf
  | lt => exact g_cmp0 2 (fun x H locs ls rest a b => lv_if_lt X.1 X.2.1 hd ht a b) kt kf
  | ge => exact g_cmp0 3 (fun x H locs ls rest a b => lv_if_ge X.1 X.2.1 hd ht a b) kt kf
  | gt => exact g_cmp0 4 (fun x H locs ls rest a b => lv_if_gt X.1 X.2.1 hd ht a b) kt kf
  | le => exact g_cmp0 5 (fun x H locs ls rest a b => lv_if_le X.1 X.2.1 hd ht a b) kt kf
/-- comparisons and remainders that are remembered -/
def cfT (o : Nat) : Int × Int := match o with
  | 0 => (0, 0)
  | 1 => (-4294967296, 4294967296)
  | 2 => (-4294967296, -1)
  | 3 => (0, 4294967296)
  | 4 => (1, 4294967296)
  | _ => (-4294967296, 0)
def cfF (o : Nat) : Int × Int := match o with
  | 0 => (-4294967296, 4294967296)
  | 1 => (0, 0)
  | 2 => (0, 4294967296)
  | 3 => (-4294967296, -1)
  | 4 => (-4294967296, 0)
  | _ => (1, 4294967296)
theorem cfT_ok (o : Nat) {x y : Int} (hx : (Int32.ofInt x).toInt = x) (hy : (Int32.ofInt y).toInt = y) (h : ccP o (Int32.ofInt x) (Int32.ofInt y)) : ivr (cfT o) (x - y) := by
  have a1 := (Int32.ofInt x).le_toInt
  have a2 := (Int32.ofInt x).toInt_lt
  have a3 := (Int32.ofInt y).le_toInt
  have a4 := (Int32.ofInt y).toInt_lt
  rw [hx] at a1 a2
  rw [hy] at a3 a4
  unfold ccP at h
  unfold cfT
  split at h
  · have e : x = y := by rw [← hx, ← hy, h]
    exact ⟨by show (0 : Int) ≤ _; omega, by show _ ≤ (0 : Int); omega⟩
  · exact ⟨by show (-4294967296 : Int) ≤ _; omega, by show _ ≤ (4294967296 : Int); omega⟩
  · rw [Int32.lt_iff_toInt_lt, hx, hy] at h
    exact ⟨by show (-4294967296 : Int) ≤ _; omega, by show _ ≤ (-1 : Int); omega⟩
  · rw [Int32.le_iff_toInt_le, hx, hy] at h
    exact ⟨by show (0 : Int) ≤ _; omega, by show _ ≤ (4294967296 : Int); omega⟩
  · rw [Int32.lt_iff_toInt_lt, hx, hy] at h
    exact ⟨by show (1 : Int) ≤ _; omega, by show _ ≤ (4294967296 : Int); omega⟩
  · rename_i n0 n1 n2 n3 n4
    rw [Int32.le_iff_toInt_le, hx, hy] at h
    first
      | exact ⟨by show (-4294967296 : Int) ≤ _; omega, by show _ ≤ (0 : Int); omega⟩
      | (split <;> first
        | exact absurd rfl n0
        | exact absurd rfl n1
        | exact absurd rfl n2
        | exact absurd rfl n3
        | exact absurd rfl n4
        | exact ⟨by show (-4294967296 : Int) ≤ _; omega, by show _ ≤ (0 : Int); omega⟩)
theorem cfF_ok (o : Nat) {x y : Int} (hx : (Int32.ofInt x).toInt = x) (hy : (Int32.ofInt y).toInt = y) (h : ¬ ccP o (Int32.ofInt x) (Int32.ofInt y)) : ivr (cfF o) (x - y) := by
  have a1 := (Int32.ofInt x).le_toInt
  have a2 := (Int32.ofInt x).toInt_lt
  have a3 := (Int32.ofInt y).le_toInt
  have a4 := (Int32.ofInt y).toInt_lt
  rw [hx] at a1 a2
  rw [hy] at a3 a4
  unfold ccP at h
  unfold cfF
  split at h
  · exact ⟨by show (-4294967296 : Int) ≤ _; omega, by show _ ≤ (4294967296 : Int); omega⟩
  · have e0 := Decidable.not_not.mp h
    have e : x = y := by rw [← hx, ← hy, e0]
    exact ⟨by show (0 : Int) ≤ _; omega, by show _ ≤ (0 : Int); omega⟩
  · rw [Int32.lt_iff_toInt_lt, hx, hy] at h
    exact ⟨by show (0 : Int) ≤ _; omega, by show _ ≤ (4294967296 : Int); omega⟩
  · rw [Int32.le_iff_toInt_le, hx, hy] at h
    exact ⟨by show (-4294967296 : Int) ≤ _; omega, by show _ ≤ (-1 : Int); omega⟩
  · rw [Int32.lt_iff_toInt_lt, hx, hy] at h
    exact ⟨by show (-4294967296 : Int) ≤ _; omega, by show _ ≤ (0 : Int); omega⟩
  · rename_i n0 n1 n2 n3 n4
    rw [Int32.le_iff_toInt_le, hx, hy] at h
    first
      | exact ⟨by show (1 : Int) ≤ _; omega, by show _ ≤ (4294967296 : Int); omega⟩
      | (split <;> first
        | exact absurd rfl n0
        | exact absurd rfl n1
        | exact absurd rfl n2
        | exact absurd rfl n3
        | exact absurd rfl n4
        | exact ⟨by show (1 : Int) ≤ _; omega, by show _ ≤ (4294967296 : Int); omega⟩)
theorem rep_fact {ρ : List Int} {α : List Nat} {ls : Array Slot} {lvl : List (Nat × Value)} {stk : List Value} {ws : va_W} {H : Heap} {locs : List Loc} {i : Int × Int} {f : eLF} {x : Int} (h : eRep s D ca A nL r0 a0 env lo st hp na ρ α ls lvl stk ws H locs) (hx : lfv ρ f x) (hi : ivr i x) : eRep s D ca A nL r0 a0 env lo st hp (na.1, na.2 ++ [(Sum.inl [[i]], [f])]) ρ α ls lvl stk ws H locs := by
  obtain ⟨h1, h2, h3⟩ := h
  refine ⟨h1, ⟨⟨h2.1.1, fun G hG => ?_⟩, h2.2⟩, h3⟩
  rcases List.mem_append.mp hG with z | z
  · exact h2.1.2 G z
  · rcases List.mem_cons.mp z with rfl | z
    · exact ⟨[x], ⟨hx, trivial⟩, (bxS_b rfl).mpr ⟨[i], List.mem_cons_self, ⟨hi, trivial⟩⟩⟩
    · cases z
theorem g_cmpF (o : Nat) {f g : eLF} {tgt : Nat} {i j : Int × Int} (hi : irg env f = some i) (hj : irg env g = some j) (row : ∀ (x y : Int32) (H : Heap) (locs : List Loc) (ls : Array Slot) (rest : List Value), (ccP o x y → W p l e R s m args below meth c H locs (cb + nc) (sb + ns) Q (F0 m tgt ls rest)) → (¬ ccP o x y → W p l e R s m args below meth c H locs (cb + nc) (sb + ns) Q (F0 m (pc + 3) ls rest)) → W p l e R s m args below meth c H locs (cb + nc) (sb + ns) Q (F0 m pc ls (.int y :: .int x :: rest)))
    (kt : ∀ e', ccT o env f g = some e' → eG p l e R s m args below meth c Q D ca A nL cb sb r0 a0 e' lo st hp (na.1, na.2 ++ [(Sum.inl [[cfT o]], [fsub f g])]) nc ns tgt) (kf : ∀ e', ccF o env f g = some e' → eG p l e R s m args below meth c Q D ca A nL cb sb r0 a0 e' lo st hp (na.1, na.2 ++ [(Sum.inl [[cfF o]], [fsub f g])]) nc ns (pc + 3)) : eG p l e R s m args below meth c Q D ca A nL cb sb r0 a0 env lo (.inl g :: .inl f :: st) hp na nc ns pc := by
  intro ρ α ls lvl stk ws H locs hh
  obtain ⟨y, stk1, rfl, hy, h1⟩ := rep_popI hh
  obtain ⟨x, stk2, rfl, hx, h2⟩ := rep_popI h1
  have ex := (irg_ok hh.1 hi hx).2
  have ey := (irg_ok hh.1 hj hy).2
  refine row _ _ H locs ls stk2 (fun hp => ?_) (fun hp => ?_)
  · obtain ⟨e', q1, q2⟩ := ccT_ok o h2.1 hx hy hp
    exact kt e' q1 ρ α ls lvl _ ws H locs (rep_fact (rep_env0 h2 q2) (fsub_ok hx hy) (cfT_ok o ex ey hp))
  · obtain ⟨e', q1, q2⟩ := ccF_ok o h2.1 hx hy hp
    exact kf e' q1 ρ α ls lvl _ ws H locs (rep_fact (rep_env0 h2 q2) (fsub_ok hx hy) (cfF_ok o ex ey hp))
theorem g_icmpF (X : eCx p R s m args c D ca A nL own cc a0) {k : Jvm.ClassFile.Cond} {off : Int} {f g : eLF} {tgt : Nat} {i j : Int × Int} (hi : irg env f = some i) (hj : irg env g = some j) (hd : decode cc pc = .ok (.if_icmp k off, 3)) (ht : (pc : Int) + off = (tgt : Int))
    (kt : ∀ e', ccT (cno k) env f g = some e' → eG p l e R s m args below meth c Q D ca A nL cb sb r0 a0 e' lo st hp (na.1, na.2 ++ [(Sum.inl [[cfT (cno k)]], [fsub f g])]) nc ns tgt) (kf : ∀ e', ccF (cno k) env f g = some e' → eG p l e R s m args below meth c Q D ca A nL cb sb r0 a0 e' lo st hp (na.1, na.2 ++ [(Sum.inl [[cfF (cno k)]], [fsub f g])]) nc ns (pc + 3)) : eG p l e R s m args below meth c Q D ca A nL cb sb r0 a0 env lo (.inl g :: .inl f :: st) hp na nc ns pc := by
  cases k with
  | eq => exact g_cmpF 0 hi hj (fun x y H locs ls rest a b => lv_icmp_eq X.1 X.2.1 hd ht a b) kt kf
  | ne => exact g_cmpF 1 hi hj (fun x y H locs ls rest a b => lv_icmp_ne X.1 X.2.1 hd ht a (fun q => b (fun n => n q))) kt kf
  | lt => exact g_cmpF 2 hi hj (fun x y H locs ls rest a b => lv_icmp_lt X.1 X.2.1 hd ht a b) kt kf
  | ge => exact g_cmpF 3 hi hj (fun x y H locs ls rest a b => lv_icmp_ge X.1 X.2.1 hd ht a b) kt kf
  | gt => exact g_cmpF 4 hi hj (fun x y H locs ls rest a b => lv_icmp_gt X.1 X.2.1 hd ht a b) kt kf
  | le => exact g_cmpF 5 hi hj (fun x y H locs ls rest a b => lv_icmp_le X.1 X.2.1 hd ht a b) kt kf
theorem g_iremF (X : eCx p R s m args c D ca A nL own cc a0) {f g : eLF} {r : eEv × eLF} {i j q : Int × Int} (hd : decode cc pc = .ok (.irem, 1)) (h : ibin 4 env f g = some r) (hi : irg env f = some i) (hj : irg env g = some j) (hq : irg r.1 r.2 = some q) (h0 : ile 0 i.1 = true) (h1 : ile 1 j.1 = true)
    (k : eG p l e R s m args below meth c Q D ca A nL cb sb r0 a0 r.1 lo (.inl r.2 :: st) hp (na.1, na.2 ++ [(Sum.inl [[(-4294967296, -1)]], [fsub r.2 g])]) nc ns (pc + 1)) : eG p l e R s m args below meth c Q D ca A nL cb sb r0 a0 env lo (.inl g :: .inl f :: st) hp na nc ns pc := by
  intro ρ α ls lvl stk ws H locs hh
  obtain ⟨y, stk1, rfl, hy, h2⟩ := rep_popI hh
  obtain ⟨x, stk2, rfl, hx, h3⟩ := rep_popI h2
  obtain ⟨⟨σ, z, q1, q2, q3⟩, q4⟩ := ibin_ok 4 h3.1 hx hy h
  refine lv_irem X.1 X.2.1 hd (q4 (Or.inr rfl)) ?_
  obtain ⟨a1, a2⟩ := irg_ok hh.1 hi hx
  obtain ⟨b1, b2⟩ := irg_ok hh.1 hj hy
  obtain ⟨c1, c2⟩ := irg_ok q1 hq q2
  have e0 := ile_t h0
  have e1 := ile_t h1
  have a3 := a1.1
  have b3 := b1.1
  obtain ⟨n, hn, en, n2⟩ := nI_ex (x := Int32.ofInt x) (by rw [a2]; omega)
  obtain ⟨d, hd', ed, d2⟩ := nI_ex (x := Int32.ofInt y) (by rw [b2]; omega)
  have hd0 : 0 < d := by omega
  have ez : z = ((n % d : Nat) : Int) := by
    have : Int32.ofInt z = nI (n % d) := by
      rw [q3, en, ed]
      exact pk_rem hn hd0 hd'
    rw [← c2, this, nI_toInt (Nat.lt_of_le_of_lt (Nat.mod_le n d) hn)]
  have hm : n % d < d := Nat.mod_lt n hd0
  have hr := rep_fact (i := (-4294967296, -1)) (rep_push (v := .inl r.2) (w := .int (Int32.ofInt z)) (rep_env h3 q1) ⟨z, q2, rfl⟩) (fsub_ok q2 (lfv_mono σ hy)) (by
    have b4 := (Int32.ofInt y).toInt_lt
    rw [b2] at b4
    exact ⟨by show (-4294967296 : Int) ≤ _; omega, by show _ ≤ (-1 : Int); omega⟩)
  have := k (ρ ++ σ) α ls lvl _ ws H locs hr
  rw [q3] at this
  exact this
end
end
