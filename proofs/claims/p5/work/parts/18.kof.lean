noncomputable section
/-! a contract out of a run; the rows of a method's code, by a program -/
section
variable {p : Program} {l : Launch} {e : Env} {R : Room} {s : State} {m : MethodId} {args : Array Value} {below : List Frame} {meth : Method} {c : Code} {Q : State → Prop} {D : va_G} {ca : Nat → ClassId} {A : Nat → Prop} {nL cb sb : Nat} {r0 : List Int} {a0 : List Nat} {own : String} {cc : ByteArray} {env : eEv} {lo : List (Nat × eSV)} {st : List eSV} {hp : eHp} {na : eNa} {nc ns pc : Nat}
theorem run_ok (X : eCx p R s m args c D ca A nL own cc a0) (hl : libW) {ini : Bool} (hI : ini = true → meth.name = "<init>") {Rf Rl Rc Rs : Nat} (hRf : Rf ≤ R.frames) (hRl : Rl ≤ R.locals) (hRc : cb + Rc ≤ R.cells) (hRs : sb + Rs ≤ R.slots) {C : eCode} (hC : codOk own cc C) {KS : List eK} (hKS : ∀ K ∈ KS, KMet l D ca K) {CT : List eCut} {FL : List Nat} {nv0 na0 : Nat} {mu : Option eLF} {retB : eAn → eSt → Option eSV → Bool}
    (h0 : ∀ (a : eAn) (env : eEv) (lo : List (Nat × eSV)) (hp : eHp) (na : eNa) (nc ns pc : Nat), decode cc pc = .ok (.return_, 1) → retB a (env, lo, [], hp, na, nc, ns, pc) none = true → eG p l e R s m args below meth c Q D ca A nL cb sb r0 a0 env lo [] hp na nc ns pc)
    (h1 : ∀ (a : eAn) (env : eEv) (lo : List (Nat × eSV)) (hp : eHp) (na : eNa) (nc ns pc : Nat) (f : eLF), decode cc pc = .ok (.ireturn, 1) → retB a (env, lo, [.inl f], hp, na, nc, ns, pc) (some (.inl f)) = true → eG p l e R s m args below meth c Q D ca A nL cb sb r0 a0 env lo [.inl f] hp na nc ns pc)
    (h2 : (∀ (a : eAn) (env : eEv) (lo : List (Nat × eSV)) (hp : eHp) (na : eNa) (nc ns pc : Nat) (f : eLF), decode cc pc = .ok (.lreturn, 1) → retB a (env, lo, [.inr (.inl f)], hp, na, nc, ns, pc) (some (.inr (.inl f))) = true → eG p l e R s m args below meth c Q D ca A nL cb sb r0 a0 env lo [.inr (.inl f)] hp na nc ns pc) ∧ (∀ (a : eAn) (env : eEv) (lo : List (Nat × eSV)) (hp : eHp) (na : eNa) (nc ns pc : Nat) (i : Nat), decode cc pc = .ok (.areturn, 1) → retB a (env, lo, [.inr (.inr (some i))], hp, na, nc, ns, pc) (some (.inr (.inr (some i)))) = true → eG p l e R s m args below meth c Q D ca A nL cb sb r0 a0 env lo [.inr (.inr (some i))] hp na nc ns pc))
    (hcut : ∀ (a : eAn) (S : eSt), cutB CT nv0 na0 mu a S = true → GS p l e R s m args below meth c Q D ca A nL cb sb r0 a0 S) : ∀ (n : Nat) (an an' : List eAn) (S : eSt), run ini nL Rf Rl Rc Rs C KS CT FL nv0 na0 mu retB n an S = some an' → GS p l e R s m args below meth c Q D ca A nL cb sb r0 a0 S := fun n an an' S h => runF_ok (fun rec hrec an S an' h => stepR_ok X hl hI hRf hRl hRc hRs hC hKS h0 h1 h2 (fun a S a' hr => hrec a S a' hr) h) hcut n an S an' h
end
def rB (K : eK) (rt : Option FieldType) (a : eAn) (S : eSt) (v : Option eSV) : Bool := rmt K S.1 S.2.2.2.1 S.2.2.2.2.1 a v && Nat.ble S.2.2.2.2.2.1 K.2.2.2.1 && Nat.ble S.2.2.2.2.2.2.1 K.2.2.2.2.1 && (match v, rt with
  | none, none => true
  | some (.inl f), some t => pok t S.1 (.inl f)
  | some (.inr (.inl _)), some .long => true
  | some (.inr (.inr (some _))), some (.object _) => true
  | some (.inr (.inr (some _))), some (.array _) => true
  | _, _ => false)
def S0 (K : eK) : eSt := (K.2.1.1, eargs 0 K.2.1.2.1, [], K.2.1.2.2.1, K.2.1.2.2.2, 0, 0, 0)
theorem K_of {l : Launch} {D : va_G} {ca : Nat → ClassId} (hl : libW) {K : eK} {q : MethodName × ByteArray × Nat × Option FieldType} (hq : mtab[K.1]? = some q) (hpn : plainName q.1.cls = true) (hlen : (K.2.1.2.1.map ecat).sum ≤ q.2.2.1) (hd1 : 1 ≤ K.2.2.2.2.2) {C : eCode} (hC : codOk q.1.cls q.2.1 C) {KS : List eK} (hKS : ∀ K' ∈ KS, KMet l D ca K') {ini : Bool} (hini : ini = true → q.1.name = "<init>") {FL : List Nat} {n : Nat} {an an' : List eAn}
    (hrun : run ini q.2.2.1 K.2.2.2.2.2 (60 * K.2.2.2.2.2) K.2.2.2.1 K.2.2.2.2.1 C KS [] FL 0 0 none (rB K q.2.2.2) n an (S0 K) = some an') : KMet l D ca K := by
  refine mk_K hq hpn hlen hd1 (fun p e s m args below meth c ρ α ws X hnm hlk hrt hρ hα => ?_)
  have hI : ini = true → meth.name = "<init>" := fun z => by rw [hnm]; exact hini z
  refine run_ok (S := S0 K) X hl hI (Nat.le_refl _) (Nat.le_refl _) (by rw [Nat.zero_add]; exact Nat.le_refl _) (by rw [Nat.zero_add]; exact Nat.le_refl _) hC hKS ?_ ?_ ?_ (fun a S hc => by cases hc) n an an' hrun
  · intro a env lo hp na nc ns pc hd hb
    unfold rB at hb
    rw [Bool.and_eq_true, Bool.and_eq_true, Bool.and_eq_true] at hb
    obtain ⟨⟨⟨b1, b2⟩, b3⟩, b4⟩ := hb
    have hr : meth.sig.returnType = none := by
      rw [hrt]
      generalize q.2.2.2 = o at b4
      cases o
      · rfl
      · cases b4
    exact g_ret X rfl rfl hlk hr (List.prefix_refl _) (List.prefix_refl _) hρ hα hd (by rw [Nat.zero_add]; exact Nat.le_of_ble_eq_true b2) (by rw [Nat.zero_add]; exact Nat.le_of_ble_eq_true b3) b1
  · intro a env lo hp na nc ns pc f hd hb
    unfold rB at hb
    rw [Bool.and_eq_true, Bool.and_eq_true, Bool.and_eq_true] at hb
    obtain ⟨⟨⟨b1, b2⟩, b3⟩, b4⟩ := hb
    obtain ⟨rt, e1, e2⟩ : ∃ rt, q.2.2.2 = some rt ∧ pok rt env (.inl f) = true := by
      generalize q.2.2.2 = o at b4
      cases o
      · cases b4
      · exact ⟨_, rfl, b4⟩
    exact g_iret X rfl rfl hlk (hrt.trans e1) (List.prefix_refl _) (List.prefix_refl _) hρ hα hd e2 (by rw [Nat.zero_add]; exact Nat.le_of_ble_eq_true b2) (by rw [Nat.zero_add]; exact Nat.le_of_ble_eq_true b3) b1
  · refine ⟨?_, ?_⟩
    · intro a env lo hp na nc ns pc f hd hb
      unfold rB at hb
      rw [Bool.and_eq_true, Bool.and_eq_true, Bool.and_eq_true] at hb
      obtain ⟨⟨⟨b1, b2⟩, b3⟩, b4⟩ := hb
      have hr : meth.sig.returnType = some .long := by
        rw [hrt]
        generalize q.2.2.2 = o at b4
        cases o with
        | none => cases b4
        | some t => cases t <;> first | rfl | (cases b4; done)
      exact g_lret X rfl rfl hlk hr (List.prefix_refl _) (List.prefix_refl _) hρ hα hd (by rw [Nat.zero_add]; exact Nat.le_of_ble_eq_true b2) (by rw [Nat.zero_add]; exact Nat.le_of_ble_eq_true b3) b1
    · intro a env lo hp na nc ns pc i hd hb
      unfold rB at hb
      rw [Bool.and_eq_true, Bool.and_eq_true, Bool.and_eq_true] at hb
      obtain ⟨⟨⟨b1, b2⟩, b3⟩, b4⟩ := hb
      obtain ⟨rt, e1, e2⟩ : ∃ rt, q.2.2.2 = some rt ∧ ((∃ n, rt = .object n) ∨ ∃ t, rt = .array t) := by
        generalize q.2.2.2 = o at b4
        cases o with
        | none => cases b4
        | some t => cases t <;> first | (cases b4; done) | exact ⟨_, rfl, Or.inl ⟨_, rfl⟩⟩ | exact ⟨_, rfl, Or.inr ⟨_, rfl⟩⟩
      exact g_aret X rfl rfl hlk (hrt.trans e1) e2 (List.prefix_refl _) (List.prefix_refl _) hρ hα hd (by rw [Nat.zero_add]; exact Nat.le_of_ble_eq_true b2) (by rw [Nat.zero_add]; exact Nat.le_of_ble_eq_true b3) b1
/-- a word at its place in the tables -/
def wAt (k : Nat) (w : Cond) : Bool := (match lk lw_tbl k with
  | some v => decide (v = w)
  | none => false) && goodWord w
theorem wAt_ok {k : Nat} {w : Cond} (h : wAt k w = true) : w ∈ gtbl := by
  unfold wAt at h
  rw [Bool.and_eq_true] at h
  have h1 := h.1
  split at h1
  · rename_i v hv
    rw [lk_eq] at hv
    have e := of_decide_eq_true h1
    subst e
    exact in_g (List.mem_of_getElem? hv) h.2
  · cases h1
def xAt (k : Nat) (w : Cond) : Bool := (match lk lw_tbl k with
  | some v => decide (v = w)
  | none => false) && isX w
theorem xAt_ok {k : Nat} {w : Cond} (h : xAt k w = true) : w ∈ xtbl := by
  unfold xAt at h
  rw [Bool.and_eq_true] at h
  have h1 := h.1
  split at h1
  · rename_i v hv
    rw [lk_eq] at hv
    have e := of_decide_eq_true h1
    subst e
    exact List.mem_filter.mpr ⟨List.mem_of_getElem? hv, h.2⟩
  · cases h1
def mdB (y : MethodName) (n : Nat) : Bool := decide (y.cls ≠ "java/lang/invoke/MethodHandle") && decide (y.cls ≠ "java/lang/invoke/VarHandle") && decide ((parseMethodDescriptor y.desc).map (fun d => d.parameters.length) = some n)
theorem mdB_ok {y : MethodName} {n : Nat} (h : mdB y n = true) : mdOk y n := by
  unfold mdB at h
  rw [Bool.and_eq_true, Bool.and_eq_true] at h
  exact ⟨of_decide_eq_true h.1.1, of_decide_eq_true h.1.2, of_decide_eq_true h.2⟩
def rowB (own : String) (i : Instr) (x y : Nat) (ps : List Nat) : Bool := match i with
  | .getfield idx => (match vwCl[x]? with
    | some q => Nat.blt y q.2.2 && wAt (ps.getD 0 0) (Cond.fieldLink own idx (q.2.1 y).1 (q.2.1 y).2.1 (q.2.1 y).2.2.1)
    | none => false)
  | .putfield idx => (match vwCl[x]? with
    | some q => Nat.blt y q.2.2 && wAt (ps.getD 0 0) (Cond.fieldLink own idx (q.2.1 y).1 (q.2.1 y).2.1 (q.2.1 y).2.2.1) && (bif (q.2.1 y).2.2.2 then decide ((q.2.1 y).1 = own) else true)
    | none => false)
  | .new idx => (match vwCl[x]? with
    | some q => wAt (ps.getD 0 0) (Cond.classLink own idx q.1) && wAt (ps.getD 1 0) (Cond.instantiable q.1 q.2.2) && wAt (ps.getD 2 0) (Cond.initialized q.1)
    | none => false)
  | .newarray a => wAt (ps.getD 0 0) (Cond.arrayClass (newarray.typeOf a))
  | .anewarray idx => (Nat.beq x 4 && wAt (ps.getD 0 0) (Cond.classLink own idx "DrownedRooms$Image") && xAt (ps.getD 1 0) (Cond.arrayOver (.object "DrownedRooms$Image"))) || (Nat.beq x 5 && wAt (ps.getD 0 0) (Cond.classLink own idx "DrownedRooms$Lake") && xAt (ps.getD 1 0) (Cond.arrayOver (.object "DrownedRooms$Lake")))
  | .ldc idx => wAt (ps.getD 0 0) (Cond.constant own idx (Int32.ofNat x))
  | .ldc_w idx => wAt (ps.getD 0 0) (Cond.constant own idx (Int32.ofNat x))
  | .getstatic idx => (match stZ[x]? with
    | some z => wAt (ps.getD 0 0) (Cond.fieldLink own idx z.1 z.2.1 z.2.2.1)
    | none => false)
  | .ldc2_w idx => wAt (ps.getD 0 0) (Cond.constantLong own idx (Int64.ofNat x))
  | .invokevirtual idx => (match mtab[y]?, vwCl[x / 1000]? with
    | some q, some qc => wAt (ps.getD 0 0) (Cond.methodLink own idx q.1) && wAt (ps.getD 1 0) (Cond.instanceMethod q.1) && ((wAt (ps.getD 2 0) (Cond.selects q.1.cls q.1 q.1) && decide (q.1.cls = qc.1)) || (wAt (ps.getD 4 0) (Cond.sameMethod q.1.cls q.1.cls q.1.name q.1.desc) && wAt (ps.getD 2 0) (Cond.selects qc.1 q.1 q.1))) && wAt (ps.getD 3 0) (Cond.initialized q.1.cls) && mdB q.1 (x % 100) && Nat.ble q.2.2.1 40
    | _, _ => false)
  | .invokestatic idx => (Nat.beq y 100000 && wAt (ps.getD 0 0) (Cond.methodLink own idx Lib.Math.max.name)) || (Nat.beq y 100001 && wAt (ps.getD 0 0) (Cond.methodLink own idx Lib.Math.min.name)) || (Nat.beq y 100002 && wAt (ps.getD 0 0) (Cond.methodLink own idx Lib.Math.abs.name)) || (Nat.beq y 100003 && wAt (ps.getD 0 0) (Cond.methodLink own idx arraycopyName)) || (Nat.blt y 100000 && (match mtab[y]? with
    | some q => (wAt (ps.getD 0 0) (Cond.methodLink own idx q.1) || xAt (ps.getD 0 0) (Cond.methodLinkNest own idx q.1 "DrownedRooms")) && wAt (ps.getD 1 0) (Cond.static q.1) && wAt (ps.getD 2 0) (Cond.initialized q.1.cls) && mdB q.1 (x % 100) && Nat.ble q.2.2.1 40
    | none => false)) || Nat.ble 300000 y
  | .invokespecial idx => (Nat.beq y 100004 && wAt (ps.getD 0 0) (Cond.methodLink own idx Lib.objectInit)) || (Nat.blt y 100000 && (match mtab[y]? with
    | some q => (wAt (ps.getD 0 0) (Cond.methodLink own idx q.1) || xAt (ps.getD 0 0) (Cond.methodLinkNest own idx q.1 "DrownedRooms")) && wAt (ps.getD 1 0) (Cond.instanceMethod q.1) && wAt (ps.getD 2 0) (Cond.initialized q.1.cls) && mdB q.1 (x % 100) && decide (q.2.2.2 = none) && decide (q.1.name = "<init>") && Nat.ble q.2.2.1 40
    | none => false)) || (Nat.blt y 100000 && (match mtab[y]?, vwCl[x / 1000 - 1]? with
    | some q, some _ => wAt (ps.getD 0 0) (Cond.methodLink own idx q.1) && wAt (ps.getD 1 0) (Cond.instanceMethod q.1) && wAt (ps.getD 2 0) (Cond.initialized q.1.cls) && mdB q.1 (x % 100) && decide (q.1.name ≠ "<init>") && wAt (ps.getD 3 0) (Cond.sameMethod q.1.cls q.1.cls q.1.name q.1.desc) && wAt (ps.getD 4 0) (Cond.superclass own q.1.cls) && decide (x / 1000 ≠ 0) && Nat.ble q.2.2.1 40
    | _, _ => false))
  | _ => true
theorem rowB_ok {own : String} {i : Instr} {x y : Nat} {ps : List Nat} (h : rowB own i x y ps = true) : rowW own i x y := by
  unfold rowB at h
  unfold rowW
  split at h
  · split at h
    · rename_i q hq
      rw [Bool.and_eq_true] at h
      exact ⟨q, hq, blt_t h.1, wAt_ok h.2⟩
    · cases h
  · split at h
    · rename_i q hq
      rw [Bool.and_eq_true, Bool.and_eq_true] at h
      refine ⟨q, hq, blt_t h.1.1, wAt_ok h.1.2, fun z => ?_⟩
      have h2 := h.2
      rw [z] at h2
      exact of_decide_eq_true h2
    · cases h
  · split at h
    · rename_i q hq
      rw [Bool.and_eq_true, Bool.and_eq_true] at h
      exact ⟨q, hq, wAt_ok h.1.1, wAt_ok h.1.2, wAt_ok h.2⟩
    · cases h
  · exact wAt_ok h
  · rw [Bool.or_eq_true, Bool.and_eq_true, Bool.and_eq_true, Bool.and_eq_true, Bool.and_eq_true] at h
    rcases h with h | h
    · exact Or.inl ⟨Nat.eq_of_beq_eq_true h.1.1, wAt_ok h.1.2, xAt_ok h.2⟩
    · exact Or.inr ⟨Nat.eq_of_beq_eq_true h.1.1, wAt_ok h.1.2, xAt_ok h.2⟩
  · exact wAt_ok h
  · exact wAt_ok h
  · split at h
    · rename_i z hz
      exact ⟨z, hz, wAt_ok h⟩
    · cases h
  · exact wAt_ok h
  · split at h
    · rename_i q qc hq hqc
      simp only [Bool.and_eq_true, Bool.or_eq_true] at h
      obtain ⟨⟨⟨⟨⟨b1, b2⟩, b3⟩, b4⟩, b5⟩, b7⟩ := h
      refine ⟨q, qc, hq, wAt_ok b1, wAt_ok b2, ?_, wAt_ok b4, mdB_ok b5, hqc, Nat.le_of_ble_eq_true b7⟩
      rcases b3 with ⟨b3, b6⟩ | ⟨b3, b6⟩
      · exact Or.inl ⟨wAt_ok b3, of_decide_eq_true b6⟩
      · exact Or.inr ⟨wAt_ok b3, wAt_ok b6⟩
    · cases h
  · rw [Bool.or_eq_true, Bool.or_eq_true, Bool.or_eq_true, Bool.or_eq_true, Bool.or_eq_true] at h
    rcases h with ((((h | h) | h) | h) | h) | h
    · rw [Bool.and_eq_true] at h
      exact Or.inl ⟨Nat.eq_of_beq_eq_true h.1, wAt_ok h.2⟩
    · rw [Bool.and_eq_true] at h
      exact Or.inr (Or.inl ⟨Nat.eq_of_beq_eq_true h.1, wAt_ok h.2⟩)
    · rw [Bool.and_eq_true] at h
      exact Or.inr (Or.inr (Or.inl ⟨Nat.eq_of_beq_eq_true h.1, wAt_ok h.2⟩))
    · rw [Bool.and_eq_true] at h
      exact Or.inr (Or.inr (Or.inr (Or.inl ⟨Nat.eq_of_beq_eq_true h.1, wAt_ok h.2⟩)))
    · rw [Bool.and_eq_true] at h
      refine Or.inr (Or.inr (Or.inr (Or.inr (Or.inl ⟨blt_t h.1, ?_⟩))))
      have h2 := h.2
      split at h2
      · rename_i q hq
        simp only [Bool.and_eq_true, Bool.or_eq_true] at h2
        obtain ⟨⟨⟨⟨b1, b2⟩, b3⟩, b4⟩, b5⟩ := h2
        exact ⟨q, hq, b1.elim (fun z => Or.inl (wAt_ok z)) (fun z => Or.inr (xAt_ok z)), wAt_ok b2, wAt_ok b3, mdB_ok b4, Nat.le_of_ble_eq_true b5⟩
      · cases h2
    · exact Or.inr (Or.inr (Or.inr (Or.inr (Or.inr (Nat.le_of_ble_eq_true h)))))
  · rw [Bool.or_eq_true, Bool.or_eq_true] at h
    rcases h with (h | h) | h
    · rw [Bool.and_eq_true] at h
      exact Or.inl ⟨Nat.eq_of_beq_eq_true h.1, wAt_ok h.2⟩
    · rw [Bool.and_eq_true] at h
      refine Or.inr (Or.inl ⟨blt_t h.1, ?_⟩)
      have h2 := h.2
      split at h2
      · rename_i q hq
        simp only [Bool.and_eq_true, Bool.or_eq_true] at h2
        obtain ⟨⟨⟨⟨⟨⟨b1, b2⟩, b3⟩, b4⟩, b5⟩, b6⟩, b7⟩ := h2
        exact ⟨q, hq, b1.elim (fun z => Or.inl (wAt_ok z)) (fun z => Or.inr (xAt_ok z)), wAt_ok b2, wAt_ok b3, mdB_ok b4, of_decide_eq_true b5, of_decide_eq_true b6, Nat.le_of_ble_eq_true b7⟩
      · cases h2
    · rw [Bool.and_eq_true] at h
      refine Or.inr (Or.inr ⟨blt_t h.1, ?_⟩)
      have h2 := h.2
      split at h2
      · rename_i q qc hq hqc
        simp only [Bool.and_eq_true] at h2
        obtain ⟨⟨⟨⟨⟨⟨⟨⟨b1, b2⟩, b3⟩, b4⟩, b5⟩, b6⟩, b7⟩, b8⟩, b9⟩ := h2
        exact ⟨q, qc, hq, wAt_ok b1, wAt_ok b2, wAt_ok b3, mdB_ok b4, of_decide_eq_true b5, wAt_ok b6, wAt_ok b7, of_decide_eq_true b8, hqc, Nat.le_of_ble_eq_true b9⟩
      · cases h2
  · rename_i n1 n2 n3 n4 n5 n6 n7 n8 n9 n10 n11 n12
    first
      | exact trivial
      | (split <;> first
        | exact trivial
        | exact absurd rfl (n1 _)
        | exact absurd rfl (n2 _)
        | exact absurd rfl (n3 _)
        | exact absurd rfl (n4 _)
        | exact absurd rfl (n5 _)
        | exact absurd rfl (n6 _)
        | exact absurd rfl (n7 _)
        | exact absurd rfl (n8 _)
        | exact absurd rfl (n9 _)
        | exact absurd rfl (n10 _)
        | exact absurd rfl (n11 _)
        | exact absurd rfl (n12 _))
def cRowB (own : String) (i : Instr) (x y : Nat) (ps : List Nat) : Bool := match i with
  | .ldc idx => (match stS[x]? with
    | some r => decide (r.1 = own) && Nat.beq r.2.1 idx
    | none => false)
  | .ldc_w idx => (match stS[x]? with
    | some r => decide (r.1 = own) && Nat.beq r.2.1 idx
    | none => false)
  | .getstatic idx => (Nat.beq x 10 && wAt (ps.getD 0 0) (Cond.fieldLink own idx "java/lang/Integer" "DigitOnes" "[B")) || ((Nat.beq x 11 && wAt (ps.getD 0 0) (Cond.fieldLink own idx "java/lang/Integer" "DigitTens" "[B")) || (Nat.beq x 12 && wAt (ps.getD 0 0) (Cond.fieldLink own idx pcN "SIOOBE_FORMATTER" bfD)))
  | .getfield idx => (Nat.beq x 0 && wAt (ps.getD 0 0) (Cond.fieldLink own idx "java/lang/String" "value" "[B")) || (Nat.beq x 1 && wAt (ps.getD 0 0) (Cond.fieldLink own idx "java/lang/String" "coder" "B"))
  | .invokevirtual idx => (match mtab[x / 1000]? with
    | some q => decide (q.1.cls = "java/lang/String") && wAt (ps.getD 0 0) (Cond.methodLink own idx q.1) && wAt (ps.getD 1 0) (Cond.instanceMethod q.1) && wAt (ps.getD 2 0) (Cond.selects q.1.cls q.1 q.1) && wAt (ps.getD 3 0) (Cond.initialized q.1.cls) && mdB q.1 (x % 100) && Nat.ble q.2.2.1 40
    | none => false)
  | .invokestatic idx => wAt (ps.getD 0 0) (Cond.methodLink own idx arraycopyName)
  | .arraylength => true
  | .baload => true
  | .ifnonnull _ => true
  | _ => false
theorem cRowB_ok {own : String} {i : Instr} {x y : Nat} {ps : List Nat} (h : cRowB own i x y ps = true) : cRow own i x y := by
  unfold cRowB at h
  unfold cRow
  split at h
  · split at h
    · rename_i r hr
      rw [Bool.and_eq_true] at h
      exact ⟨r, hr, of_decide_eq_true h.1, Nat.eq_of_beq_eq_true h.2⟩
    · cases h
  · split at h
    · rename_i r hr
      rw [Bool.and_eq_true] at h
      exact ⟨r, hr, of_decide_eq_true h.1, Nat.eq_of_beq_eq_true h.2⟩
    · cases h
  · rw [Bool.or_eq_true, Bool.or_eq_true, Bool.and_eq_true, Bool.and_eq_true, Bool.and_eq_true] at h
    rcases h with h | h | h
    · exact Or.inl ⟨Nat.eq_of_beq_eq_true h.1, wAt_ok h.2⟩
    · exact Or.inr (Or.inl ⟨Nat.eq_of_beq_eq_true h.1, wAt_ok h.2⟩)
    · exact Or.inr (Or.inr ⟨Nat.eq_of_beq_eq_true h.1, wAt_ok h.2⟩)
  · rw [Bool.or_eq_true, Bool.and_eq_true, Bool.and_eq_true] at h
    rcases h with h | h
    · exact Or.inl ⟨Nat.eq_of_beq_eq_true h.1, wAt_ok h.2⟩
    · exact Or.inr ⟨Nat.eq_of_beq_eq_true h.1, wAt_ok h.2⟩
  · split at h
    · rename_i q hq
      simp only [Bool.and_eq_true] at h
      obtain ⟨⟨⟨⟨⟨⟨b1, b2⟩, b3⟩, b4⟩, b5⟩, b6⟩, b7⟩ := h
      exact ⟨q, hq, of_decide_eq_true b1, wAt_ok b2, wAt_ok b3, wAt_ok b4, wAt_ok b5, mdB_ok b6, Nat.le_of_ble_eq_true b7⟩
    · cases h
  · exact wAt_ok h
  · trivial
  · trivial
  · trivial
  · cases h
def cRowMB (own : String) (i : Instr) (x : Nat) (ps : List Nat) : Bool := match i with
  | .invokestatic idx => (Nat.beq x 890 && wAt (ps.getD 0 0) (Cond.methodLink own idx Lib.Math.max.name)) || (Nat.beq x 891 && wAt (ps.getD 0 0) (Cond.methodLink own idx Lib.Math.min.name))
  | _ => false
theorem cRowMB_ok {own : String} {i : Instr} {x : Nat} {ps : List Nat} (h : cRowMB own i x ps = true) : cRowM own i x := by
  unfold cRowMB at h
  unfold cRowM
  split at h
  · rw [Bool.or_eq_true, Bool.and_eq_true, Bool.and_eq_true] at h
    rcases h with h | h
    · exact Or.inl ⟨Nat.eq_of_beq_eq_true h.1, wAt_ok h.2⟩
    · exact Or.inr ⟨Nat.eq_of_beq_eq_true h.1, wAt_ok h.2⟩
  · cases h
def rowBV (own : String) (i : Instr) (x y : Nat) (ps : List Nat) : Bool := bif Nat.beq y 150000 then (bif Nat.beq x 888 then true else (bif Nat.beq (x / 2) 445 then cRowMB own i x ps else cRowB own i x y ps)) else rowB own i x y ps
theorem rowBV_ok {own : String} {i : Instr} {x y : Nat} {ps : List Nat} (h : rowBV own i x y ps = true) : rowV own i x y := by
  unfold rowBV at h
  cases hb : Nat.beq y 150000
  · rw [hb] at h
    exact ⟨fun _ => rowB_ok h, fun z => by rw [z] at hb; cases hb⟩
  · rw [hb] at h
    exact ⟨fun z => (by rw [z] at hb; cases hb), fun _ hx => ⟨fun hm => cRowMB_ok (by
      rw [hx, hm] at h
      exact h), fun hm => cRowB_ok (by
      rw [hx, hm] at h
      exact h)⟩⟩
def codB (own : String) (cc : ByteArray) (C : eCode) : Bool := C.all (fun ch => ch.2.all (fun r => decide (decode cc r.1 = .ok (r.2.1, ilen r.2.1 r.2.2.1)) && rowBV own r.2.1 r.2.2.2.1 r.2.2.2.2.1 r.2.2.2.2.2))
theorem codB_ok {own : String} {cc : ByteArray} {C : eCode} (h : codB own cc C = true) : codOk own cc C := by
  intro ch hch r hr
  have h1 := List.all_eq_true.mp (List.all_eq_true.mp h ch hch) r hr
  rw [Bool.and_eq_true] at h1
  exact ⟨of_decide_eq_true h1.1, rowBV_ok h1.2⟩
/-- rows that lean on words, checked once for a class; a method's rows name their places -/
def rOk (own : String) (R : List eRow) : Prop := ∀ z ∈ R, rowV own z.2.1 z.2.2.2.1 z.2.2.2.2.1
def rokB (own : String) (R : List eRow) : Bool := R.all (fun z => rowBV own z.2.1 z.2.2.2.1 z.2.2.2.2.1 z.2.2.2.2.2)
theorem rokB_ok {own : String} {R : List eRow} (h : rokB own R = true) : rOk own R := fun z hz => rowBV_ok (List.all_eq_true.mp h z hz)
theorem rOk_app {own : String} {A B : List eRow} (h : rOk own A) (g : rOk own B) : rOk own (A ++ B) := fun z hz => (List.mem_append.mp hz).elim (h z) (g z)
def rowR (own : String) (R : List eRow) (r : eRow) : Bool := match r.2.2.2.2.2 with
  | [] => rowBV own r.2.1 r.2.2.2.1 r.2.2.2.2.1 []
  | p :: _ => (match lk R p with
    | some z => decide (z.2.1 = r.2.1) && (Nat.beq z.2.2.2.1 r.2.2.2.1 && Nat.beq z.2.2.2.2.1 r.2.2.2.2.1)
    | none => false)
theorem rowR_ok {own : String} {R : List eRow} (hR : rOk own R) {r : eRow} (h : rowR own R r = true) : rowV own r.2.1 r.2.2.2.1 r.2.2.2.2.1 := by
  unfold rowR at h
  split at h
  · exact rowBV_ok h
  · split at h
    · rename_i z hz
      rw [lk_eq] at hz
      rw [Bool.and_eq_true, Bool.and_eq_true] at h
      have g := hR z (List.mem_of_getElem? hz)
      rw [of_decide_eq_true h.1, Nat.eq_of_beq_eq_true h.2.1, Nat.eq_of_beq_eq_true h.2.2] at g
      exact g
    · cases h
def codR (own : String) (cc : ByteArray) (R : List eRow) (C : eCode) : Bool := C.all (fun ch => ch.2.all (fun r => decide (decode cc r.1 = .ok (r.2.1, ilen r.2.1 r.2.2.1)) && rowR own R r))
theorem codR_ok {own : String} {cc : ByteArray} {R : List eRow} {C : eCode} (hR : rOk own R) (h : codR own cc R C = true) : codOk own cc C := by
  intro ch hch r hr
  have h1 := List.all_eq_true.mp (List.all_eq_true.mp h ch hch) r hr
  rw [Bool.and_eq_true] at h1
  exact ⟨of_decide_eq_true h1.1, rowR_ok hR h1.2⟩
end
