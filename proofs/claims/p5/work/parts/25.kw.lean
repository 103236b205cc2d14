noncomputable section
/-! a static method of the law's with a table of handlers: one call that may throw, caught -/
def KWMet (l : Launch) (D : va_G) (ca : Nat → ClassId) (K : eK) (q : MethodName × ByteArray × Nat × Option FieldType) (hh : List (Nat × Nat × Nat × Nat)) : Prop := ∀ (ρ : List Int) (α : List Nat) (ws : va_W) (sz : Nat) (av : List Value), eOk K.2.1.1 ρ → nOk K.2.1.2.2.2 ρ α → R2 (vok ρ α) K.2.1.2.1 av → R2 (hrel ca ρ α) K.2.1.2.2.1 ws → va_D (fun _ => True) ws → cpx ca α →
  Met l q.1 (.codeWith q.1 q.2.1 q.2.2.1 q.2.2.2 hh :: gtbl) (rmK K) (PcK D ca av ws sz) (QK D ca K ρ α ws sz) K.2.2.2.1 K.2.2.2.2.1 (va_A ws sz)
theorem mk_KW {l : Launch} {D : va_G} {ca : Nat → ClassId} {K : eK} {q : MethodName × ByteArray × Nat × Option FieldType} {hh : List (Nat × Nat × Nat × Nat)} (hpn : plainName q.1.cls = true) (hlen : (K.2.1.2.1.map ecat).sum ≤ q.2.2.1) (hd1 : 1 ≤ K.2.2.2.2.2)
    (body : ∀ (p : Program) (e : Env) (s : State) (m : MethodId) (args : Array Value) (below : List Frame) (meth : Method) (c : Code) (ρ : List Int) (α : List Nat) (ws : va_W), eCx p (rmK K) s m args c D ca (va_A ws s.heap.size) q.2.2.1 q.1.cls q.2.1 α → meth.locks = false → meth.sig.returnType = q.2.2.2 → c.exceptionTable.toList = tableOf hh → ρ.length = K.2.1.1.1 → α.length = K.2.1.2.2.2.1 →
      eG p l e (rmK K) s m args below meth c (MQ below (QK D ca K ρ α ws s.heap.size) args s K.2.2.2.1 K.2.2.2.2.1 (va_A ws s.heap.size)) D ca (va_A ws s.heap.size) q.2.2.1 0 0 ρ α K.2.1.1 (eargs 0 K.2.1.2.1) [] K.2.1.2.2.1 K.2.1.2.2.2 0 0 0) : KWMet l D ca K q hh := by
  intro ρ α ws sz av hE hα hav hh' hD0 hcx
  refine va_MetW (cc := q.2.1) (maxL := q.2.2.1) (ret := q.2.2.2) (hh := hh) hpn rfl ?_
  intro p e s m args below meth c s₁ B hml hv
  obtain ⟨rfl, hsz, hP, hK, hX, hZ⟩ := hv
  subst hsz
  have hts := atoms_spec (ws := .codeWith q.1 q.2.1 q.2.2.1 q.2.2.2 hh :: gtbl) B.pre
  have hD := hD0.self (sz := s.heap.size)
  have hl := lv_entry av (n := q.2.2.1) (by rw [sl_len, sum_cat hav]; exact hlen)
  rw [lg_entry_eq]
  have G := body p e s m av.toArray below meth c ρ α ws ⟨B.exec, B.bytes, hml, findClass_of_methodNamed B.named, fun w hw => hts w (List.mem_cons_of_mem _ hw), hK, hX, fun z hz => Or.inr hz, hd1, by show 60 ≤ 60 * _; omega, hZ, hcx⟩ B.notSynchronized B.returns (vx_table (x := q.1) B (hts _ List.mem_cons_self)) hE.1 hα.1
  exact G ρ α _ _ [] ws s.heap [] ⟨hE, ⟨hα, List.prefix_refl _, List.prefix_refl _⟩, hl, eargs_ok 0 hav, trivial, hh', hP, hD, va_S.rf⟩
def xst (nc ns hpc : Nat) (S : eSt) : eSt := (S.1, S.2.1, [.inr (.inr (some S.2.2.2.2.1.1))], S.2.2.2.1, (S.2.2.2.2.1.1 + 1, S.2.2.2.2.1.2), nc, ns, hpc)
/-- the states behind a call that may throw -/
def callX (Rf Rl Rc Rs : Nat) (K : eK) (CT : List eCut) (an : eAn) (hpc : Nat) (ar st : List eSV) (env : eEv) (lo : List (Nat × eSV)) (hp : eHp) (na : eNa) (nc ns pc : Nat) : Option (List eSt) := bif cok8 st && Nat.ble (K.2.2.2.2.2 + 1) Rf && Nat.ble (60 * (K.2.2.2.2.2 + 1)) Rl && Nat.ble (nc + K.2.2.2.1) Rc && Nat.ble (ns + K.2.2.2.2.1) Rs && mtE env na.2 an.2.1 K.2.1.1 && mtA na.1 an.2.2.1 && Nat.beq an.2.2.1.length K.2.1.2.2.2.1 && fmt env na.2 an.2.1 an.2.2.2 K.2.1.2.2.2.2 && vsmt an.2.1 an.2.2.1 ar.reverse K.2.1.2.1 then (match hmt env an.2.1 an.2.2.1 hp K.2.1.2.2.1 with
      | some ks => bif ndq ks then (match instL env lo st hp na (nc + K.2.2.2.1) (ns + K.2.2.2.2.1) (pc + 3) an.2.1 an.2.2.1 ks K.2.2.1, instL env lo [] hp na (nc + K.2.2.2.1) (ns + K.2.2.2.2.1) hpc an.2.1 an.2.2.1 ks (CT.map xpo) with
        | some L1, some L2 => some (L1 ++ L2.map (xst (nc + K.2.2.2.1) (ns + K.2.2.2.2.1) hpc))
        | _, _ => none) else none
      | none => none) else none
theorem callX_ok {Rf Rl Rc Rs : Nat} {K : eK} {CT : List eCut} {an : eAn} {hpc : Nat} {ar st : List eSV} {env : eEv} {lo : List (Nat × eSV)} {hp : eHp} {na : eNa} {nc ns pc : Nat} {L : List eSt} (h : callX Rf Rl Rc Rs K CT an hpc ar st env lo hp na nc ns pc = some L) : ∃ ks, (st.map ecat).sum ≤ 8 ∧ K.2.2.2.2.2 + 1 ≤ Rf ∧ 60 * (K.2.2.2.2.2 + 1) ≤ Rl ∧ nc + K.2.2.2.1 ≤ Rc ∧ ns + K.2.2.2.2.1 ≤ Rs ∧ mtE env na.2 an.2.1 K.2.1.1 = true ∧ mtA na.1 an.2.2.1 = true ∧ an.2.2.1.length = K.2.1.2.2.2.1 ∧ fmt env na.2 an.2.1 an.2.2.2 K.2.1.2.2.2.2 = true ∧ vsmt an.2.1 an.2.2.1 ar.reverse K.2.1.2.1 = true ∧ hmt env an.2.1 an.2.2.1 hp K.2.1.2.2.1 = some ks ∧ va_nd ks = true ∧
    (∀ P ∈ K.2.2.1, ∃ r, inst env hp na an.2.1 an.2.2.1 ks P = some r ∧ ∀ S, r = some S → (S.1, lo, S.2.1 ++ st, S.2.2.1, S.2.2.2, nc + K.2.2.2.1, ns + K.2.2.2.2.1, pc + 3) ∈ L) ∧
    (∀ T ∈ CT, ∃ r, inst env hp na an.2.1 an.2.2.1 ks (xpo T) = some r ∧ ∀ S, r = some S → (S.1, lo, [.inr (.inr (some S.2.2.2.1))], S.2.2.1, (S.2.2.2.1 + 1, S.2.2.2.2), nc + K.2.2.2.1, ns + K.2.2.2.2.1, hpc) ∈ L) := by
  unfold callX at h
  cases hb : cok8 st && Nat.ble (K.2.2.2.2.2 + 1) Rf && Nat.ble (60 * (K.2.2.2.2.2 + 1)) Rl && Nat.ble (nc + K.2.2.2.1) Rc && Nat.ble (ns + K.2.2.2.2.1) Rs && mtE env na.2 an.2.1 K.2.1.1 && mtA na.1 an.2.2.1 && Nat.beq an.2.2.1.length K.2.1.2.2.2.1 && fmt env na.2 an.2.1 an.2.2.2 K.2.1.2.2.2.2 && vsmt an.2.1 an.2.2.1 ar.reverse K.2.1.2.1
  · rw [hb] at h; cases h
  · rw [hb] at h
    simp only [Bool.and_eq_true] at hb
    obtain ⟨⟨⟨⟨⟨⟨⟨⟨⟨b2, b3⟩, b4⟩, b5⟩, b6⟩, b7⟩, b8⟩, b9⟩, bf⟩, b10⟩ := hb
    dsimp only [cond_true] at h
    split at h
    · rename_i ks hks
      cases hv : ndq ks
      · rw [hv] at h; cases h
      · rw [hv] at h
        dsimp only [cond_true] at h
        split at h
        · rename_i L1 L2 h1 h2
          cases h
          refine ⟨ks, Nat.le_of_ble_eq_true b2, Nat.le_of_ble_eq_true b3, Nat.le_of_ble_eq_true b4, Nat.le_of_ble_eq_true b5, Nat.le_of_ble_eq_true b6, b7, b8, Nat.eq_of_beq_eq_true b9, bf, b10, hks, ndq_ok hv, fun P hP => ?_, fun T hT => ?_⟩
          · obtain ⟨r, r1, r2⟩ := instL_ok h1 P hP
            exact ⟨r, r1, fun S hS => List.mem_append_left _ (r2 S hS)⟩
          · obtain ⟨r, r1, r2⟩ := instL_ok h2 (xpo T) (List.mem_map.mpr ⟨T, hT, rfl⟩)
            exact ⟨r, r1, fun S hS => List.mem_append_right _ (List.mem_map.mpr ⟨_, r2 S hS, rfl⟩)⟩
        · cases h
    · cases h
theorem K_goW {l : Launch} {D : va_G} {ca : Nat → ClassId} {K KX : eK} {CX : List eCut} {q : MethodName × ByteArray × Nat × Option FieldType} {x : Nat × Nat × Nat × Nat} {C : eCode} {T : eCut} {idx n i : Nat} {n1 n2 : Nat} {an1 an2 : List eAn} {a : eAn} {L : List eSt} {as' st' : List eSV} {k : Nat} {fs : List eSV}
    (hpn : plainName q.1.cls = true) (hlen : (K.2.1.2.1.map ecat).sum ≤ q.2.2.1) (hd1 : 1 ≤ K.2.2.2.2.2) (hC : codOk q.1.cls q.2.1 C) (hKX : KXMet l D ca KX CX) (hX1 : KX.1 < 376) (hXc : (mq KX.1).1.cls = "DrownedRooms") (hXl : (mq KX.1).2.2.1 ≤ 40) (hret : q.2.2.2 = some .int)
    (hrun1 : (run false q.2.2.1 K.2.2.2.2.2 (60 * K.2.2.2.2.2) K.2.2.2.1 K.2.2.2.2.1 C [] [T] [Nat.pow 2 T.1] K.2.1.1.1 K.2.1.2.2.2.1 none (rB K q.2.2.2) n1 an1 (S0 K)).isSome = true)
    (hd : decode q.2.1 T.1 = .ok (.invokevirtual idx, 3)) (hw1 : Cond.methodLink q.1.cls idx (mq KX.1).1 ∈ gtbl) (hw2 : Cond.instanceMethod (mq KX.1).1 ∈ gtbl) (hw3 : Cond.selects (mq KX.1).1.cls (mq KX.1).1 (mq KX.1).1 ∈ gtbl) (hw4 : Cond.initialized (mq KX.1).1.cls ∈ gtbl) (hw5 : Cond.classLink q.1.cls x.2.2.2 exN ∈ gtbl) (hmd : mdOk (mq KX.1).1 n)
    (hst : T.2.2.2.1 = as' ++ .inr (.inr (some i)) :: st') (hn : as'.length = n) (hf : hfd i T.2.2.2.2.1 0 = some (k, .inl (12, fs))) (hcov : covers ⟨x.1, x.2.1, x.2.2.1, x.2.2.2⟩ T.1 = true) (hct : x.2.2.2 ≠ 0)
    (hcall : callX K.2.2.2.2.2 (60 * K.2.2.2.2.2) K.2.2.2.1 K.2.2.2.2.1 KX CX a x.2.2.1 (as' ++ [.inr (.inr (some i))]) st' T.2.1 T.2.2.1 T.2.2.2.2.1 T.2.2.2.2.2.1 T.2.2.2.2.2.2.1 T.2.2.2.2.2.2.2.1 T.1 = some L)
    (hrun2 : (runL (run false q.2.2.1 K.2.2.2.2.2 (60 * K.2.2.2.2.2) K.2.2.2.1 K.2.2.2.2.1 C [] [] [] 0 0 none (rB K q.2.2.2) n2) an2 L).isSome = true) : KWMet l D ca K q [x] := by
  refine mk_KW hpn hlen hd1 (fun p e s m args below meth c ρ α ws X hlk hrt hxt hρ hα => ?_)
  have hI : false = true → meth.name = "<init>" := fun z => by cases z
  obtain ⟨an1', hr1⟩ := Option.isSome_iff_exists.mp hrun1
  obtain ⟨an2', hr2⟩ := Option.isSome_iff_exists.mp hrun2
  have hret1 : ∀ (a : eAn) (env : eEv) (lo : List (Nat × eSV)) (hp : eHp) (na : eNa) (nc ns pc : Nat) (f : eLF), decode q.2.1 pc = .ok (.ireturn, 1) → rB K q.2.2.2 a (env, lo, [.inl f], hp, na, nc, ns, pc) (some (.inl f)) = true → eG p l e (rmK K) s m args below meth c (MQ below (QK D ca K ρ α ws s.heap.size) args s K.2.2.2.1 K.2.2.2.2.1 (va_A ws s.heap.size)) D ca (va_A ws s.heap.size) q.2.2.1 0 0 ρ α env lo [.inl f] hp na nc ns pc := by
    intro a env lo hp na nc ns pc f hd hb
    unfold rB at hb
    rw [Bool.and_eq_true, Bool.and_eq_true, Bool.and_eq_true] at hb
    obtain ⟨⟨⟨b1, b2⟩, b3⟩, b4⟩ := hb
    obtain ⟨rt, e1, e2⟩ : ∃ rt, q.2.2.2 = some rt ∧ pok rt env (.inl f) = true := by
      generalize q.2.2.2 = o at b4
      cases o
      · cases b4
      · exact ⟨_, rfl, b4⟩
    exact g_iret X rfl rfl hlk (hrt.trans e1) (List.prefix_refl _) (List.prefix_refl _) hρ hα hd e2 (by rw [Nat.zero_add]; exact Nat.le_of_ble_eq_true b2) (by rw [Nat.zero_add]; exact Nat.le_of_ble_eq_true b3) b1
  have hret0 : ∀ (a : eAn) (env : eEv) (lo : List (Nat × eSV)) (hp : eHp) (na : eNa) (nc ns pc : Nat), decode q.2.1 pc = .ok (.return_, 1) → rB K q.2.2.2 a (env, lo, [], hp, na, nc, ns, pc) none = true → eG p l e (rmK K) s m args below meth c (MQ below (QK D ca K ρ α ws s.heap.size) args s K.2.2.2.1 K.2.2.2.2.1 (va_A ws s.heap.size)) D ca (va_A ws s.heap.size) q.2.2.1 0 0 ρ α env lo [] hp na nc ns pc := by
    intro a env lo hp na nc ns pc hd hb
    rw [hret] at hb
    unfold rB at hb
    rw [Bool.and_eq_true] at hb
    cases hb.2
  have hret2 : (∀ (a : eAn) (env : eEv) (lo : List (Nat × eSV)) (hp : eHp) (na : eNa) (nc ns pc : Nat) (f : eLF), decode q.2.1 pc = .ok (.lreturn, 1) → rB K q.2.2.2 a (env, lo, [.inr (.inl f)], hp, na, nc, ns, pc) (some (.inr (.inl f))) = true → eG p l e (rmK K) s m args below meth c (MQ below (QK D ca K ρ α ws s.heap.size) args s K.2.2.2.1 K.2.2.2.2.1 (va_A ws s.heap.size)) D ca (va_A ws s.heap.size) q.2.2.1 0 0 ρ α env lo [.inr (.inl f)] hp na nc ns pc) ∧ (∀ (a : eAn) (env : eEv) (lo : List (Nat × eSV)) (hp : eHp) (na : eNa) (nc ns pc : Nat) (i : Nat), decode q.2.1 pc = .ok (.areturn, 1) → rB K q.2.2.2 a (env, lo, [.inr (.inr (some i))], hp, na, nc, ns, pc) (some (.inr (.inr (some i)))) = true → eG p l e (rmK K) s m args below meth c (MQ below (QK D ca K ρ α ws s.heap.size) args s K.2.2.2.1 K.2.2.2.2.1 (va_A ws s.heap.size)) D ca (va_A ws s.heap.size) q.2.2.1 0 0 ρ α env lo [.inr (.inr (some i))] hp na nc ns pc) := by
    refine ⟨?_, ?_⟩
    · intro a env lo hp na nc ns pc f hd hb
      rw [hret] at hb
      unfold rB at hb
      rw [Bool.and_eq_true] at hb
      cases hb.2
    · intro a env lo hp na nc ns pc i hd hb
      rw [hret] at hb
      unfold rB at hb
      rw [Bool.and_eq_true] at hb
      cases hb.2
  have hKS0 : ∀ K' ∈ ([] : List eK), KMet l D ca K' := fun _ h => by cases h
  have hgo : ∀ S ∈ L, GS p l e (rmK K) s m args below meth c (MQ below (QK D ca K ρ α ws s.heap.size) args s K.2.2.2.1 K.2.2.2.2.1 (va_A ws s.heap.size)) D ca (va_A ws s.heap.size) q.2.2.1 0 0 ρ α S := by
    intro S hS
    obtain ⟨b, b', hb⟩ := runL_ok hr2 S hS
    exact run_ok X hlib hI (Nat.le_refl _) (Nat.le_refl _) (by rw [Nat.zero_add]; exact Nat.le_refl _) (by rw [Nat.zero_add]; exact Nat.le_refl _) hC hKS0 hret0 hret1 hret2 (fun a S hc => by cases hc) n2 b b' S hb
  refine run_ok (S := S0 K) X hlib hI (Nat.le_refl _) (Nat.le_refl _) (by rw [Nat.zero_add]; exact Nat.le_refl _) (by rw [Nat.zero_add]; exact Nat.le_refl _) hC hKS0 hret0 hret1 hret2 (fun a' S hc => ?_) n1 an1 an1' hr1
  refine cut_ok (List.prefix_refl _) (List.prefix_refl _) hρ hα (fun μ hμ => by cases hμ) hc (fun T' hT ρ1 α1 ls lvl stk ws1 H locs hh _ => ?_)
  rcases List.mem_cons.mp hT with rfl | hT
  · obtain ⟨ks, c1, c2, c3, c4, c5, c6, c7, c8, cf, c9, c10, c11, c12, c13⟩ := callX_ok hcall
    have hcast := exL_at X.2.2.2.2.1 X.2.2.2.2.2.2.1 (Cond.castable exN exN) (by decide +kernel)
    have G := g_callVX (e := e) (below := below) (meth := meth) (cb := 0) (sb := 0) (nc := T'.2.2.2.2.2.2.1) (ns := T'.2.2.2.2.2.2.2.1) (r0 := ρ) (a0 := α) (Q := MQ below (QK D ca K ρ α ws s.heap.size) args s K.2.2.2.1 K.2.2.2.2.1 (va_A ws s.heap.size)) X hKX (mq_ok hX1) hd (show vwCl[12]? = some (RX11, TX11, 16) from rfl) (by rw [hXc]; rfl) hf hw1 hw2 hw3 hw4 hmd hn c1
      ⟨by show _ ≤ K.2.2.2.2.2; omega, by show _ ≤ 60 * K.2.2.2.2.2; omega⟩ ⟨by show _ ≤ K.2.2.2.1; omega, by show _ ≤ K.2.2.2.2.1; omega⟩ c6 c7 c8 c9 c10 c11 cf (x := ⟨x.1, x.2.1, x.2.2.1, x.2.2.2⟩) hxt hcov hct rfl (X.2.2.2.2.1 _ hw5) hcast
      (fun P hP => by
        obtain ⟨r, r1, r2⟩ := c12 P hP
        exact ⟨r, r1, fun S hS => hgo _ (r2 S hS)⟩)
      (fun T1 hT1 => by
        obtain ⟨r, r1, r2⟩ := c13 T1 hT1
        exact ⟨r, r1, fun S hS => hgo _ (r2 S hS)⟩)
    rw [← hst] at G
    exact G ρ1 α1 ls lvl stk ws1 H locs hh
  · cases hT
end
