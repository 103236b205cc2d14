noncomputable section
/-! contracts of methods that throw: the templates of their throws are their posts -/
def XCK (D : va_G) (ca : Nat → ClassId) (CT : List eCut) (ρ : List Int) (α : List Nat) (ws : va_W) (sz : Nat) : String → State → State → Prop := fun E st t => E = exN ∧
  (∃ T ∈ CT, ∃ (σ : List Int) (β : List Nat) (ws' : va_W), eOk T.2.1 (ρ ++ σ) ∧ nOk T.2.2.2.2.2.1 (ρ ++ σ) (α ++ β) ∧ R2 (hrel ca (ρ ++ σ) (α ++ β)) T.2.2.2.2.1 ws' ∧ va_P D vwCl ws' t.heap ∧ va_D (va_A ws sz) ws') ∧ va_F (va_A ws sz) st t
def KXMet (l : Launch) (D : va_G) (ca : Nat → ClassId) (K : eK) (CT : List eCut) : Prop := ∀ (q : MethodName × ByteArray × Nat × Option FieldType), mtab[K.1]? = some q → ∀ (ρ : List Int) (α : List Nat) (ws : va_W) (sz : Nat) (av : List Value), eOk K.2.1.1 ρ → nOk K.2.1.2.2.2 ρ α → R2 (vok ρ α) K.2.1.2.1 av → R2 (hrel ca ρ α) K.2.1.2.2.1 ws → va_D (fun _ => True) ws → cpx ca α →
  vx_Met l q.1 (.code q.1 q.2.1 q.2.2.1 q.2.2.2 :: gtbl) (rmK K) (PcK D ca av ws sz) (QK D ca K ρ α ws sz) (XCK D ca CT ρ α ws sz) K.2.2.2.1 K.2.2.2.2.1 (va_A ws sz)
theorem mk_KX {l : Launch} {D : va_G} {ca : Nat → ClassId} {K : eK} {CT : List eCut} {q : MethodName × ByteArray × Nat × Option FieldType} (hq : mtab[K.1]? = some q) (hpn : plainName q.1.cls = true) (hlen : (K.2.1.2.1.map ecat).sum ≤ q.2.2.1) (hd1 : 1 ≤ K.2.2.2.2.2)
    (body : ∀ (p : Program) (e : Env) (s : State) (m : MethodId) (args : Array Value) (below : List Frame) (meth : Method) (c : Code) (ρ : List Int) (α : List Nat) (ws : va_W), eCx p (rmK K) s m args c D ca (va_A ws s.heap.size) q.2.2.1 q.1.cls q.2.1 α → meth.name = q.1.name → meth.locks = false → meth.sig.returnType = q.2.2.2 → (∀ x ∈ c.exceptionTable.toList, False) → ρ.length = K.2.1.1.1 → α.length = K.2.1.2.2.2.1 →
      eG p l e (rmK K) s m args below meth c (vx_MQ below (QK D ca K ρ α ws s.heap.size) (XCK D ca CT ρ α ws s.heap.size) args s K.2.2.2.1 K.2.2.2.2.1 (va_A ws s.heap.size)) D ca (va_A ws s.heap.size) q.2.2.1 0 0 ρ α K.2.1.1 (eargs 0 K.2.1.2.1) [] K.2.1.2.2.1 K.2.1.2.2.2 0 0 0) : KXMet l D ca K CT := by
  intro q' hq' ρ α ws sz av hE hα hav hh hD0 hcx
  rw [hq] at hq'
  cases hq'
  refine vx_ofW (cc := q.2.1) (maxL := q.2.2.1) (ret := q.2.2.2) hpn rfl ?_
  intro p e s m args below meth c s₁ B hml ht hv
  obtain ⟨rfl, hsz, hP, hK, hX, hZ⟩ := hv
  subst hsz
  have hts := atoms_spec (ws := .code q.1 q.2.1 q.2.2.1 q.2.2.2 :: gtbl) B.pre
  have hD := hD0.self (sz := s.heap.size)
  have hl := lv_entry av (n := q.2.2.1) (by rw [sl_len, sum_cat hav]; exact hlen)
  rw [lg_entry_eq]
  have G := body p e s m av.toArray below meth c ρ α ws ⟨B.exec, B.bytes, hml, findClass_of_methodNamed B.named, fun w hw => hts w (List.mem_cons_of_mem _ hw), hK, hX, fun z hz => Or.inr hz, hd1, by show 60 ≤ 60 * _; omega, hZ, hcx⟩ (name_of_methodNamed B.named B.method).1 B.notSynchronized B.returns ht hE.1 hα.1
  exact G ρ α _ _ [] ws s.heap [] ⟨hE, ⟨hα, List.prefix_refl _, List.prefix_refl _⟩, hl, eargs_ok 0 hav, trivial, hh, hP, hD, va_S.rf⟩
/-- a place where 'throw new NoSuchElementException(text)' stands -/
def siteB (cc : ByteArray) (pc : Nat) (r : String × Nat × String) : Bool := decide (r.1 = "DrownedRooms") && decide (decode cc pc = .ok (.new 147, 3)) && decide (decode cc (pc + 3) = .ok (.dup, 1)) && decide (decode cc (pc + 4) = .ok (.ldc r.2.1, 2)) && decide (decode cc (pc + 6) = .ok (.invokespecial 151, 3)) && decide (decode cc (pc + 9) = .ok (.athrow, 1))
def siteK (K : eK) (cc : ByteArray) (T : eCut) : Bool := stR.any (siteB cc T.1) && T.2.2.2.1.isEmpty && Nat.ble (T.2.2.2.2.2.2.1 + 1) K.2.2.2.1 && Nat.ble (T.2.2.2.2.2.2.2.1 + 6) K.2.2.2.2.1
theorem K_ofX {l : Launch} {D : va_G} {ca : Nat → ClassId} (hl : libW) (hst : l.stackTraces = false) {K : eK} {q : MethodName × ByteArray × Nat × Option FieldType} (hq : mtab[K.1]? = some q) (hpn : plainName q.1.cls = true) (hcl : q.1.cls = "DrownedRooms") (hlen : (K.2.1.2.1.map ecat).sum ≤ q.2.2.1) (hd1 : 6 ≤ K.2.2.2.2.2) {C : eCode} (hC : codOk q.1.cls q.2.1 C) {KS : List eK} (hKS : ∀ K' ∈ KS, KMet l D ca K') {CT : List eCut} (hCT : CT.all (siteK K q.2.1) = true) {FL : List Nat} {n : Nat} {an an' : List eAn}
    (hrun : run false q.2.2.1 K.2.2.2.2.2 (60 * K.2.2.2.2.2) K.2.2.2.1 K.2.2.2.2.1 C KS CT FL K.2.1.1.1 K.2.1.2.2.2.1 none (rB K q.2.2.2) n an (S0 K) = some an') : KXMet l D ca K CT := by
  refine mk_KX hq hpn hlen (by omega) (fun p e s m args below meth c ρ α ws X hnm hlk hrt hxt hρ hα => ?_)
  have hI : false = true → meth.name = "<init>" := fun z => by cases z
  refine run_ok (S := S0 K) X hl hI (Nat.le_refl _) (Nat.le_refl _) (by rw [Nat.zero_add]; exact Nat.le_refl _) (by rw [Nat.zero_add]; exact Nat.le_refl _) hC hKS ?_ ?_ ?_ (fun a S hc => ?_) n an an' hrun
  · intro a env lo hp na nc ns pc hd hb
    unfold rB at hb
    rw [Bool.and_eq_true, Bool.and_eq_true, Bool.and_eq_true] at hb
    obtain ⟨⟨⟨b1, b2⟩, b3⟩, b4⟩ := hb
    have hr : meth.sig.returnType = none := by
      rw [hrt]
      generalize q.2.2.2 = o at b4
      cases o
      · rfl
      · cases b4
    intro ρ1 α1 ls lvl stk ws1 H locs hh
    exact vx_ret (g_ret X rfl rfl hlk hr (List.prefix_refl _) (List.prefix_refl _) hρ hα hd (by rw [Nat.zero_add]; exact Nat.le_of_ble_eq_true b2) (by rw [Nat.zero_add]; exact Nat.le_of_ble_eq_true b3) b1 ρ1 α1 ls lvl stk ws1 H locs hh)
  · intro a env lo hp na nc ns pc f hd hb
    unfold rB at hb
    rw [Bool.and_eq_true, Bool.and_eq_true, Bool.and_eq_true] at hb
    obtain ⟨⟨⟨b1, b2⟩, b3⟩, b4⟩ := hb
    obtain ⟨rt, e1, e2⟩ : ∃ rt, q.2.2.2 = some rt ∧ pok rt env (.inl f) = true := by
      generalize q.2.2.2 = o at b4
      cases o
      · cases b4
      · exact ⟨_, rfl, b4⟩
    intro ρ1 α1 ls lvl stk ws1 H locs hh
    exact vx_ret (g_iret X rfl rfl hlk (hrt.trans e1) (List.prefix_refl _) (List.prefix_refl _) hρ hα hd e2 (by rw [Nat.zero_add]; exact Nat.le_of_ble_eq_true b2) (by rw [Nat.zero_add]; exact Nat.le_of_ble_eq_true b3) b1 ρ1 α1 ls lvl stk ws1 H locs hh)
  · refine ⟨?_, ?_⟩
    · intro a env lo hp na nc ns pc f hd hb
      unfold rB at hb
      rw [Bool.and_eq_true, Bool.and_eq_true, Bool.and_eq_true] at hb
      obtain ⟨⟨⟨b1, b2⟩, b3⟩, b4⟩ := hb
      have hr : meth.sig.returnType = some .long := by
        rw [hrt]
        generalize q.2.2.2 = o at b4
        cases o with
        | none => cases b4
        | some t => cases t <;> first | rfl | (cases b4; done)
      intro ρ1 α1 ls lvl stk ws1 H locs hh
      exact vx_ret (g_lret X rfl rfl hlk hr (List.prefix_refl _) (List.prefix_refl _) hρ hα hd (by rw [Nat.zero_add]; exact Nat.le_of_ble_eq_true b2) (by rw [Nat.zero_add]; exact Nat.le_of_ble_eq_true b3) b1 ρ1 α1 ls lvl stk ws1 H locs hh)
    · intro a env lo hp na nc ns pc i hd hb
      unfold rB at hb
      rw [Bool.and_eq_true, Bool.and_eq_true, Bool.and_eq_true] at hb
      obtain ⟨⟨⟨b1, b2⟩, b3⟩, b4⟩ := hb
      obtain ⟨rt, e1, e2⟩ : ∃ rt, q.2.2.2 = some rt ∧ ((∃ n, rt = .object n) ∨ ∃ t, rt = .array t) := by
        generalize q.2.2.2 = o at b4
        cases o with
        | none => cases b4
        | some t => cases t <;> first | (cases b4; done) | exact ⟨_, rfl, Or.inl ⟨_, rfl⟩⟩ | exact ⟨_, rfl, Or.inr ⟨_, rfl⟩⟩
      intro ρ1 α1 ls lvl stk ws1 H locs hh
      exact vx_ret (g_aret X rfl rfl hlk (hrt.trans e1) e2 (List.prefix_refl _) (List.prefix_refl _) hρ hα hd (by rw [Nat.zero_add]; exact Nat.le_of_ble_eq_true b2) (by rw [Nat.zero_add]; exact Nat.le_of_ble_eq_true b3) b1 ρ1 α1 ls lvl stk ws1 H locs hh)
  · refine cut_ok (List.prefix_refl _) (List.prefix_refl _) hρ hα (fun μ hμ => by cases hμ) hc (fun T hT ρ1 α1 ls lvl stk ws1 H locs hh _ => ?_)
    have hs := List.all_eq_true.mp hCT T hT
    unfold siteK at hs
    simp only [Bool.and_eq_true] at hs
    obtain ⟨⟨⟨s1, s2⟩, s3⟩, s4⟩ := hs
    obtain ⟨r, hr, s5⟩ := List.any_eq_true.mp s1
    unfold siteB at s5
    simp only [Bool.and_eq_true, decide_eq_true_eq] at s5
    obtain ⟨⟨⟨⟨⟨t0, t1⟩, t2⟩, t3⟩, t4⟩, t5⟩ := s5
    obtain ⟨h1, h2, h3, h4, h5, h6, hP, hD, hS⟩ := hh
    have hstk : stk = [] := by
      rw [List.isEmpty_iff.mp s2] at h5
      exact R2.nil_inv h5
    subst hstk
    have hZ := X.2.2.2.2.2.2.2.2.2.2.1.1
    obtain ⟨sa, hsa⟩ := hZ.2.2 r hr
    rw [t0] at hsa
    have b3 := Nat.le_of_ble_eq_true s3
    have b4 := Nat.le_of_ble_eq_true s4
    obtain ⟨σ, hσ⟩ := h2.2.1
    obtain ⟨β, hβ⟩ := h2.2.2
    refine cx_throw X.1 X.2.1 hst (by rw [← hcl]; exact X.2.2.2.1) (exL_at X.2.2.2.2.1 X.2.2.2.2.2.2.1) hsa hZ.2.1.1 hZ.2.1.2 hS (by rw [X.2.2.1]; exact h3.1) t1 t2 t3 t4 t5 hxt ?_ ?_ ?_ ?_ hlk ?_ hS.2.2 ?_ ?_
    · show 5 < K.2.2.2.2.2; omega
    · show 0 + 82 ≤ 60 * K.2.2.2.2.2; omega
    · show 0 + _ + 1 ≤ K.2.2.2.1; omega
    · show 0 + _ + 6 ≤ K.2.2.2.2.1; omega
    · intro t ht0 ht1 ht2
      refine ⟨rfl, ⟨T, hT, σ, β, ws1, by rw [hσ]; exact h1, by rw [hσ, hβ]; exact h2.1, by rw [hσ, hβ]; exact h6, hP.kept (fun k z hz => ht2 _ (vx_lt hP hz)), hD⟩, Nat.le_trans hS.1 ht1, fun z z1 z2 => ?_⟩
      rw [ht2 z (Nat.lt_of_lt_of_le z1 hS.1)]
      exact hS.2.1 z z1 z2
    · omega
    · omega
theorem K_goX {l : Launch} {D : va_G} {ca : Nat → ClassId} (hst : l.stackTraces = false) {K : eK} {C : eCode} {KS : List eK} {CT : List eCut} {FL : List Nat} {n : Nat} {an : List eAn} (hp : preB K false (mq K.1) = true) (hcl : (mq K.1).1.cls = "DrownedRooms") (hd : 6 ≤ K.2.2.2.2.2) (hC : codOk (mq K.1).1.cls (mq K.1).2.1 C) (hKS : ∀ K' ∈ KS, KMet l D ca K') (hCT : CT.all (siteK K (mq K.1).2.1) = true)
    (hrun : (run false (mq K.1).2.2.1 K.2.2.2.2.2 (60 * K.2.2.2.2.2) K.2.2.2.1 K.2.2.2.2.1 C KS CT FL K.2.1.1.1 K.2.1.2.2.2.1 none (rB K (mq K.1).2.2.2) n an (S0 K)).isSome = true) : KXMet l D ca K CT := by
  unfold preB at hp
  simp only [Bool.and_eq_true] at hp
  obtain ⟨⟨⟨⟨p1, p2⟩, p3⟩, p4⟩, p5⟩ := hp
  obtain ⟨an', h⟩ := Option.isSome_iff_exists.mp hrun
  exact K_ofX hlib hst (mq_ok (blt_t p1)) p2 hcl (Nat.le_of_ble_eq_true p3) hd hC hKS hCT h
end
