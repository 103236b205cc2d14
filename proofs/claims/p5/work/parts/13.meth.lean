noncomputable section
/-! calls by their kinds; a method's end; a contract out of a walk -/
def mdOk (y : MethodName) (n : Nat) : Prop := y.cls ≠ "java/lang/invoke/MethodHandle" ∧ y.cls ≠ "java/lang/invoke/VarHandle" ∧ (parseMethodDescriptor y.desc).map (fun d => d.parameters.length) = some n
section
variable {p : Program} {l : Launch} {e : Env} {R : Room} {s : State} {m : MethodId} {args : Array Value} {below : List Frame} {meth : Method} {c : Code} {Q : State → Prop} {D : va_G} {ca : Nat → ClassId} {A : Nat → Prop} {nL cb sb : Nat} {r0 : List Int} {a0 : List Nat} {own : String} {cc : ByteArray} {env : eEv} {lo : List (Nat × eSV)} {st : List eSV} {hp : eHp} {na : eNa} {nc ns pc : Nat}
theorem pre_ok (X : eCx p R s m args c D ca A nL own cc a0) {av : List Value} {wc : va_W} {H : Heap} {locs : List Loc} (hPc : va_P D vwCl wc H) (hS : va_S A s.heap H locs) (hFc : ∀ q, va_A wc H.size q → A q) (U : State) (hU : U.heap = H) (hW : s.WarmedH U.vm) : PcK D ca av wc H.size av.toArray U :=
  ⟨rfl, by rw [hU], by rw [hU]; exact hPc, va_K.moved hW.alike X.2.2.2.2.2.1, XW.warm hW X.2.2.2.2.2.2.1, by rw [hU]; exact ZW.warm hW ((X.2.2.2.2.2.2.2.2.2.2.1.kept hS.2.1).narrow hFc)⟩
theorem g_callV (X : eCx p R s m args c D ca A nL own cc a0) {K : eK} {q : MethodName × ByteArray × Nat × Option FieldType} {idx i k ci n : Nat} {qc : vw_C} {fs : List eSV} {as' : List eSV} {τ : List eTi} {θ ks : List Nat} (hK : KMet l D ca K) (hq : mtab[K.1]? = some q) (hd : decode cc pc = .ok (.invokevirtual idx, 3))
    (hc : vwCl[ci]? = some qc) (hcn : q.1.cls = qc.1) (hf : hfd i hp 0 = some (k, .inl (ci, fs))) (hw1 : Cond.methodLink own idx q.1 ∈ gtbl) (hw2 : Cond.instanceMethod q.1 ∈ gtbl) (hw3 : Cond.selects q.1.cls q.1 q.1 ∈ gtbl) (hw4 : Cond.initialized q.1.cls ∈ gtbl) (hmd : mdOk q.1 n) (hn : as'.length = n) (hst : (st.map ecat).sum ≤ 8)
    (hR : K.2.2.2.2.2 + 1 ≤ R.frames ∧ 8 + (q.2.2.1 + 11) + 60 * K.2.2.2.2.2 ≤ R.locals) (hC : cb + nc + K.2.2.2.1 ≤ R.cells ∧ sb + ns + K.2.2.2.2.1 ≤ R.slots)
    (hm1 : mtE env na.2 τ K.2.1.1 = true) (hm2 : mtA na.1 θ = true) (hm3 : θ.length = K.2.1.2.2.2.1) (hm4 : vsmt τ θ (as' ++ [(Sum.inr (Sum.inr (some i)) : eSV)]).reverse K.2.1.2.1 = true) (hm5 : hmt env τ θ hp K.2.1.2.2.1 = some ks) (hm6 : va_nd ks = true) {hs : List (List Nat)} (hm7 : fmt env na.2 τ hs K.2.1.2.2.2.2 = true)
    (kk : ∀ P ∈ K.2.2.1, ∃ r, inst env hp na τ θ ks P = some r ∧ ∀ S, r = some S → eG p l e R s m args below meth c Q D ca A nL cb sb r0 a0 S.1 lo (S.2.1 ++ st) S.2.2.1 S.2.2.2 (nc + K.2.2.2.1) (ns + K.2.2.2.2.1) (pc + 3)) : eG p l e R s m args below meth c Q D ca A nL cb sb r0 a0 env lo (as' ++ .inr (.inr (some i)) :: st) hp na nc ns pc := by
  have e0 : as' ++ (Sum.inr (Sum.inr (some i)) : eSV) :: st = (as' ++ [(Sum.inr (Sum.inr (some i)) : eSV)]) ++ st := by simp
  rw [e0]
  refine g_core X.2.2.2.2.2.2.2.1 X.2.2.2.2.2.2.2.2.2.2.2 hm1 hm2 hm3 hm4 hm5 hm6 hm7 (fun ρ ρT α αT ls lvl av rest ws wc H locs hrep hrest har hE ha hav hh hDc hPc hFc hcp => ?_) kk
  obtain ⟨x1, x2, e1, h1, h2⟩ := R2.appI har
  obtain ⟨b, t, rfl, ⟨b', hb1, rfl⟩, ht⟩ := R2.cons_inv h2
  rw [R2.nil_inv ht] at e1
  have e2 : av = .ref b' :: x1.reverse := by
    have := congrArg List.reverse e1
    simpa using this
  subst e2
  have hM := hK q hq ρT αT wc H.size _ hE ha hav hh hDc hcp
  obtain ⟨xx, hx1, vs, rfl, _⟩ := rep_cell hrep hf hb1
  have hG : GoodIn gtbl (wsV own idx qc.1 q.1 (.code q.1 q.2.1 q.2.2.1 q.2.2.2 :: gtbl)) := goodG (fun w hw => by
    rcases List.mem_append.mp hw with hw | hw
    · simp only [List.mem_cons, List.not_mem_nil, or_false] at hw
      rcases hw with rfl | rfl | rfl | rfl
      · exact hw1
      · exact hw2
      · rw [← hcn]; exact hw3
      · rw [← hcn]; exact hw4
    · rcases List.mem_cons.mp hw with rfl | hw
      · exact mtab_in hq
      · exact hw)
  refine va_runV (As := x1.reverse) (rest := rest) ⟨X.1, X.2.1, X.2.2.1, X.2.2.2.1, X.2.2.2.2.1⟩ hM (cwV n X.2.2.2.2.1 hG rfl rfl rfl ⟨hcn, hmd⟩ hR) ⟨PcK_blind, va_recv X.2.2.2.2.2.1 hrep.2.2.2.2.2.2.1 hc hx1, pre_ok X hPc hrep.2.2.2.2.2.2.2.2 hFc⟩ rfl ?_ hrep.2.2.1.1 ?_ ?_ hd hC
  · rw [List.length_reverse, ← R2.len h1, hn]
  · show (Value.ref b' :: x1.reverse).reverse ++ rest = x1.reverse.reverse ++ .ref b' :: rest
    simp
  · exact lv_room (by rw [sum_cat hrest]; exact hst)
theorem g_callU (X : eCx p R s m args c D ca A nL own cc a0) {K : eK} {q : MethodName × ByteArray × Nat × Option FieldType} {idx i k ci n : Nat} {qc : vw_C} {fs : List eSV} {as' : List eSV} {τ : List eTi} {θ ks : List Nat} (hK : KMet l D ca K) (hq : mtab[K.1]? = some q) (hd : decode cc pc = .ok (.invokevirtual idx, 3))
    (hc : vwCl[ci]? = some qc) (hf : hfd i hp 0 = some (k, .inl (ci, fs))) (hw1 : Cond.methodLink own idx q.1 ∈ gtbl) (hw2 : Cond.instanceMethod q.1 ∈ gtbl) (hw0 : Cond.sameMethod q.1.cls q.1.cls q.1.name q.1.desc ∈ gtbl) (hw3 : Cond.selects qc.1 q.1 q.1 ∈ gtbl) (hw4 : Cond.initialized q.1.cls ∈ gtbl) (hmd : mdOk q.1 n) (hn : as'.length = n) (hst : (st.map ecat).sum ≤ 8)
    (hR : K.2.2.2.2.2 + 1 ≤ R.frames ∧ 8 + (q.2.2.1 + 11) + 60 * K.2.2.2.2.2 ≤ R.locals) (hC : cb + nc + K.2.2.2.1 ≤ R.cells ∧ sb + ns + K.2.2.2.2.1 ≤ R.slots)
    (hm1 : mtE env na.2 τ K.2.1.1 = true) (hm2 : mtA na.1 θ = true) (hm3 : θ.length = K.2.1.2.2.2.1) (hm4 : vsmt τ θ (as' ++ [(Sum.inr (Sum.inr (some i)) : eSV)]).reverse K.2.1.2.1 = true) (hm5 : hmt env τ θ hp K.2.1.2.2.1 = some ks) (hm6 : va_nd ks = true) {hs : List (List Nat)} (hm7 : fmt env na.2 τ hs K.2.1.2.2.2.2 = true)
    (kk : ∀ P ∈ K.2.2.1, ∃ r, inst env hp na τ θ ks P = some r ∧ ∀ S, r = some S → eG p l e R s m args below meth c Q D ca A nL cb sb r0 a0 S.1 lo (S.2.1 ++ st) S.2.2.1 S.2.2.2 (nc + K.2.2.2.1) (ns + K.2.2.2.2.1) (pc + 3)) : eG p l e R s m args below meth c Q D ca A nL cb sb r0 a0 env lo (as' ++ .inr (.inr (some i)) :: st) hp na nc ns pc := by
  have e0 : as' ++ (Sum.inr (Sum.inr (some i)) : eSV) :: st = (as' ++ [(Sum.inr (Sum.inr (some i)) : eSV)]) ++ st := by simp
  rw [e0]
  refine g_core X.2.2.2.2.2.2.2.1 X.2.2.2.2.2.2.2.2.2.2.2 hm1 hm2 hm3 hm4 hm5 hm6 hm7 (fun ρ ρT α αT ls lvl av rest ws wc H locs hrep hrest har hE ha hav hh hDc hPc hFc hcp => ?_) kk
  obtain ⟨x1, x2, e1, h1, h2⟩ := R2.appI har
  obtain ⟨b, t, rfl, ⟨b', hb1, rfl⟩, ht⟩ := R2.cons_inv h2
  rw [R2.nil_inv ht] at e1
  have e2 : av = .ref b' :: x1.reverse := by
    have := congrArg List.reverse e1
    simpa using this
  subst e2
  have hM := hK q hq ρT αT wc H.size _ hE ha hav hh hDc hcp
  obtain ⟨xx, hx1, vs, rfl, _⟩ := rep_cell hrep hf hb1
  have hG : GoodIn gtbl (va_wsU own idx qc.1 q.1.cls q.1 q.1 (.code q.1 q.2.1 q.2.2.1 q.2.2.2 :: gtbl)) := goodG (fun w hw => by
    rcases List.mem_append.mp hw with hw | hw
    · simp only [List.mem_cons, List.not_mem_nil, or_false] at hw
      rcases hw with rfl | rfl | rfl | rfl | rfl
      · exact hw1
      · exact hw0
      · exact hw3
      · exact hw2
      · exact hw4
    · rcases List.mem_cons.mp hw with rfl | hw
      · exact mtab_in hq
      · exact hw)
  refine va_runU (As := x1.reverse) (rest := rest) ⟨X.1, X.2.1, X.2.2.1, X.2.2.2.1, X.2.2.2.2.1⟩ hM (va_cwU n X.2.2.2.2.1 hG rfl rfl rfl rfl hmd hR) ⟨PcK_blind, va_recv X.2.2.2.2.2.1 hrep.2.2.2.2.2.2.1 hc hx1, pre_ok X hPc hrep.2.2.2.2.2.2.2.2 hFc⟩ rfl ?_ hrep.2.2.1.1 ?_ ?_ hd hC
  · rw [List.length_reverse, ← R2.len h1, hn]
  · show (Value.ref b' :: x1.reverse).reverse ++ rest = x1.reverse.reverse ++ .ref b' :: rest
    simp
  · exact lv_room (by rw [sum_cat hrest]; exact hst)
theorem g_callSU (X : eCx p R s m args c D ca A nL own cc a0) {K : eK} {q : MethodName × ByteArray × Nat × Option FieldType} {idx i k ci n : Nat} {qc : vw_C} {fs : List eSV} {as' : List eSV} {τ : List eTi} {θ ks : List Nat} (hK : KMet l D ca K) (hq : mtab[K.1]? = some q) (hd : decode cc pc = .ok (.invokespecial idx, 3))
    (hc : vwCl[ci]? = some qc) (hno : q.1.name ≠ "<init>") (hf : hfd i hp 0 = some (k, .inl (ci, fs))) (hw1 : Cond.methodLink own idx q.1 ∈ gtbl) (hw2 : Cond.instanceMethod q.1 ∈ gtbl) (hw0 : Cond.sameMethod q.1.cls q.1.cls q.1.name q.1.desc ∈ gtbl) (hw3 : Cond.superclass own q.1.cls ∈ gtbl) (hw4 : Cond.initialized q.1.cls ∈ gtbl) (hmd : mdOk q.1 n) (hn : as'.length = n) (hst : (st.map ecat).sum ≤ 8)
    (hR : K.2.2.2.2.2 + 1 ≤ R.frames ∧ 8 + (q.2.2.1 + 11) + 60 * K.2.2.2.2.2 ≤ R.locals) (hC : cb + nc + K.2.2.2.1 ≤ R.cells ∧ sb + ns + K.2.2.2.2.1 ≤ R.slots)
    (hm1 : mtE env na.2 τ K.2.1.1 = true) (hm2 : mtA na.1 θ = true) (hm3 : θ.length = K.2.1.2.2.2.1) (hm4 : vsmt τ θ (as' ++ [(Sum.inr (Sum.inr (some i)) : eSV)]).reverse K.2.1.2.1 = true) (hm5 : hmt env τ θ hp K.2.1.2.2.1 = some ks) (hm6 : va_nd ks = true) {hs : List (List Nat)} (hm7 : fmt env na.2 τ hs K.2.1.2.2.2.2 = true)
    (kk : ∀ P ∈ K.2.2.1, ∃ r, inst env hp na τ θ ks P = some r ∧ ∀ S, r = some S → eG p l e R s m args below meth c Q D ca A nL cb sb r0 a0 S.1 lo (S.2.1 ++ st) S.2.2.1 S.2.2.2 (nc + K.2.2.2.1) (ns + K.2.2.2.2.1) (pc + 3)) : eG p l e R s m args below meth c Q D ca A nL cb sb r0 a0 env lo (as' ++ .inr (.inr (some i)) :: st) hp na nc ns pc := by
  have e0 : as' ++ (Sum.inr (Sum.inr (some i)) : eSV) :: st = (as' ++ [(Sum.inr (Sum.inr (some i)) : eSV)]) ++ st := by simp
  rw [e0]
  refine g_core X.2.2.2.2.2.2.2.1 X.2.2.2.2.2.2.2.2.2.2.2 hm1 hm2 hm3 hm4 hm5 hm6 hm7 (fun ρ ρT α αT ls lvl av rest ws wc H locs hrep hrest har hE ha hav hh hDc hPc hFc hcp => ?_) kk
  obtain ⟨x1, x2, e1, h1, h2⟩ := R2.appI har
  obtain ⟨b, t, rfl, ⟨b', hb1, rfl⟩, ht⟩ := R2.cons_inv h2
  rw [R2.nil_inv ht] at e1
  have e2 : av = .ref b' :: x1.reverse := by
    have := congrArg List.reverse e1
    simpa using this
  subst e2
  have hM := hK q hq ρT αT wc H.size _ hE ha hav hh hDc hcp
  obtain ⟨xx, hx1, vs, rfl, _⟩ := rep_cell hrep hf hb1
  have hG : GoodIn gtbl (va_wsSU own idx q.1 (.code q.1 q.2.1 q.2.2.1 q.2.2.2 :: gtbl)) := goodG (fun w hw => by
    rcases List.mem_append.mp hw with hw | hw
    · simp only [List.mem_cons, List.not_mem_nil, or_false] at hw
      rcases hw with rfl | rfl | rfl | rfl | rfl
      · exact hw1
      · exact hw0
      · exact hw3
      · exact hw2
      · exact hw4
    · rcases List.mem_cons.mp hw with rfl | hw
      · exact mtab_in hq
      · exact hw)
  refine va_runSU (As := x1.reverse) (rest := rest) (X.2.2.2.2.2.1.1 ci qc hc).2 ⟨X.1, X.2.1, X.2.2.1, X.2.2.2.1, X.2.2.2.2.1⟩ hM (va_cwSU n X.2.2.2.2.1 hG rfl rfl rfl ⟨hno, hmd.2.2⟩ hR) ⟨PcK_blind, va_recv X.2.2.2.2.2.1 hrep.2.2.2.2.2.2.1 hc hx1, pre_ok X hPc hrep.2.2.2.2.2.2.2.2 hFc⟩ rfl ?_ hrep.2.2.1.1 ?_ ?_ hd hC
  · rw [List.length_reverse, ← R2.len h1, hn]
  · show (Value.ref b' :: x1.reverse).reverse ++ rest = x1.reverse.reverse ++ .ref b' :: rest
    simp
  · exact lv_room (by rw [sum_cat hrest]; exact hst)
theorem g_callS (X : eCx p R s m args c D ca A nL own cc a0) {K : eK} {q : MethodName × ByteArray × Nat × Option FieldType} {idx n : Nat} {ar : List eSV} {τ : List eTi} {θ ks : List Nat} (hK : KMet l D ca K) (hq : mtab[K.1]? = some q) (hd : decode cc pc = .ok (.invokestatic idx, 3))
    (hw1 : Cond.methodLink own idx q.1 ∈ gtbl) (hw2 : Cond.static q.1 ∈ gtbl) (hw4 : Cond.initialized q.1.cls ∈ gtbl) (hmd : mdOk q.1 n) (hn : ar.length = n) (hst : (st.map ecat).sum ≤ 8)
    (hR : K.2.2.2.2.2 + 1 ≤ R.frames ∧ 8 + (q.2.2.1 + 11) + 60 * K.2.2.2.2.2 ≤ R.locals) (hC : cb + nc + K.2.2.2.1 ≤ R.cells ∧ sb + ns + K.2.2.2.2.1 ≤ R.slots)
    (hm1 : mtE env na.2 τ K.2.1.1 = true) (hm2 : mtA na.1 θ = true) (hm3 : θ.length = K.2.1.2.2.2.1) (hm4 : vsmt τ θ ar.reverse K.2.1.2.1 = true) (hm5 : hmt env τ θ hp K.2.1.2.2.1 = some ks) (hm6 : va_nd ks = true) {hs : List (List Nat)} (hm7 : fmt env na.2 τ hs K.2.1.2.2.2.2 = true)
    (kk : ∀ P ∈ K.2.2.1, ∃ r, inst env hp na τ θ ks P = some r ∧ ∀ S, r = some S → eG p l e R s m args below meth c Q D ca A nL cb sb r0 a0 S.1 lo (S.2.1 ++ st) S.2.2.1 S.2.2.2 (nc + K.2.2.2.1) (ns + K.2.2.2.2.1) (pc + 3)) : eG p l e R s m args below meth c Q D ca A nL cb sb r0 a0 env lo (ar ++ st) hp na nc ns pc := by
  refine g_core X.2.2.2.2.2.2.2.1 X.2.2.2.2.2.2.2.2.2.2.2 hm1 hm2 hm3 hm4 hm5 hm6 hm7 (fun ρ ρT α αT ls lvl av rest ws wc H locs hrep hrest har hE ha hav hh hDc hPc hFc hcp => ?_) kk
  have hM := hK q hq ρT αT wc H.size _ hE ha hav hh hDc hcp
  have hG : GoodIn gtbl (va_wsS own idx q.1 (.code q.1 q.2.1 q.2.2.1 q.2.2.2 :: gtbl)) := goodG (fun w hw => by
    rcases List.mem_append.mp hw with hw | hw
    · simp only [List.mem_cons, List.not_mem_nil, or_false] at hw
      rcases hw with rfl | rfl | rfl
      · exact hw1
      · exact hw2
      · exact hw4
    · rcases List.mem_cons.mp hw with rfl | hw
      · exact mtab_in hq
      · exact hw)
  refine va_runS (As := av) (rest := rest) ⟨X.1, X.2.1, X.2.2.1, X.2.2.2.1, X.2.2.2.2.1⟩ hM (va_cwS n X.2.2.2.2.1 hG rfl rfl rfl hmd hR) ⟨PcK_blind, pre_ok X hPc hrep.2.2.2.2.2.2.2.2 hFc⟩ rfl ?_ hrep.2.2.1.1 rfl (lv_room (by rw [sum_cat hrest]; exact hst)) hd hC
  rw [← hn, R2.len har, List.length_reverse]
theorem g_callSN (X : eCx p R s m args c D ca A nL own cc a0) {K : eK} {q : MethodName × ByteArray × Nat × Option FieldType} {idx n : Nat} {host : String} {ar : List eSV} {τ : List eTi} {θ ks : List Nat} (hK : KMet l D ca K) (hq : mtab[K.1]? = some q) (hd : decode cc pc = .ok (.invokestatic idx, 3))
    (hw1 : Cond.methodLinkNest own idx q.1 host ∈ xtbl) (hw2 : Cond.static q.1 ∈ gtbl) (hw4 : Cond.initialized q.1.cls ∈ gtbl) (hmd : mdOk q.1 n) (hn : ar.length = n) (hst : (st.map ecat).sum ≤ 8)
    (hR : K.2.2.2.2.2 + 1 ≤ R.frames ∧ 8 + (q.2.2.1 + 11) + 60 * K.2.2.2.2.2 ≤ R.locals) (hC : cb + nc + K.2.2.2.1 ≤ R.cells ∧ sb + ns + K.2.2.2.2.1 ≤ R.slots)
    (hm1 : mtE env na.2 τ K.2.1.1 = true) (hm2 : mtA na.1 θ = true) (hm3 : θ.length = K.2.1.2.2.2.1) (hm4 : vsmt τ θ ar.reverse K.2.1.2.1 = true) (hm5 : hmt env τ θ hp K.2.1.2.2.1 = some ks) (hm6 : va_nd ks = true) {hs : List (List Nat)} (hm7 : fmt env na.2 τ hs K.2.1.2.2.2.2 = true)
    (kk : ∀ P ∈ K.2.2.1, ∃ r, inst env hp na τ θ ks P = some r ∧ ∀ S, r = some S → eG p l e R s m args below meth c Q D ca A nL cb sb r0 a0 S.1 lo (S.2.1 ++ st) S.2.2.1 S.2.2.2 (nc + K.2.2.2.1) (ns + K.2.2.2.2.1) (pc + 3)) : eG p l e R s m args below meth c Q D ca A nL cb sb r0 a0 env lo (ar ++ st) hp na nc ns pc := by
  refine g_core X.2.2.2.2.2.2.2.1 X.2.2.2.2.2.2.2.2.2.2.2 hm1 hm2 hm3 hm4 hm5 hm6 hm7 (fun ρ ρT α αT ls lvl av rest ws wc H locs hrep hrest har hE ha hav hh hDc hPc hFc hcp => ?_) kk
  have hM := hK q hq ρT αT wc H.size _ hE ha hav hh hDc hcp
  have hG : GoodIn gtbl (.code q.1 q.2.1 q.2.2.1 q.2.2.2 :: gtbl) := goodG (fun w hw => by
    rcases List.mem_cons.mp hw with rfl | hw
    · exact mtab_in hq
    · exact hw)
  refine va_runSN (As := av) (rest := rest) ⟨X.1, X.2.1, X.2.2.1, X.2.2.2.1, X.2.2.2.2.1⟩ hM ⟨va_cnB n X.2.2.2.2.1 hG rfl rfl rfl (X.2.2.2.2.2.2.1 _ hw1) (X.2.2.2.2.1 _ hw4) hmd hR, X.2.2.2.2.1 _ hw2, trivial⟩ ⟨PcK_blind, pre_ok X hPc hrep.2.2.2.2.2.2.2.2 hFc⟩ rfl ?_ hrep.2.2.1.1 rfl (lv_room (by rw [sum_cat hrest]; exact hst)) hd hC
  rw [← hn, R2.len har, List.length_reverse]
theorem g_callI (X : eCx p R s m args c D ca A nL own cc a0) {K : eK} {q : MethodName × ByteArray × Nat × Option FieldType} {idx i n : Nat} {as' : List eSV} {τ : List eTi} {θ ks : List Nat} (hK : KMet l D ca K) (hq : mtab[K.1]? = some q) (hd : decode cc pc = .ok (.invokespecial idx, 3)) (hrn : q.2.2.2 = none) (hin : q.1.name = "<init>")
    (hw1 : Cond.methodLink own idx q.1 ∈ gtbl) (hw2 : Cond.instanceMethod q.1 ∈ gtbl) (hw4 : Cond.initialized q.1.cls ∈ gtbl) (hmd : mdOk q.1 n) (hn : as'.length = n) (hst : (st.map ecat).sum ≤ 8)
    (hR : K.2.2.2.2.2 + 1 ≤ R.frames ∧ 8 + (q.2.2.1 + 11) + 60 * K.2.2.2.2.2 ≤ R.locals) (hC : cb + nc + K.2.2.2.1 ≤ R.cells ∧ sb + ns + K.2.2.2.2.1 ≤ R.slots)
    (hm1 : mtE env na.2 τ K.2.1.1 = true) (hm2 : mtA na.1 θ = true) (hm3 : θ.length = K.2.1.2.2.2.1) (hm4 : vsmt τ θ (as' ++ [(Sum.inr (Sum.inr (some i)) : eSV)]).reverse K.2.1.2.1 = true) (hm5 : hmt env τ θ hp K.2.1.2.2.1 = some ks) (hm6 : va_nd ks = true) {hs : List (List Nat)} (hm7 : fmt env na.2 τ hs K.2.1.2.2.2.2 = true)
    (kk : ∀ P ∈ K.2.2.1, ∃ r, inst env hp na τ θ ks P = some r ∧ ∀ S, r = some S → eG p l e R s m args below meth c Q D ca A nL cb sb r0 a0 S.1 lo (S.2.1 ++ st) S.2.2.1 S.2.2.2 (nc + K.2.2.2.1) (ns + K.2.2.2.2.1) (pc + 3)) : eG p l e R s m args below meth c Q D ca A nL cb sb r0 a0 env lo (as' ++ .inr (.inr (some i)) :: st) hp na nc ns pc := by
  have e0 : as' ++ (Sum.inr (Sum.inr (some i)) : eSV) :: st = (as' ++ [(Sum.inr (Sum.inr (some i)) : eSV)]) ++ st := by simp
  rw [e0]
  refine g_core X.2.2.2.2.2.2.2.1 X.2.2.2.2.2.2.2.2.2.2.2 hm1 hm2 hm3 hm4 hm5 hm6 hm7 (fun ρ ρT α αT ls lvl av rest ws wc H locs hrep hrest har hE ha hav hh hDc hPc hFc hcp => ?_) kk
  obtain ⟨x1, x2, e1, h1, h2⟩ := R2.appI har
  obtain ⟨b, t, rfl, ⟨b', hb1, rfl⟩, ht⟩ := R2.cons_inv h2
  rw [R2.nil_inv ht] at e1
  have e2 : av = .ref b' :: x1.reverse := by
    have := congrArg List.reverse e1
    simpa using this
  subst e2
  have hM := hK q hq ρT αT wc H.size _ hE ha hav hh hDc hcp
  have hG : GoodIn gtbl (.code q.1 q.2.1 q.2.2.1 none :: gtbl) := goodG (fun w hw => by
    rcases List.mem_cons.mp hw with rfl | hw
    · rw [← hrn]; exact mtab_in hq
    · exact hw)
  rw [hrn] at hM
  refine va_runI (As := x1.reverse) (rest := rest) ⟨X.1, X.2.1, X.2.2.1, X.2.2.2.1, X.2.2.2.2.1⟩ hM (cwI n X.2.2.2.2.1 hG rfl rfl rfl (X.2.2.2.2.1 _ hw4) (X.2.2.2.2.1 _ hw1) (X.2.2.2.2.1 _ hw2) hin hmd hR) ⟨PcK_blind, pre_ok X hPc hrep.2.2.2.2.2.2.2.2 hFc⟩ rfl ?_ hrep.2.2.1.1 ?_ ?_ hd hC
  · rw [List.length_reverse, ← R2.len h1, hn]
  · show (Value.ref b' :: x1.reverse).reverse ++ rest = x1.reverse.reverse ++ .ref b' :: rest
    simp
  · exact lv_room (by rw [sum_cat hrest]; exact hst)
theorem g_callIN (X : eCx p R s m args c D ca A nL own cc a0) {K : eK} {q : MethodName × ByteArray × Nat × Option FieldType} {idx i n : Nat} {host : String} {as' : List eSV} {τ : List eTi} {θ ks : List Nat} (hK : KMet l D ca K) (hq : mtab[K.1]? = some q) (hd : decode cc pc = .ok (.invokespecial idx, 3)) (hrn : q.2.2.2 = none) (hin : q.1.name = "<init>")
    (hw1 : Cond.methodLinkNest own idx q.1 host ∈ xtbl) (hw2 : Cond.instanceMethod q.1 ∈ gtbl) (hw4 : Cond.initialized q.1.cls ∈ gtbl) (hmd : mdOk q.1 n) (hn : as'.length = n) (hst : (st.map ecat).sum ≤ 8)
    (hR : K.2.2.2.2.2 + 1 ≤ R.frames ∧ 8 + (q.2.2.1 + 11) + 60 * K.2.2.2.2.2 ≤ R.locals) (hC : cb + nc + K.2.2.2.1 ≤ R.cells ∧ sb + ns + K.2.2.2.2.1 ≤ R.slots)
    (hm1 : mtE env na.2 τ K.2.1.1 = true) (hm2 : mtA na.1 θ = true) (hm3 : θ.length = K.2.1.2.2.2.1) (hm4 : vsmt τ θ (as' ++ [(Sum.inr (Sum.inr (some i)) : eSV)]).reverse K.2.1.2.1 = true) (hm5 : hmt env τ θ hp K.2.1.2.2.1 = some ks) (hm6 : va_nd ks = true) {hs : List (List Nat)} (hm7 : fmt env na.2 τ hs K.2.1.2.2.2.2 = true)
    (kk : ∀ P ∈ K.2.2.1, ∃ r, inst env hp na τ θ ks P = some r ∧ ∀ S, r = some S → eG p l e R s m args below meth c Q D ca A nL cb sb r0 a0 S.1 lo (S.2.1 ++ st) S.2.2.1 S.2.2.2 (nc + K.2.2.2.1) (ns + K.2.2.2.2.1) (pc + 3)) : eG p l e R s m args below meth c Q D ca A nL cb sb r0 a0 env lo (as' ++ .inr (.inr (some i)) :: st) hp na nc ns pc := by
  have e0 : as' ++ (Sum.inr (Sum.inr (some i)) : eSV) :: st = (as' ++ [(Sum.inr (Sum.inr (some i)) : eSV)]) ++ st := by simp
  rw [e0]
  refine g_core X.2.2.2.2.2.2.2.1 X.2.2.2.2.2.2.2.2.2.2.2 hm1 hm2 hm3 hm4 hm5 hm6 hm7 (fun ρ ρT α αT ls lvl av rest ws wc H locs hrep hrest har hE ha hav hh hDc hPc hFc hcp => ?_) kk
  obtain ⟨x1, x2, e1, h1, h2⟩ := R2.appI har
  obtain ⟨b, t, rfl, ⟨b', hb1, rfl⟩, ht⟩ := R2.cons_inv h2
  rw [R2.nil_inv ht] at e1
  have e2 : av = .ref b' :: x1.reverse := by
    have := congrArg List.reverse e1
    simpa using this
  subst e2
  have hM := hK q hq ρT αT wc H.size _ hE ha hav hh hDc hcp
  have hG : GoodIn gtbl (.code q.1 q.2.1 q.2.2.1 none :: gtbl) := goodG (fun w hw => by
    rcases List.mem_cons.mp hw with rfl | hw
    · rw [← hrn]; exact mtab_in hq
    · exact hw)
  rw [hrn] at hM
  refine va_runIN (As := x1.reverse) (rest := rest) ⟨X.1, X.2.1, X.2.2.1, X.2.2.2.1, X.2.2.2.2.1⟩ hM ⟨va_cnB n X.2.2.2.2.1 hG rfl rfl rfl (X.2.2.2.2.2.2.1 _ hw1) (X.2.2.2.2.1 _ hw4) hmd hR, hin, X.2.2.2.2.1 _ hw2⟩ ⟨PcK_blind, pre_ok X hPc hrep.2.2.2.2.2.2.2.2 hFc⟩ rfl ?_ hrep.2.2.1.1 ?_ ?_ hd hC
  · rw [List.length_reverse, ← R2.len h1, hn]
  · show (Value.ref b' :: x1.reverse).reverse ++ rest = x1.reverse.reverse ++ .ref b' :: rest
    simp
  · exact lv_room (by rw [sum_cat hrest]; exact hst)
/-- a method's end, by one of its posts -/
def rmt (K : eK) (env : eEv) (hp : eHp) (na : eNa) (an : Nat × List eTi × List Nat × List (List Nat)) (v : Option eSV) : Bool := match K.2.2.1[an.1]? with
  | some P => mtE env na.2 (.inr (0, K.2.1.1.1) :: an.2.1) P.1 && mtA na.1 (nas 0 K.2.1.2.2.2.1 ++ an.2.2.1) && Nat.beq (nas 0 K.2.1.2.2.2.1 ++ an.2.2.1).length P.2.2.2.1 && fmt env na.2 (.inr (0, K.2.1.1.1) :: an.2.1) an.2.2.2 P.2.2.2.2 && (match v, P.2.1 with
    | none, none => true
    | some w, some tw => vmt (.inr (0, K.2.1.1.1) :: an.2.1) (nas 0 K.2.1.2.2.2.1 ++ an.2.2.1) w tw
    | _, _ => false) && (match hmt env (.inr (0, K.2.1.1.1) :: an.2.1) (nas 0 K.2.1.2.2.2.1 ++ an.2.2.1) hp P.2.2.1 with
    | some ks => ndq ks
    | none => false)
  | none => false
theorem rmt_ok {ρ0 : List Int} {α0 : List Nat} {K : eK} {an : Nat × List eTi × List Nat × List (List Nat)} {v : Option eSV} {w : Option Value} {ws0 : va_W} {ρ : List Int} {α : List Nat} {ls : Array Slot} {lvl : List (Nat × Value)} {stk : List Value} {ws : va_W} {H : Heap} {locs : List Loc} (h : eRep s D ca (va_A ws0 s.heap.size) nL r0 a0 env lo st hp na ρ α ls lvl stk ws H locs) (hp0 : ρ0 <+: r0) (hq0 : α0 <+: a0) (hr0 : ρ0.length = K.2.1.1.1) (ha0 : α0.length = K.2.1.2.2.2.1) (hm : rmt K env hp na an v = true)
    (hv : match v, w with | none, none => True | some sv, some x => vok ρ α sv x | _, _ => False) (t : State) (ht : t.heap = H) : QK D ca K ρ0 α0 ws0 s.heap.size args s (.returned w) t := by
  obtain ⟨h1, h2, h3, h4, h5, h6, hP, hD, hS⟩ := h
  unfold rmt at hm
  split at hm
  · rename_i P hPe
    rw [Bool.and_eq_true, Bool.and_eq_true, Bool.and_eq_true, Bool.and_eq_true, Bool.and_eq_true] at hm
    obtain ⟨⟨⟨⟨⟨m1, m2⟩, m3⟩, m6⟩, m4⟩, m5⟩ := hm
    obtain ⟨ρT, t1, t2⟩ := mtE_ok h1 h2.1.2 m1
    rw [← h2.1.1] at m2
    obtain ⟨αT, u1, u2⟩ := mtA_ok m2
    obtain ⟨ρ1, σ, rfl, t3, t4⟩ := R2.appI (show R2 (lfv ρ) (nvs 0 K.2.1.1.1 ++ exT an.2.1) ρT from t1)
    obtain ⟨α1, β, rfl, u3, u4⟩ := R2.appI u1
    obtain ⟨ρx, hρx⟩ := hp0.trans h2.2.1
    obtain ⟨αx, hαx⟩ := hq0.trans h2.2.2
    have e1 : ρ1 = ρ0 := by
      refine nvs_inv ρ0 [] ρx ρ1 ?_
      rw [List.nil_append, hρx]
      show R2 (lfv ρ) (nvs 0 ρ0.length) ρ1
      rw [hr0]
      exact t3
    have e2 : α1 = α0 := by
      refine nas_inv α0 [] αx α1 ?_
      rw [List.nil_append, hαx]
      show aOk α (nas 0 α0.length) α1
      rw [ha0]
      exact u3
    subst e1; subst e2
    split at m5
    · rename_i ks hks
      obtain ⟨wc, w1, w2⟩ := hmt_ok (ca := ca) h1 t1 u1 h6 hks
      refine ⟨⟨w, P, σ, β, wc, rfl, List.mem_of_getElem? hPe, t2, ?_, ?_, w2, ?_, hD.sub ks (ndq_ok m5) w1⟩, hS.F ht⟩
      · exact ⟨by rw [u2]; exact Nat.eq_of_beq_eq_true m3, fmt_ok h1 t1 h2.1.2 m6⟩
      · unfold retOk
        generalize P.2.1 = o at m4
        cases v <;> cases o <;> cases w <;> first | (cases m4; done) | exact hv.elim | trivial | exact vmt_ok t1 u1 m4 hv
      · rw [ht]
        refine hP.sub (ws' := wc) ks ?_
        have : ks.filterMap (fun i => ws[i]?) = (ks.map (fun i => ws[i]?)).filterMap id := by rw [List.filterMap_map]; rfl
        rw [this, w1, List.filterMap_map]
        show wc.filterMap some = wc
        exact List.filterMap_some ..
    · cases m5
  · cases hm
theorem g_ret (X : eCx p R s m args c D ca A nL own cc a0) {ρ0 : List Int} {α0 : List Nat} {K : eK} {ws0 : va_W} (hA0 : A = va_A ws0 s.heap.size) (hQ : Q = MQ below (QK D ca K ρ0 α0 ws0 s.heap.size) args s K.2.2.2.1 K.2.2.2.2.1 (va_A ws0 s.heap.size)) (hlocks : meth.locks = false) (hr : meth.sig.returnType = none) (hp0 : ρ0 <+: r0) (hq0 : α0 <+: a0) (hr0 : ρ0.length = K.2.1.1.1) (ha0 : α0.length = K.2.1.2.2.2.1) {an : Nat × List eTi × List Nat × List (List Nat)} (hd : decode cc pc = .ok (.return_, 1)) (hc : cb + nc ≤ K.2.2.2.1) (hs : sb + ns ≤ K.2.2.2.2.1) (hm : rmt K env hp na an none = true) : eG p l e R s m args below meth c Q D ca A nL cb sb r0 a0 env lo [] hp na nc ns pc := by
  intro ρ α ls lvl stk ws H locs h
  subst hA0; subst hQ
  have e := R2.nil_inv h.2.2.2.2.1
  subst e
  refine W.widen hc hs ?_
  exact W.vret X.1 X.2.1 hr (fun t ht _ => rmt_ok h hp0 hq0 hr0 ha0 hm trivial t ht) h.2.2.2.2.2.2.2.2.2.2 hd hlocks
theorem g_iret (X : eCx p R s m args c D ca A nL own cc a0) {ρ0 : List Int} {α0 : List Nat} {K : eK} {ws0 : va_W} (hA0 : A = va_A ws0 s.heap.size) (hQ : Q = MQ below (QK D ca K ρ0 α0 ws0 s.heap.size) args s K.2.2.2.1 K.2.2.2.2.1 (va_A ws0 s.heap.size)) (hlocks : meth.locks = false) {rt : FieldType} (hr : meth.sig.returnType = some rt) (hp0 : ρ0 <+: r0) (hq0 : α0 <+: a0) (hr0 : ρ0.length = K.2.1.1.1) (ha0 : α0.length = K.2.1.2.2.2.1) {an : Nat × List eTi × List Nat × List (List Nat)} {f : eLF} (hd : decode cc pc = .ok (.ireturn, 1)) (hpo : pok rt env (.inl f) = true) (hc : cb + nc ≤ K.2.2.2.1) (hs : sb + ns ≤ K.2.2.2.2.1) (hm : rmt K env hp na an (some (.inl f)) = true) : eG p l e R s m args below meth c Q D ca A nL cb sb r0 a0 env lo [.inl f] hp na nc ns pc := by
  intro ρ α ls lvl stk ws H locs h
  subst hA0; subst hQ
  obtain ⟨w, stk', rfl, hv, h2⟩ := rep_pop h
  have e := R2.nil_inv h2.2.2.2.2.1
  subst e
  obtain ⟨n1, _⟩ := pok_ok h.1 hpo hv
  obtain ⟨x, hx, rfl⟩ := id hv
  refine W.widen hc hs ?_
  exact W.zret X.1 X.2.1 hr n1 (fun t ht _ => rmt_ok h hp0 hq0 hr0 ha0 hm hv t ht) h.2.2.2.2.2.2.2.2.2.2 hd hlocks
theorem g_lret (X : eCx p R s m args c D ca A nL own cc a0) {ρ0 : List Int} {α0 : List Nat} {K : eK} {ws0 : va_W} (hA0 : A = va_A ws0 s.heap.size) (hQ : Q = MQ below (QK D ca K ρ0 α0 ws0 s.heap.size) args s K.2.2.2.1 K.2.2.2.2.1 (va_A ws0 s.heap.size)) (hlocks : meth.locks = false) (hr : meth.sig.returnType = some .long) (hp0 : ρ0 <+: r0) (hq0 : α0 <+: a0) (hr0 : ρ0.length = K.2.1.1.1) (ha0 : α0.length = K.2.1.2.2.2.1) {an : Nat × List eTi × List Nat × List (List Nat)} {f : eLF} (hd : decode cc pc = .ok (.lreturn, 1)) (hc : cb + nc ≤ K.2.2.2.1) (hs : sb + ns ≤ K.2.2.2.2.1) (hm : rmt K env hp na an (some (.inr (.inl f))) = true) : eG p l e R s m args below meth c Q D ca A nL cb sb r0 a0 env lo [.inr (.inl f)] hp na nc ns pc := by
  intro ρ α ls lvl stk ws H locs h
  subst hA0; subst hQ
  obtain ⟨w, stk', rfl, hv, h2⟩ := rep_pop h
  have e := R2.nil_inv h2.2.2.2.2.1
  subst e
  obtain ⟨x, hx, rfl⟩ := id hv
  refine W.widen hc hs ?_
  exact W.lret X.1 X.2.1 hr (fun t ht _ => rmt_ok h hp0 hq0 hr0 ha0 hm hv t ht) h.2.2.2.2.2.2.2.2.2.2 hd hlocks
end
/-- a contract out of the walk of its body -/
def eargs : Nat → List eSV → List (Nat × eSV)
  | _, [] => []
  | i, v :: t => (i, v) :: eargs (match ecat v with
    | 2 => i + 2
    | _ => i + 1) t
theorem ecat_or (v : eSV) : ecat v = 1 ∨ ecat v = 2 := by
  unfold ecat
  split
  · exact Or.inr rfl
  · exact Or.inl rfl
theorem eargs_ok {ρ : List Int} {α : List Nat} : ∀ {a : List eSV} {xs : List Value} (i : Nat), R2 (vok ρ α) a xs → R2 (lrel ρ α) (eargs i a) (lv_args i xs)
  | [], xs, i, h => by rw [R2.nil_inv h]; trivial
  | v :: a, xs, i, h => by
    obtain ⟨y, ys, rfl, h1, h2⟩ := R2.cons_inv h
    refine ⟨⟨rfl, h1⟩, ?_⟩
    have e := vok_cat h1
    rcases ecat_or v with c | c
    · rw [c] at e
      show R2 (lrel ρ α) (eargs _ a) (lv_args (if y.category = 2 then i + 2 else i + 1) ys)
      rw [if_neg (by rw [e]; decide), c]
      exact eargs_ok (i + 1) h2
    · rw [c] at e
      show R2 (lrel ρ α) (eargs _ a) (lv_args (if y.category = 2 then i + 2 else i + 1) ys)
      rw [if_pos e, c]
      exact eargs_ok (i + 2) h2
theorem sl_len : ∀ (vs : List Value), (lg_sl vs).length = (vs.map fun v => v.category).sum
  | [] => rfl
  | v :: vs => by
    have ih := sl_len vs
    unfold lg_sl at ih ⊢
    rw [List.flatMap_cons, List.length_append, ih, List.map_cons, List.sum_cons]
    congr 1
    rcases lv_cat v with h | h
    · rw [if_neg (by rw [h]; decide), h]; rfl
    · rw [if_pos h, h]; rfl
theorem mk_K {l : Launch} {D : va_G} {ca : Nat → ClassId} {K : eK} {q : MethodName × ByteArray × Nat × Option FieldType} (hq : mtab[K.1]? = some q) (hpn : plainName q.1.cls = true) (hlen : (K.2.1.2.1.map ecat).sum ≤ q.2.2.1) (hd1 : 1 ≤ K.2.2.2.2.2)
    (body : ∀ (p : Program) (e : Env) (s : State) (m : MethodId) (args : Array Value) (below : List Frame) (meth : Method) (c : Code) (ρ : List Int) (α : List Nat) (ws : va_W), eCx p (rmK K) s m args c D ca (va_A ws s.heap.size) q.2.2.1 q.1.cls q.2.1 α → meth.name = q.1.name → meth.locks = false → meth.sig.returnType = q.2.2.2 → ρ.length = K.2.1.1.1 → α.length = K.2.1.2.2.2.1 →
      eG p l e (rmK K) s m args below meth c (MQ below (QK D ca K ρ α ws s.heap.size) args s K.2.2.2.1 K.2.2.2.2.1 (va_A ws s.heap.size)) D ca (va_A ws s.heap.size) q.2.2.1 0 0 ρ α K.2.1.1 (eargs 0 K.2.1.2.1) [] K.2.1.2.2.1 K.2.1.2.2.2 0 0 0) : KMet l D ca K := by
  intro q' hq' ρ α ws sz av hE hα hav hh hD0 hcx
  rw [hq] at hq'
  cases hq'
  refine Met.ofW (cc := q.2.1) (maxL := q.2.2.1) (ret := q.2.2.2) hpn rfl ?_
  intro p e s m args below meth c s₁ B hml hv
  obtain ⟨rfl, hsz, hP, hK, hX, hZ⟩ := hv
  subst hsz
  have hts := atoms_spec (ws := .code q.1 q.2.1 q.2.2.1 q.2.2.2 :: gtbl) B.pre
  have hD := hD0.self (sz := s.heap.size)
  have hl := lv_entry av (n := q.2.2.1) (by rw [sl_len, sum_cat hav]; exact hlen)
  rw [lg_entry_eq]
  have G := body p e s m av.toArray below meth c ρ α ws ⟨B.exec, B.bytes, hml, findClass_of_methodNamed B.named, fun w hw => hts w (List.mem_cons_of_mem _ hw), hK, hX, fun z hz => Or.inr hz, hd1, by show 60 ≤ 60 * _; omega, hZ, hcx⟩ (name_of_methodNamed B.named B.method).1 B.notSynchronized B.returns hE.1 hα.1
  exact G ρ α _ _ [] ws s.heap [] ⟨hE, ⟨hα, List.prefix_refl _, List.prefix_refl _⟩, hl, eargs_ok 0 hav, trivial, hh, hP, hD, va_S.rf⟩
end
