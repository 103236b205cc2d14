noncomputable section
/-! a call of a method that may throw, and its catching -/
section
variable {p : Program} {l : Launch} {e : Env} {R : Room} {s : State} {m : MethodId} {args : Array Value} {below : List Frame} {meth : Method} {c : Code} {Q : State → Prop} {D : va_G} {ca : Nat → ClassId} {A : Nat → Prop} {nL cb sb : Nat} {r0 : List Int} {a0 : List Nat} {own : String} {cc : ByteArray} {env : eEv} {lo : List (Nat × eSV)} {st : List eSV} {hp : eHp} {na : eNa} {nc ns pc : Nat}
theorem rep_addr {ρ : List Int} {α : List Nat} {ls : Array Slot} {lvl : List (Nat × Value)} {stk : List Value} {ws : va_W} {H : Heap} {locs : List Loc} (b : Nat) (h : eRep s D ca A nL r0 a0 env lo st hp na ρ α ls lvl stk ws H locs) : eRep s D ca A nL r0 a0 env lo st hp (na.1 + 1, na.2) ρ (α ++ [b]) ls lvl stk ws H locs := by
  obtain ⟨h1, h2, h3, h4, h5, h6, h7⟩ := h
  refine ⟨h1, ⟨⟨by rw [List.length_append, h2.1.1]; rfl, h2.1.2⟩, h2.2.1, h2.2.2.trans (List.prefix_append _ _)⟩, h3, R2.imp (fun _ _ z => ?_) h4, R2.imp (fun _ _ z => ?_) h5, R2.imp (fun _ _ z => ?_) h6, h7⟩
  · have := lrel_mono [] [b] z; rwa [List.append_nil] at this
  · have := vok_mono [] [b] z; rwa [List.append_nil] at this
  · have := hrel_mono (ca := ca) [] [b] z; rwa [List.append_nil] at this
theorem ev_callX {H : Heap} {locs : List Loc} {cells slots mc ms : Nat} {ls : Array Slot} {rest st0 : List Value} {Qa : State → Outcome → State → Prop} {XC : String → State → State → Prop} {free : Addr → Prop} (hr : vx_Run p l e R s m args below meth c H locs cells slots mc ms (F0 m pc ls st0) rest Qa XC free)
    (kk : ∀ (v : Option Value) (u t : State) (H1 : Heap) (locs1 : List Loc), u.heap = H → t.heap = H1 → Qa u (.returned v) t → (∀ z ∈ locs1, z ∈ locs ∨ free z.base) → W p l e R s m args below meth c H1 locs1 (cells + mc) (slots + ms) Q (F0 m (pc + 3) ls (v.toList ++ rest)))
    (kx : ∀ (q : Addr) (u t : State) (H1 : Heap) (locs1 : List Loc) (E : String) (ce : Cell), u.heap = H → t.heap = H1 → XC E u t → H1[q]? = some ce → ce.vm = .none → s.vm.findClass E = some ce.cls → (∀ z ∈ locs1, z ∈ locs ∨ free z.base) → vx_W p l e R s m args below meth c H1 locs1 (cells + mc) (slots + ms) Q (F0 m pc ls rest) q) : W p l e R s m args below meth c H locs cells slots Q (F0 m pc ls st0) := by
  intro T hT X
  rcases hr T hT X with ⟨v, u, t, T', L, h0, X', hL, e1, e2, hq, st⟩ | ⟨q, u, t, T', L, E, ce, h0, X', hL, e1, e2, hq, hce, hcv, hcl, st⟩
  · obtain ⟨t2, a1, b1⟩ := kk v u t T'.heap (locs ++ L) h0 e1.symm hq (fun z hz => by
      rcases List.mem_append.mp hz with h | h
      · exact Or.inl h
      · exact Or.inr (hL z h)) T' rfl X'
    exact ⟨t2, st t2 a1, b1⟩
  · obtain ⟨t2, a1, b1⟩ := kx q u t T'.heap (locs ++ L) E ce h0 e1.symm hq (by rw [e1]; exact hce) hcv hcl (fun z hz => by
      rcases List.mem_append.mp hz with h | h
      · exact Or.inl h
      · exact Or.inr (hL z h)) T' rfl X'
    exact ⟨t2, st.trans a1, b1⟩
/-- the world behind a callee's end, in the caller's words -/
theorem rep_join {ρ ρT σ : List Int} {α αT β : List Nat} {ls : Array Slot} {lvl : List (Nat × Value)} {rest : List Value} {ws wc ws' : va_W} {H H1 : Heap} {locs locs1 : List Loc} {τ : List eTi} {θ ks : List Nat} {P : ePo} {S : eEv × List eSV × eHp × eNa} {v : Option Value}
    (h : eRep s D ca A nL r0 a0 env lo st hp na ρ α ls lvl rest ws H locs) (t1 : tOk ρ τ ρT) (u1 : aOk α θ αT) (u2 : αT.length = θ.length) (w1 : ks.map (fun i => ws[i]?) = wc.map some) (hm6 : va_nd ks = true) (hFc : ∀ q, va_A wc H.size q → A q)
    (p2 : eOk P.1 (ρT ++ σ)) (p3 : nOk P.2.2.2 (ρT ++ σ) (αT ++ β)) (p4 : retOk (ρT ++ σ) (αT ++ β) P.2.1 v) (p5 : R2 (hrel ca (ρT ++ σ) (αT ++ β)) P.2.2.1 ws') (p6 : va_P D vwCl ws' H1) (p7 : va_D (va_A wc H.size) ws') (f1 : H.size ≤ H1.size) (f2 : ∀ q : Nat, q < H.size → ¬ va_A wc H.size q → H1[q]? = H[q]?) (hl : ∀ z ∈ locs1, z ∈ locs ∨ va_A wc H.size z.base) (i1 : inst env hp na τ θ ks P = some (some S)) :
    ∃ wn, eRep s D ca A nL r0 a0 S.1 lo (S.2.1 ++ st) S.2.2.1 S.2.2.2 (ρ ++ σ) (α ++ β) ls lvl (v.toList ++ rest) wn H1 locs1 := by
  obtain ⟨h1, h2, h3, h4, h8, h6, hP, hD, hS⟩ := h
  obtain ⟨e1, q1, q2⟩ := inE_ok h1 t1 p2
  unfold inst at i1
  rw [drpq_eq] at i1
  rw [q1] at i1
  dsimp only at i1
  have lenT : tlen τ = ρT.length := by rw [tlen_eq]; exact R2.len t1
  have lenP : P.1.1 = ρT.length + σ.length := by rw [← p2.1, List.length_append]
  have lenB : P.2.2.2.1 = θ.length + β.length := by rw [← p3.1, List.length_append, u2]
  have lenE : env.1 = ρ.length := h1.1.symm
  rw [show P.1.1 - tlen τ = σ.length by omega, show P.2.2.2.1 - θ.length = β.length by omega] at i1
  split at i1
  · rename_i hh rr fs1 g1 g2 g3
    cases i1
    have tt : tOk (ρ ++ σ) (τ ++ [.inr (env.1, σ.length)]) (ρT ++ σ) := by
      show R2 (lfv (ρ ++ σ)) (exT (τ ++ [.inr (env.1, σ.length)])) (ρT ++ σ)
      rw [exT_app]
      refine R2.app (R2.imp (fun _ _ z => lfv_mono σ z) t1) ?_
      show R2 (lfv (ρ ++ σ)) (nvs env.1 σ.length ++ []) σ
      rw [List.append_nil]
      have := nvs_ok σ ρ []
      rw [List.append_nil, ← lenE] at this
      exact this
    have aa : aOk (α ++ β) (θ ++ nas na.1 β.length) (αT ++ β) := by
      refine R2.app (R2.imp (fun _ _ z => getE_mono β z) u1) ?_
      have := nas_ok β α []
      rw [List.append_nil, h2.1.1] at this
      exact this
    obtain ⟨isR, wr, d1, d2, d3, d4⟩ := drp_ok ks 0 h6
    obtain ⟨hP2, hD2⟩ := va_join (wr := wr) (w1 := ws') (H1 := H1) hP hD ks isR w1 (by simpa using d2) d4 (fun i hi => (d3 i hi).2) (fun q z1 z2 => f2 q z1 z2) hFc p6 p7
    have eo : eOk (ecat2 e1 P.1 (tlen τ)) (ρ ++ σ) := by
      rw [lenT]
      exact ecat2_ok q2 p2
    have hr : R2 (vok (ρ ++ σ) (α ++ β)) rr v.toList := by
      refine inVs_ok tt aa g2 ?_
      unfold retOk at p4
      generalize P.2.1 = o at p4
      cases o <;> cases v <;> first | trivial | exact p4.elim | exact ⟨p4, trivial⟩
    refine ⟨wr ++ ws', eo, ⟨⟨by rw [List.length_append, h2.1.1], fun F hF => by
      rcases List.mem_append.mp hF with z | z
      · exact fOk_mono σ h2.1.2 F z
      · exact inF_ok tt g3 p3.2 F z⟩, h2.2.1.trans (List.prefix_append _ _), h2.2.2.trans (List.prefix_append _ _)⟩, h3, R2.imp (fun _ _ z => lrel_mono σ β z) h4, R2.app hr (R2.imp (fun _ _ z => vok_mono σ β z) h8), R2.app (R2.imp (fun _ _ z => hrel_mono σ β z) d1) (inH_ok tt aa g1 p5), hP2, hD2, Nat.le_trans hS.1 f1, fun q z1 z2 => ?_, fun z hz => ?_⟩
    · rw [f2 q (Nat.lt_of_lt_of_le z1 hS.1) (fun y => z2 (hFc q y))]
      exact hS.2.1 q z1 z2
    · rcases hl z hz with y | y
      · exact hS.2.2 z y
      · exact hFc _ y
  · cases i1
/-- the post that a template of a throw is -/
def xpo (T : eCut) : ePo := (T.2.1, none, T.2.2.2.2.1, T.2.2.2.2.2.1)
theorem g_callVX (X : eCx p R s m args c D ca A nL own cc a0) {K : eK} {CT : List eCut} {q : MethodName × ByteArray × Nat × Option FieldType} {idx i k ci n hpc : Nat} {qc : vw_C} {fs : List eSV} {as' : List eSV} {τ : List eTi} {θ ks : List Nat} (hK : KXMet l D ca K CT) (hq : mtab[K.1]? = some q) (hd : decode cc pc = .ok (.invokevirtual idx, 3))
    (hc : vwCl[ci]? = some qc) (hcn : q.1.cls = qc.1) (hf : hfd i hp 0 = some (k, .inl (ci, fs))) (hw1 : Cond.methodLink own idx q.1 ∈ gtbl) (hw2 : Cond.instanceMethod q.1 ∈ gtbl) (hw3 : Cond.selects q.1.cls q.1 q.1 ∈ gtbl) (hw4 : Cond.initialized q.1.cls ∈ gtbl) (hmd : mdOk q.1 n) (hn : as'.length = n) (hst : (st.map ecat).sum ≤ 8)
    (hR : K.2.2.2.2.2 + 1 ≤ R.frames ∧ 8 + (q.2.2.1 + 11) + 60 * K.2.2.2.2.2 ≤ R.locals) (hC : cb + nc + K.2.2.2.1 ≤ R.cells ∧ sb + ns + K.2.2.2.2.1 ≤ R.slots)
    (hm1 : mtE env na.2 τ K.2.1.1 = true) (hm2 : mtA na.1 θ = true) (hm3 : θ.length = K.2.1.2.2.2.1) (hm4 : vsmt τ θ (as' ++ [(Sum.inr (Sum.inr (some i)) : eSV)]).reverse K.2.1.2.1 = true) (hm5 : hmt env τ θ hp K.2.1.2.2.1 = some ks) (hm6 : va_nd ks = true) {hs : List (List Nat)} (hm7 : fmt env na.2 τ hs K.2.1.2.2.2.2 = true)
    {x : ExceptionTableEntry} (htab : c.exceptionTable.toList = [x]) (hcov : covers x pc = true) (hct : x.catchType ≠ 0) (hhp : x.handlerPc = hpc) (hlk : (Cond.classLink own x.catchType exN).before args s = true) (hcast : (Cond.castable exN exN).before args s = true)
    (kk : ∀ P ∈ K.2.2.1, ∃ r, inst env hp na τ θ ks P = some r ∧ ∀ S, r = some S → eG p l e R s m args below meth c Q D ca A nL cb sb r0 a0 S.1 lo (S.2.1 ++ st) S.2.2.1 S.2.2.2 (nc + K.2.2.2.1) (ns + K.2.2.2.2.1) (pc + 3))
    (kx : ∀ T ∈ CT, ∃ r, inst env hp na τ θ ks (xpo T) = some r ∧ ∀ S, r = some S → eG p l e R s m args below meth c Q D ca A nL cb sb r0 a0 S.1 lo [.inr (.inr (some S.2.2.2.1))] S.2.2.1 (S.2.2.2.1 + 1, S.2.2.2.2) (nc + K.2.2.2.1) (ns + K.2.2.2.2.1) hpc) : eG p l e R s m args below meth c Q D ca A nL cb sb r0 a0 env lo (as' ++ .inr (.inr (some i)) :: st) hp na nc ns pc := by
  intro ρ α ls lvl stk ws H locs h
  obtain ⟨h1, h2, h3, h4, h5, h6, hP, hD, hS⟩ := id h
  obtain ⟨x1, rest', rfl, h7, h8'⟩ := R2.appI h5
  obtain ⟨b, rest, rfl, ⟨b', hb1, rfl⟩, h8⟩ := R2.cons_inv h8'
  obtain ⟨ρT, t1, t2⟩ := mtE_ok h1 h2.1.2 hm1
  rw [← h2.1.1] at hm2
  obtain ⟨αT, u1, u2⟩ := mtA_ok hm2
  obtain ⟨wc, w1, w2⟩ := hmt_ok (ca := ca) h1 t1 u1 h6 hm5
  have hav : R2 (vok ρT αT) K.2.1.2.1 (.ref b' :: x1.reverse) := by
    have := vsmt_ok t1 u1 hm4 (R2.rev (R2.app h7 (R2.one (r := vok ρ α) (a := (Sum.inr (Sum.inr (some i)) : eSV)) (b := .ref b') ⟨b', hb1, rfl⟩)))
    simpa using this
  have hPc := hP.sub (ws' := wc) ks (by
    have : ks.filterMap (fun i => ws[i]?) = (ks.map (fun i => ws[i]?)).filterMap id := by rw [List.filterMap_map]; rfl
    rw [this, w1, List.filterMap_map]
    show wc.filterMap some = wc
    exact List.filterMap_some ..)
  have hDc := hD.sub (ws' := wc) ks hm6 w1
  have hFc := va_free (wc := wc) hD hS X.2.2.2.2.2.2.2.1 ks w1
  have hM := hK q hq ρT αT wc H.size _ t2 ⟨by rw [u2, hm3], fmt_ok h1 t1 h2.1.2 hm7⟩ hav w2 (hDc.weaken (fun _ _ _ _ => trivial)) (mtA_px hm2 (cpx_mono h2.2.2 X.2.2.2.2.2.2.2.2.2.2.2) u1)
  obtain ⟨xx, hx1, vs, rfl, _⟩ := rep_cell h hf hb1
  have hG : GoodIn gtbl (wsV own idx qc.1 q.1 (.code q.1 q.2.1 q.2.2.1 q.2.2.2 :: gtbl)) := goodG (fun w hw => by
    rcases List.mem_append.mp hw with hw | hw
    · simp only [List.mem_cons, List.not_mem_nil, or_false] at hw
      rcases hw with rfl | rfl | rfl | rfl
      · exact hw1
      · exact hw2
      · rw [← hcn]; exact hw3
      · rw [← hcn]; exact hw4
    · rcases List.mem_cons.mp hw with rfl | hw
      · exact mtab_in hq
      · exact hw)
  have hrep : eRep s D ca A nL r0 a0 env lo st hp na ρ α ls lvl rest ws H locs := ⟨h1, h2, h3, h4, h8, h6, hP, hD, hS⟩
  have rn := vx_runV (l := l) (e := e) (below := below) (meth := meth) (locs := locs) (cells := cb + nc) (slots := sb + ns) (g := F0 m pc ls (x1 ++ .ref b' :: rest)) (As := x1.reverse) (rest := rest) ⟨X.1, X.2.1, X.2.2.1, X.2.2.2.1, X.2.2.2.2.1⟩ hM (cwV n X.2.2.2.2.1 hG rfl rfl rfl ⟨hcn, hmd⟩ hR) ⟨PcK_blind, va_recv X.2.2.2.2.2.1 hP hc hx1, pre_ok X hPc hS hFc⟩ rfl (by rw [List.length_reverse, ← R2.len h7, hn]) h3.1 (by show x1 ++ .ref b' :: rest = x1.reverse.reverse ++ .ref b' :: rest; simp) (lv_room (by rw [sum_cat h8]; exact hst)) hd hC
  refine ev_callX rn (fun v u t H1 locs1 hu ht hq hl => ?_) (fun qa u t H1 locs1 E ce hu ht hq hce hcv hcl hl => ?_)
  · obtain ⟨⟨v', P, σ, β, ws', e0, p1, p2, p3, p4, p5, p6, p7⟩, f1, f2⟩ := hq
    cases e0
    obtain ⟨r, i1, i2⟩ := kk P p1
    rw [hu] at f1 f2
    rw [ht] at f1 f2 p6
    cases r with
    | none =>
      exfalso
      obtain ⟨e1, q1, q2⟩ := inE_ok h1 t1 p2
      unfold inst at i1
      rw [q1] at i1
      dsimp only at i1
      split at i1 <;> cases i1
    | some S =>
      obtain ⟨wn, hn'⟩ := rep_join hrep t1 u1 u2 w1 hm6 hFc p2 p3 p4 p5 p6 p7 f1 f2 hl i1
      have := i2 S rfl _ _ _ _ _ _ _ _ hn'
      rw [← Nat.add_assoc, ← Nat.add_assoc] at this
      exact this
  · obtain ⟨rfl, ⟨T, p1, σ, β, ws', p2, p3, p5, p6, p7⟩, f1, f2⟩ := hq
    obtain ⟨r, i1, i2⟩ := kx T p1
    rw [hu] at f1 f2
    rw [ht] at f1 f2 p6
    cases r with
    | none =>
      exfalso
      obtain ⟨e1, q1, q2⟩ := inE_ok h1 t1 p2
      unfold inst xpo at i1
      rw [q1] at i1
      dsimp only at i1
      split at i1 <;> cases i1
    | some S =>
      obtain ⟨wn, hn'⟩ := rep_join (v := none) hrep t1 u1 u2 w1 hm6 hFc (P := xpo T) p2 p3 trivial p5 p6 p7 f1 f2 hl i1
      refine vx_catch X.2.2.2.1 [] x [] htab (fun z hz => nomatch hz) hcov hct hlk hcast hce hcv hcl ?_
      rw [hhp]
      obtain ⟨g1, g2, g3, g4, g5, g6⟩ := rep_addr qa hn'
      have := i2 S rfl _ _ _ _ [.ref qa] _ _ _ ⟨g1, g2, g3, g4, ⟨⟨qa, by rw [← hn'.2.1.1.1]; simp, rfl⟩, trivial⟩, g6⟩
      rw [← Nat.add_assoc, ← Nat.add_assoc] at this
      exact this
end
end
