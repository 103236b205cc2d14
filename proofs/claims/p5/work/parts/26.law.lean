noncomputable section
/-! the law's own walk: the script's rows, the calls of methods with handlers -/
section
variable {p : Program} {l : Launch} {e : Env} {R : Room} {s : State} {m : MethodId} {args : Array Value} {below : List Frame} {meth : Method} {c : Code} {Q : State → Prop} {D : va_G} {ca : Nat → ClassId} {A : Nat → Prop} {nL cb sb : Nat} {r0 : List Int} {a0 : List Nat} {own : String} {cc : ByteArray} {env : eEv} {lo : List (Nat × eSV)} {st : List eSV} {hp : eHp} {na : eNa} {nc ns pc : Nat}
theorem g_slen (X : eCx p R s m args c D ca A nL own cc a0) {b L : Nat} {xs : Nat → Int32} {Lf : eLF} (hX : va_X b L xs s s.heap) (hbl : b < s.heap.size) (hbA : ¬ A b) (ha0 : a0[13]? = some b) (hLf : lfv r0 Lf (L : Int)) (hd : decode cc pc = .ok (.arraylength, 1)) (kk : eG p l e R s m args below meth c Q D ca A nL cb sb r0 a0 env lo (.inl Lf :: st) hp na nc ns (pc + 1)) : eG p l e R s m args below meth c Q D ca A nL cb sb r0 a0 env lo (.inr (.inr (some 13)) :: st) hp na nc ns pc := by
  intro ρ α ls lvl stk ws H locs hh
  obtain ⟨a, stk', rfl, h1, h2⟩ := rep_popR hh
  obtain ⟨ρx, hρx⟩ := h2.2.1.2.1
  obtain ⟨αx, hαx⟩ := h2.2.1.2.2
  have e : a = b := by
    have h3 : α[13]? = some b := by rw [← hαx]; exact getE_mono αx ha0
    exact Option.some.inj (h1.symm.trans h3)
  subst e
  refine va_slen X.1 X.2.1 hX hbl hbA h2.2.2.2.2.2.2.2.2 hd ?_
  refine kk ρ α ls lvl _ ws H locs (rep_push h2 ⟨(L : Int), by rw [← hρx]; exact lfv_mono ρx hLf, ?_⟩)
  congr 1
theorem g_sld (X : eCx p R s m args c D ca A nL own cc a0) {b L i k v0 : Nat} {xs : Nat → Int32} {Lf base f : eLF} {j j2 : Int × Int} (hX : va_X b L xs s s.heap) (hbl : b < s.heap.size) (hbA : ¬ A b) (ha0 : a0[13]? = some b) (hLf : lfv r0 Lf (L : Int)) (hbs : lfv r0 base (i : Int)) (hv : ∀ k, k < 6 → i + k < L → r0[v0 + k]? = some (xs (i + k)).toInt) (hd : decode cc pc = .ok (.iaload, 1))
    (hk : fsub f base = ([], Int.ofNat k)) (hj : irg env f = some j) (hj2 : lrg env (fsub (fpl f 1) Lf).1 = some j2) (hk6 : k < 6) (hj0 : ile 0 j.1 = true) (hle : ile (j2.2 + (fsub (fpl f 1) Lf).2) 0 = true) (kk : eG p l e R s m args below meth c Q D ca A nL cb sb r0 a0 env lo (.inl ([(v0 + k, 1)], 0) :: st) hp na nc ns (pc + 1)) : eG p l e R s m args below meth c Q D ca A nL cb sb r0 a0 env lo (.inl f :: .inr (.inr (some 13)) :: st) hp na nc ns pc := by
  intro ρ α ls lvl stk ws H locs hh
  obtain ⟨x, stk1, rfl, hx, h0⟩ := rep_popI hh
  obtain ⟨a, stk', rfl, h1, h2⟩ := rep_popR h0
  obtain ⟨ρx, hρx⟩ := h2.2.1.2.1
  obtain ⟨αx, hαx⟩ := h2.2.1.2.2
  have e : a = b := by
    have h3 : α[13]? = some b := by rw [← hαx]; exact getE_mono αx ha0
    exact Option.some.inj (h1.symm.trans h3)
  subst e
  have hb' : lfv ρ base (i : Int) := by rw [← hρx]; exact lfv_mono ρx hbs
  have hL' : lfv ρ Lf (L : Int) := by rw [← hρx]; exact lfv_mono ρx hLf
  have q1 := fsub_ok hx hb'
  rw [hk] at q1
  have q2 : x - (i : Int) = (k : Int) := fc_inv q1
  have q3 := lrg_ok h2.1 hj2 (fsub_ok (fpl_ok 1 hx) hL')
  have q4 := q3.2
  have q5 := ile_t hle
  obtain ⟨q6, q7⟩ := irg_ok h2.1 hj hx
  have q8 : x + 1 ≤ (L : Int) := by omega
  have q9 : x = ((i + k : Nat) : Int) := by omega
  have hin : vp_in (Int32.ofInt x) L := vp_in_iff.mpr (by rw [q7]; omega)
  have hcl : (Int32.ofInt x).toNatClampNeg = i + k := by
    rw [eclamp q7, q9]
    exact Int.toNat_natCast _
  refine va_sld X.1 X.2.1 hX hbl hbA h2.2.2.2.2.2.2.2.2 hin hd ?_
  rw [hcl]
  refine kk ρ α ls lvl _ ws H locs (rep_push h2 ⟨(xs (i + k)).toInt, ?_, by rw [Int32.ofInt_toInt]⟩)
  rw [← hρx]
  refine lfv_mono ρx ?_
  show lev r0 [(v0 + k, 1)] = some ((xs (i + k)).toInt - 0)
  rw [lev_mk (q := (v0 + k, 1)) (x := (xs (i + k)).toInt) (y := 0) (hv k hk6 (by omega)) rfl]
  congr 1
  show 1 * _ + 0 = _ - 0
  omega
theorem g_callSW (X : eCx p R s m args c D ca A nL own cc a0) {K : eK} {q : MethodName × ByteArray × Nat × Option FieldType} {hh : List (Nat × Nat × Nat × Nat)} {idx n : Nat} {ar : List eSV} {τ : List eTi} {θ ks : List Nat} (hK : KWMet l D ca K q hh) (hd : decode cc pc = .ok (.invokestatic idx, 3)) (hw0 : Cond.codeWith q.1 q.2.1 q.2.2.1 q.2.2.2 hh ∈ gtbl)
    (hw1 : Cond.methodLink own idx q.1 ∈ gtbl) (hw2 : Cond.static q.1 ∈ gtbl) (hw4 : Cond.initialized q.1.cls ∈ gtbl) (hmd : mdOk q.1 n) (hn : ar.length = n) (hst : (st.map ecat).sum ≤ 8)
    (hR : K.2.2.2.2.2 + 1 ≤ R.frames ∧ 8 + (q.2.2.1 + 11) + 60 * K.2.2.2.2.2 ≤ R.locals) (hC : cb + nc + K.2.2.2.1 ≤ R.cells ∧ sb + ns + K.2.2.2.2.1 ≤ R.slots)
    (hm1 : mtE env na.2 τ K.2.1.1 = true) (hm2 : mtA na.1 θ = true) (hm3 : θ.length = K.2.1.2.2.2.1) (hm4 : vsmt τ θ ar.reverse K.2.1.2.1 = true) (hm5 : hmt env τ θ hp K.2.1.2.2.1 = some ks) (hm6 : va_nd ks = true) {hs : List (List Nat)} (hm7 : fmt env na.2 τ hs K.2.1.2.2.2.2 = true)
    (kk : ∀ P ∈ K.2.2.1, ∃ r, inst env hp na τ θ ks P = some r ∧ ∀ S, r = some S → eG p l e R s m args below meth c Q D ca A nL cb sb r0 a0 S.1 lo (S.2.1 ++ st) S.2.2.1 S.2.2.2 (nc + K.2.2.2.1) (ns + K.2.2.2.2.1) (pc + 3)) : eG p l e R s m args below meth c Q D ca A nL cb sb r0 a0 env lo (ar ++ st) hp na nc ns pc := by
  refine g_core X.2.2.2.2.2.2.2.1 X.2.2.2.2.2.2.2.2.2.2.2 hm1 hm2 hm3 hm4 hm5 hm6 hm7 (fun ρ ρT α αT ls lvl av rest ws wc H locs hrep hrest har hE ha hav hh hDc hPc hFc hcp => ?_) kk
  have hM := hK ρT αT wc H.size _ hE ha hav hh hDc hcp
  have hG : GoodIn gtbl (va_wsS own idx q.1 (.codeWith q.1 q.2.1 q.2.2.1 q.2.2.2 _ :: gtbl)) := goodG (fun w hw => by
    rcases List.mem_append.mp hw with hw | hw
    · simp only [List.mem_cons, List.not_mem_nil, or_false] at hw
      rcases hw with rfl | rfl | rfl
      · exact hw1
      · exact hw2
      · exact hw4
    · rcases List.mem_cons.mp hw with rfl | hw
      · exact hw0
      · exact hw)
  refine vx_runSW (As := av) (rest := rest) ⟨X.1, X.2.1, X.2.2.1, X.2.2.2.1, X.2.2.2.2.1⟩ hM (vx_cwSW n X.2.2.2.2.1 hG rfl rfl rfl hmd hR) ⟨PcK_blind, pre_ok X hPc hrep.2.2.2.2.2.2.2.2 hFc⟩ rfl ?_ hrep.2.2.1.1 rfl (lv_room (by rw [sum_cat hrest]; exact hst)) hd hC
  rw [← hn, R2.len har, List.length_reverse]
end
def scr (Lf base : eLF) (v0 : Nat) (i : Instr) (S : eSt) : Option eSt := match i, S.2.2.1 with
  | .arraylength, .inr (.inr (some 13)) :: st' => some (S.1, S.2.1, .inl Lf :: st', S.2.2.2.1, S.2.2.2.2.1, S.2.2.2.2.2.1, S.2.2.2.2.2.2.1, S.2.2.2.2.2.2.2 + 1)
  | .iaload, .inl f :: .inr (.inr (some 13)) :: st' => (match fsub f base, irg S.1 f, lrg S.1 (fsub (fpl f 1) Lf).1 with
    | ([], Int.ofNat k), some j, some j2 => bif Nat.blt k 6 && ile 0 j.1 && ile (j2.2 + (fsub (fpl f 1) Lf).2) 0 then some (S.1, S.2.1, .inl ([(v0 + k, 1)], 0) :: st', S.2.2.2.1, S.2.2.2.2.1, S.2.2.2.2.2.1, S.2.2.2.2.2.2.1, S.2.2.2.2.2.2.2 + 1) else none
    | _, _, _ => none)
  | _, _ => none
def kwc (Rf Rl Rc Rs : Nat) (KWS : List eK) (i : Instr) (y : Nat) (an : List eAn) (S : eSt) : Option (List eAn × List eSt) := match i, an with
  | .invokestatic idx, a :: an' => bif Nat.beq y (300000 + idx) && Nat.beq (S.2.2.1.take 4).length 4 then (match callK Rf Rl Rc Rs KWS a y (S.2.2.1.take 4) (S.2.2.1.drop 4) S.1 S.2.1 S.2.2.2.1 S.2.2.2.2.1 S.2.2.2.2.2.1 S.2.2.2.2.2.2.1 S.2.2.2.2.2.2.2 with
      | some L => some (an', L)
      | none => none) else none
  | _, _ => none
def lstep (nL Rf Rl Rc Rs : Nat) (C : eCode) (KS KWS : List eK) (Lf base : eLF) (v0 : Nat) (retB : eAn → eSt → Option eSV → Bool) (rec : eRc) : eRc := fun an S => match rowAt C S.2.2.2.2.2.2.2 with
  | none => none
  | some r => (match scr Lf base v0 r.2.1 S with
    | some S' => rec an S'
    | none => bif Nat.ble 300000 r.2.2.2.2.1 then (match kwc Rf Rl Rc Rs KWS r.2.1 r.2.2.2.2.1 an S with
        | some z => runL rec z.1 z.2
        | none => none) else stepR false nL Rf Rl Rc Rs C KS retB rec an S)
abbrev lrun (nL Rf Rl Rc Rs : Nat) (C : eCode) (KS KWS : List eK) (CT : List eCut) (FL : List Nat) (nv0 na0 : Nat) (mu : Option eLF) (Lf base : eLF) (v0 : Nat) (retB : eAn → eSt → Option eSV → Bool) : Nat → eRc := runF (lstep nL Rf Rl Rc Rs C KS KWS Lf base v0 retB) CT FL nv0 na0 mu
def kwOk (l : Launch) (D : va_G) (ca : Nat → ClassId) (own : String) (K : eK) : Prop := ∃ (q : MethodName × ByteArray × Nat × Option FieldType) (hh : List (Nat × Nat × Nat × Nat)) (idx : Nat), K.1 = 300000 + idx ∧ KWMet l D ca K q hh ∧ Cond.codeWith q.1 q.2.1 q.2.2.1 q.2.2.2 hh ∈ gtbl ∧ Cond.methodLink own idx q.1 ∈ gtbl ∧ Cond.static q.1 ∈ gtbl ∧ Cond.initialized q.1.cls ∈ gtbl ∧ mdOk q.1 4 ∧ q.2.2.1 ≤ 40
section
variable {p : Program} {l : Launch} {e : Env} {R : Room} {s : State} {m : MethodId} {args : Array Value} {below : List Frame} {meth : Method} {c : Code} {Q : State → Prop} {D : va_G} {ca : Nat → ClassId} {A : Nat → Prop} {nL cb sb : Nat} {r0 : List Int} {a0 : List Nat} {own : String} {cc : ByteArray} {env : eEv} {lo : List (Nat × eSV)} {st : List eSV} {hp : eHp} {na : eNa} {nc ns pc : Nat}
theorem lstep_ok (X : eCx p R s m args c D ca A nL own cc a0) (hl : libW) {Rf Rl Rc Rs : Nat} (hRf : Rf ≤ R.frames) (hRl : Rl ≤ R.locals) (hRc : cb + Rc ≤ R.cells) (hRs : sb + Rs ≤ R.slots) {C : eCode} (hC : codOk own cc C) {KS KWS : List eK} (hKS : ∀ K ∈ KS, KMet l D ca K) (hKW : ∀ K ∈ KWS, kwOk l D ca own K) {retB : eAn → eSt → Option eSV → Bool} {b L i v0 : Nat} {xs : Nat → Int32} {Lf base : eLF}
    (hX : va_X b L xs s s.heap) (hbl : b < s.heap.size) (hbA : ¬ A b) (ha0 : a0[13]? = some b) (hLf : lfv r0 Lf (L : Int)) (hbs : lfv r0 base (i : Int)) (hv : ∀ k, k < 6 → i + k < L → r0[v0 + k]? = some (xs (i + k)).toInt)
    (h0 : ∀ (a : eAn) (env : eEv) (lo : List (Nat × eSV)) (hp : eHp) (na : eNa) (nc ns pc : Nat), decode cc pc = .ok (.return_, 1) → retB a (env, lo, [], hp, na, nc, ns, pc) none = true → eG p l e R s m args below meth c Q D ca A nL cb sb r0 a0 env lo [] hp na nc ns pc)
    (h1 : ∀ (a : eAn) (env : eEv) (lo : List (Nat × eSV)) (hp : eHp) (na : eNa) (nc ns pc : Nat) (f : eLF), decode cc pc = .ok (.ireturn, 1) → retB a (env, lo, [.inl f], hp, na, nc, ns, pc) (some (.inl f)) = true → eG p l e R s m args below meth c Q D ca A nL cb sb r0 a0 env lo [.inl f] hp na nc ns pc)
    (h2 : (∀ (a : eAn) (env : eEv) (lo : List (Nat × eSV)) (hp : eHp) (na : eNa) (nc ns pc : Nat) (f : eLF), decode cc pc = .ok (.lreturn, 1) → retB a (env, lo, [.inr (.inl f)], hp, na, nc, ns, pc) (some (.inr (.inl f))) = true → eG p l e R s m args below meth c Q D ca A nL cb sb r0 a0 env lo [.inr (.inl f)] hp na nc ns pc) ∧ (∀ (a : eAn) (env : eEv) (lo : List (Nat × eSV)) (hp : eHp) (na : eNa) (nc ns pc : Nat) (i : Nat), decode cc pc = .ok (.areturn, 1) → retB a (env, lo, [.inr (.inr (some i))], hp, na, nc, ns, pc) (some (.inr (.inr (some i)))) = true → eG p l e R s m args below meth c Q D ca A nL cb sb r0 a0 env lo [.inr (.inr (some i))] hp na nc ns pc))
    (rec : eRc) (ih' : ∀ an S an', rec an S = some an' → GS p l e R s m args below meth c Q D ca A nL cb sb r0 a0 S) : ∀ (an : List eAn) (S : eSt) (an' : List eAn), lstep nL Rf Rl Rc Rs C KS KWS Lf base v0 retB rec an S = some an' → GS p l e R s m args below meth c Q D ca A nL cb sb r0 a0 S := by
      intro an S an' h
      have ih : ∀ an an' S, rec an S = some an' → GS p l e R s m args below meth c Q D ca A nL cb sb r0 a0 S := fun an an' S hr => ih' an S an' hr
      unfold lstep at h
      split at h
      · cases h
      · rename_i r hr
        obtain ⟨hd, hw⟩ := rowAt_ok hC hr
        split at h
        · rename_i S' hS'
          have g := ih an an' S' h
          obtain ⟨env, lo, st, hp, na, nc, ns, pc⟩ := S
          obtain ⟨rpc, ii, len, x, y, ps⟩ := r
          dsimp only at hd hw hS'
          unfold scr at hS'
          dsimp only at hS'
          split at hS'
          · rename_i st'
            cases hS'
            exact g_slen X hX hbl hbA ha0 hLf hd g
          · rename_i f st'
            split at hS'
            · rename_i k j j2 e1 e2 e3
              cases hb2 : Nat.blt k 6 && ile 0 j.1 && ile (j2.2 + (fsub (fpl f 1) Lf).2) 0
              · rw [hb2] at hS'; cases hS'
              · rw [hb2] at hS'
                cases hS'
                rw [Bool.and_eq_true, Bool.and_eq_true] at hb2
                exact g_sld X hX hbl hbA ha0 hLf hbs hv hd e1 e2 e3 (blt_t hb2.1.1) hb2.1.2 hb2.2 g
            · cases hS'
          · cases hS'
        · cases hy : Nat.ble 300000 r.2.2.2.2.1
          · rw [hy] at h
            exact stepR_ok X hl (fun z => by cases z) hRf hRl hRc hRs hC hKS h0 h1 h2 (fun a S a' hr => ih a a' S hr) h
          · rw [hy] at h
            dsimp only [cond_true] at h
            split at h
            · rename_i z hz
              have key : ∀ S' ∈ z.2, GS p l e R s m args below meth c Q D ca A nL cb sb r0 a0 S' := by
                intro S' hS'
                obtain ⟨c1, c2, c3⟩ := runL_ok h S' hS'
                exact ih _ _ _ c3
              obtain ⟨env, lo, st, hp, na, nc, ns, pc⟩ := S
              obtain ⟨rpc, ii, len, x, y, ps⟩ := r
              dsimp only at hd hw hz
              unfold kwc at hz
              dsimp only at hz
              split at hz
              · rename_i idx a an1 hscr
                cases hb3 : Nat.beq y (300000 + idx) && Nat.beq (st.take 4).length 4
                · rw [hb3] at hz; cases hz
                · rw [hb3] at hz
                  rw [Bool.and_eq_true] at hb3
                  dsimp only [cond_true] at hz
                  split at hz
                  · rename_i L1 hL1
                    cases hz
                    obtain ⟨K, ks, k1, k2, k3, k4, k5, k6, k7, k8, k9, k10, kf, k11, k12, k13, k14⟩ := callK_ok hL1
                    obtain ⟨q, hh, idx', w0, w1, w2, w3, w4, w5, w6, w7⟩ := hKW K k1
                    have e1 := Nat.eq_of_beq_eq_true hb3.1
                    have e2 : idx' = idx := by omega
                    subst e2
                    have e3 : st = st.take 4 ++ st.drop 4 := (List.take_append_drop 4 st).symm
                    show eG p l e R s m args below meth c Q D ca A nL cb sb r0 a0 env lo st hp na nc ns pc
                    rw [e3]
                    refine g_callSW X w1 hd w2 w3 w4 w5 w6 (Nat.eq_of_beq_eq_true hb3.2) k3 ⟨by omega, by omega⟩ ⟨by omega, by omega⟩ k8 k9 k10 k11 k12 k13 kf (fun P hP => ?_)
                    obtain ⟨r', r1, r2⟩ := instL_ok k14 P hP
                    exact ⟨r', r1, fun S hS => key _ (r2 S hS)⟩
                  · cases hz
              · cases hz
            · cases h
theorem lrun_ok (X : eCx p R s m args c D ca A nL own cc a0) (hl : libW) {Rf Rl Rc Rs : Nat} (hRf : Rf ≤ R.frames) (hRl : Rl ≤ R.locals) (hRc : cb + Rc ≤ R.cells) (hRs : sb + Rs ≤ R.slots) {C : eCode} (hC : codOk own cc C) {KS KWS : List eK} (hKS : ∀ K ∈ KS, KMet l D ca K) (hKW : ∀ K ∈ KWS, kwOk l D ca own K) {CT : List eCut} {FL : List Nat} {nv0 na0 : Nat} {mu : Option eLF} {retB : eAn → eSt → Option eSV → Bool} {b L i v0 : Nat} {xs : Nat → Int32} {Lf base : eLF}
    (hX : va_X b L xs s s.heap) (hbl : b < s.heap.size) (hbA : ¬ A b) (ha0 : a0[13]? = some b) (hLf : lfv r0 Lf (L : Int)) (hbs : lfv r0 base (i : Int)) (hv : ∀ k, k < 6 → i + k < L → r0[v0 + k]? = some (xs (i + k)).toInt)
    (h0 : ∀ (a : eAn) (env : eEv) (lo : List (Nat × eSV)) (hp : eHp) (na : eNa) (nc ns pc : Nat), decode cc pc = .ok (.return_, 1) → retB a (env, lo, [], hp, na, nc, ns, pc) none = true → eG p l e R s m args below meth c Q D ca A nL cb sb r0 a0 env lo [] hp na nc ns pc)
    (h1 : ∀ (a : eAn) (env : eEv) (lo : List (Nat × eSV)) (hp : eHp) (na : eNa) (nc ns pc : Nat) (f : eLF), decode cc pc = .ok (.ireturn, 1) → retB a (env, lo, [.inl f], hp, na, nc, ns, pc) (some (.inl f)) = true → eG p l e R s m args below meth c Q D ca A nL cb sb r0 a0 env lo [.inl f] hp na nc ns pc)
    (h2 : (∀ (a : eAn) (env : eEv) (lo : List (Nat × eSV)) (hp : eHp) (na : eNa) (nc ns pc : Nat) (f : eLF), decode cc pc = .ok (.lreturn, 1) → retB a (env, lo, [.inr (.inl f)], hp, na, nc, ns, pc) (some (.inr (.inl f))) = true → eG p l e R s m args below meth c Q D ca A nL cb sb r0 a0 env lo [.inr (.inl f)] hp na nc ns pc) ∧ (∀ (a : eAn) (env : eEv) (lo : List (Nat × eSV)) (hp : eHp) (na : eNa) (nc ns pc : Nat) (i : Nat), decode cc pc = .ok (.areturn, 1) → retB a (env, lo, [.inr (.inr (some i))], hp, na, nc, ns, pc) (some (.inr (.inr (some i)))) = true → eG p l e R s m args below meth c Q D ca A nL cb sb r0 a0 env lo [.inr (.inr (some i))] hp na nc ns pc))
    (hcut : ∀ (a : eAn) (S : eSt), cutB CT nv0 na0 mu a S = true → GS p l e R s m args below meth c Q D ca A nL cb sb r0 a0 S) (n : Nat) (an an' : List eAn) (S : eSt) (h : lrun nL Rf Rl Rc Rs C KS KWS CT FL nv0 na0 mu Lf base v0 retB n an S = some an') : GS p l e R s m args below meth c Q D ca A nL cb sb r0 a0 S :=
  runF_ok (fun rec hrec => lstep_ok X hl hRf hRl hRc hRs hC hKS hKW hX hbl hbA ha0 hLf hbs hv h0 h1 h2 rec hrec) hcut n an S an' h
end
end
