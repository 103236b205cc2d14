noncomputable section
/-! the law again: its loop over the script; number 0 is how long the script is, number 1 how much of it is left -/
section
variable {p : Program} {l : Launch} {e : Env} {R : Room} {s : State} {m : MethodId} {args : Array Value} {below : List Frame} {meth : Method} {c : Code} {Q : State → Prop} {D : va_G} {ca : Nat → ClassId} {A : Nat → Prop} {nL cb sb : Nat} {r0 : List Int} {a0 : List Nat} {own : String} {cc : ByteArray} {env : eEv} {lo : List (Nat × eSV)} {st : List eSV} {hp : eHp} {na : eNa} {nc ns pc : Nat}
theorem g_sld2 (X : eCx p R s m args c D ca A nL own cc a0) {b L i k v0 : Nat} {xs : Nat → Int32} {Lf base f : eLF} {j j2 : Int × Int} (hX : va_X b L xs s s.heap) (hbl : b < s.heap.size) (hbA : ¬ A b) (ha0 : a0[13]? = some b) (hLf : lfv r0 Lf (L : Int)) (hbs : lfv r0 base (i : Int)) (hv : ∀ k, k < 6 → i + k < L → r0[v0 + k]? = some (xs (i + k)).toInt) (hd : decode cc pc = .ok (.iaload, 1))
    (hk : fsub f base = ([], Int.ofNat k)) (hj : irg env f = some j) (hj2 : lrg env (fsub (fpl f 1) Lf).1 = some j2) (hk6 : k < 6) (hle : ile (j2.2 + (fsub (fpl f 1) Lf).2) 0 = true) (kk : eG p l e R s m args below meth c Q D ca A nL cb sb r0 a0 env lo (.inl ([(v0 + k, 1)], 0) :: st) hp na nc ns (pc + 1)) : eG p l e R s m args below meth c Q D ca A nL cb sb r0 a0 env lo (.inl f :: .inr (.inr (some 13)) :: st) hp na nc ns pc := by
  intro ρ α ls lvl stk ws H locs hh
  obtain ⟨x, stk1, rfl, hx, h0⟩ := rep_popI hh
  obtain ⟨a, stk', rfl, h1, h2⟩ := rep_popR h0
  obtain ⟨ρx, hρx⟩ := h2.2.1.2.1
  obtain ⟨αx, hαx⟩ := h2.2.1.2.2
  have e : a = b := by
    have h3 : α[13]? = some b := by rw [← hαx]; exact getE_mono αx ha0
    exact Option.some.inj (h1.symm.trans h3)
  subst e
  have hb' : lfv ρ base (i : Int) := by rw [← hρx]; exact lfv_mono ρx hbs
  have hL' : lfv ρ Lf (L : Int) := by rw [← hρx]; exact lfv_mono ρx hLf
  have q1 := fsub_ok hx hb'
  rw [hk] at q1
  have q2 : x - (i : Int) = (k : Int) := fc_inv q1
  have q3 := lrg_ok h2.1 hj2 (fsub_ok (fpl_ok 1 hx) hL')
  have q4 := q3.2
  have q5 := ile_t hle
  obtain ⟨q6, q7⟩ := irg_ok h2.1 hj hx
  have q8 : x + 1 ≤ (L : Int) := by omega
  have q9 : x = ((i + k : Nat) : Int) := by omega
  have hin : vp_in (Int32.ofInt x) L := vp_in_iff.mpr (by rw [q7]; omega)
  have hcl : (Int32.ofInt x).toNatClampNeg = i + k := by
    rw [eclamp q7, q9]
    exact Int.toNat_natCast _
  refine va_sld X.1 X.2.1 hX hbl hbA h2.2.2.2.2.2.2.2.2 hin hd ?_
  rw [hcl]
  refine kk ρ α ls lvl _ ws H locs (rep_push h2 ⟨(xs (i + k)).toInt, ?_, by rw [Int32.ofInt_toInt]⟩)
  rw [← hρx]
  refine lfv_mono ρx ?_
  show lev r0 [(v0 + k, 1)] = some ((xs (i + k)).toInt - 0)
  rw [lev_mk (q := (v0 + k, 1)) (x := (xs (i + k)).toInt) (y := 0) (hv k hk6 (by omega)) rfl]
  congr 1
  show 1 * _ + 0 = _ - 0
  omega
end
def scr2 (Lf base : eLF) (v0 : Nat) (i : Instr) (S : eSt) : Option eSt := match i, S.2.2.1 with
  | .arraylength, .inr (.inr (some 13)) :: st' => some (S.1, S.2.1, .inl Lf :: st', S.2.2.2.1, S.2.2.2.2.1, S.2.2.2.2.2.1, S.2.2.2.2.2.2.1, S.2.2.2.2.2.2.2 + 1)
  | .iaload, .inl f :: .inr (.inr (some 13)) :: st' => (match fsub f base, irg S.1 f, lrg S.1 (fsub (fpl f 1) Lf).1 with
    | ([], Int.ofNat k), some j, some j2 => bif Nat.blt k 6 && ile (j2.2 + (fsub (fpl f 1) Lf).2) 0 then some (S.1, S.2.1, .inl ([(v0 + k, 1)], 0) :: st', S.2.2.2.1, S.2.2.2.2.1, S.2.2.2.2.2.1, S.2.2.2.2.2.2.1, S.2.2.2.2.2.2.2 + 1) else none
    | _, _, _ => none)
  | _, _ => none
def lstep2 (nL Rf Rl Rc Rs : Nat) (C : eCode) (KS KWS : List eK) (Lf base : eLF) (v0 : Nat) (retB : eAn → eSt → Option eSV → Bool) (rec : eRc) : eRc := fun an S => match rowAt C S.2.2.2.2.2.2.2 with
  | none => none
  | some r => (match scr2 Lf base v0 r.2.1 S with
    | some S' => rec an S'
    | none => bif Nat.ble 300000 r.2.2.2.2.1 then (match kwc Rf Rl Rc Rs KWS r.2.1 r.2.2.2.2.1 an S with
        | some z => runL rec z.1 z.2
        | none => none) else stepR false nL Rf Rl Rc Rs C KS retB rec an S)
section
variable {p : Program} {l : Launch} {e : Env} {R : Room} {s : State} {m : MethodId} {args : Array Value} {below : List Frame} {meth : Method} {c : Code} {Q : State → Prop} {D : va_G} {ca : Nat → ClassId} {A : Nat → Prop} {nL cb sb : Nat} {r0 : List Int} {a0 : List Nat} {own : String} {cc : ByteArray} {env : eEv} {lo : List (Nat × eSV)} {st : List eSV} {hp : eHp} {na : eNa} {nc ns pc : Nat}
theorem lstep2_ok (X : eCx p R s m args c D ca A nL own cc a0) (hl : libW) {Rf Rl Rc Rs : Nat} (hRf : Rf ≤ R.frames) (hRl : Rl ≤ R.locals) (hRc : cb + Rc ≤ R.cells) (hRs : sb + Rs ≤ R.slots) {C : eCode} (hC : codOk own cc C) {KS KWS : List eK} (hKS : ∀ K ∈ KS, KMet l D ca K) (hKW : ∀ K ∈ KWS, kwOk l D ca own K) {retB : eAn → eSt → Option eSV → Bool} {b L i v0 : Nat} {xs : Nat → Int32} {Lf base : eLF}
    (hX : va_X b L xs s s.heap) (hbl : b < s.heap.size) (hbA : ¬ A b) (ha0 : a0[13]? = some b) (hLf : lfv r0 Lf (L : Int)) (hbs : lfv r0 base (i : Int)) (hv : ∀ k, k < 6 → i + k < L → r0[v0 + k]? = some (xs (i + k)).toInt)
    (h0 : ∀ (a : eAn) (env : eEv) (lo : List (Nat × eSV)) (hp : eHp) (na : eNa) (nc ns pc : Nat), decode cc pc = .ok (.return_, 1) → retB a (env, lo, [], hp, na, nc, ns, pc) none = true → eG p l e R s m args below meth c Q D ca A nL cb sb r0 a0 env lo [] hp na nc ns pc)
    (h1 : ∀ (a : eAn) (env : eEv) (lo : List (Nat × eSV)) (hp : eHp) (na : eNa) (nc ns pc : Nat) (f : eLF), decode cc pc = .ok (.ireturn, 1) → retB a (env, lo, [.inl f], hp, na, nc, ns, pc) (some (.inl f)) = true → eG p l e R s m args below meth c Q D ca A nL cb sb r0 a0 env lo [.inl f] hp na nc ns pc)
    (h2 : (∀ (a : eAn) (env : eEv) (lo : List (Nat × eSV)) (hp : eHp) (na : eNa) (nc ns pc : Nat) (f : eLF), decode cc pc = .ok (.lreturn, 1) → retB a (env, lo, [.inr (.inl f)], hp, na, nc, ns, pc) (some (.inr (.inl f))) = true → eG p l e R s m args below meth c Q D ca A nL cb sb r0 a0 env lo [.inr (.inl f)] hp na nc ns pc) ∧ (∀ (a : eAn) (env : eEv) (lo : List (Nat × eSV)) (hp : eHp) (na : eNa) (nc ns pc : Nat) (i : Nat), decode cc pc = .ok (.areturn, 1) → retB a (env, lo, [.inr (.inr (some i))], hp, na, nc, ns, pc) (some (.inr (.inr (some i)))) = true → eG p l e R s m args below meth c Q D ca A nL cb sb r0 a0 env lo [.inr (.inr (some i))] hp na nc ns pc))
    (rec : eRc) (ih' : ∀ an S an', rec an S = some an' → GS p l e R s m args below meth c Q D ca A nL cb sb r0 a0 S) : ∀ (an : List eAn) (S : eSt) (an' : List eAn), lstep2 nL Rf Rl Rc Rs C KS KWS Lf base v0 retB rec an S = some an' → GS p l e R s m args below meth c Q D ca A nL cb sb r0 a0 S := by
      intro an S an' h
      have ih : ∀ an an' S, rec an S = some an' → GS p l e R s m args below meth c Q D ca A nL cb sb r0 a0 S := fun an an' S hr => ih' an S an' hr
      unfold lstep2 at h
      split at h
      · cases h
      · rename_i r hr
        obtain ⟨hd, hw⟩ := rowAt_ok hC hr
        split at h
        · rename_i S' hS'
          have g := ih an an' S' h
          obtain ⟨env, lo, st, hp, na, nc, ns, pc⟩ := S
          obtain ⟨rpc, ii, len, x, y, ps⟩ := r
          dsimp only at hd hw hS'
          unfold scr2 at hS'
          dsimp only at hS'
          split at hS'
          · rename_i st'
            cases hS'
            exact g_slen X hX hbl hbA ha0 hLf hd g
          · rename_i f st'
            split at hS'
            · rename_i k j j2 e1 e2 e3
              cases hb2 : Nat.blt k 6 && ile (j2.2 + (fsub (fpl f 1) Lf).2) 0
              · rw [hb2] at hS'; cases hS'
              · rw [hb2] at hS'
                cases hS'
                rw [Bool.and_eq_true] at hb2
                exact g_sld2 X hX hbl hbA ha0 hLf hbs hv hd e1 e2 e3 (blt_t hb2.1) hb2.2 g
            · cases hS'
          · cases hS'
        · cases hy : Nat.ble 300000 r.2.2.2.2.1
          · rw [hy] at h
            exact stepR_ok X hl (fun z => by cases z) hRf hRl hRc hRs hC hKS h0 h1 h2 (fun a S a' hr => ih a a' S hr) h
          · rw [hy] at h
            dsimp only [cond_true] at h
            split at h
            · rename_i z hz
              have key : ∀ S' ∈ z.2, GS p l e R s m args below meth c Q D ca A nL cb sb r0 a0 S' := by
                intro S' hS'
                obtain ⟨c1, c2, c3⟩ := runL_ok h S' hS'
                exact ih _ _ _ c3
              obtain ⟨env, lo, st, hp, na, nc, ns, pc⟩ := S
              obtain ⟨rpc, ii, len, x, y, ps⟩ := r
              dsimp only at hd hw hz
              unfold kwc at hz
              dsimp only at hz
              split at hz
              · rename_i idx a an1 hscr
                cases hb3 : Nat.beq y (300000 + idx) && Nat.beq (st.take 4).length 4
                · rw [hb3] at hz; cases hz
                · rw [hb3] at hz
                  rw [Bool.and_eq_true] at hb3
                  dsimp only [cond_true] at hz
                  split at hz
                  · rename_i L1 hL1
                    cases hz
                    obtain ⟨K, ks, k1, k2, k3, k4, k5, k6, k7, k8, k9, k10, kf, k11, k12, k13, k14⟩ := callK_ok hL1
                    obtain ⟨q, hh, idx', w0, w1, w2, w3, w4, w5, w6, w7⟩ := hKW K k1
                    have e1 := Nat.eq_of_beq_eq_true hb3.1
                    have e2 : idx' = idx := by omega
                    subst e2
                    have e3 : st = st.take 4 ++ st.drop 4 := (List.take_append_drop 4 st).symm
                    show eG p l e R s m args below meth c Q D ca A nL cb sb r0 a0 env lo st hp na nc ns pc
                    rw [e3]
                    refine g_callSW X w1 hd w2 w3 w4 w5 w6 (Nat.eq_of_beq_eq_true hb3.2) k3 ⟨by omega, by omega⟩ ⟨by omega, by omega⟩ k8 k9 k10 k11 k12 k13 kf (fun P hP => ?_)
                    obtain ⟨r', r1, r2⟩ := instL_ok k14 P hP
                    exact ⟨r', r1, fun S hS => key _ (r2 S hS)⟩
                  · cases hz
              · cases hz
            · cases h
end
def fu6 : Nat := epk [(-2147483648, 2147483647), (-2147483648, 2147483647), (-2147483648, 2147483647), (-2147483648, 2147483647), (-2147483648, 2147483647), (-2147483648, 2147483647)]
def xs6 (xs : Nat → Int32) (i : Nat) : List Int := [(xs i).toInt, (xs (i + 1)).toInt, (xs (i + 2)).toInt, (xs (i + 3)).toInt, (xs (i + 4)).toInt, (xs (i + 5)).toInt]
theorem xs6_get (xs : Nat → Int32) (i k : Nat) (h : k < 6) : (xs6 xs i)[k]? = some (xs (i + k)).toInt := by
  rcases (show k = 0 ∨ k = 1 ∨ k = 2 ∨ k = 3 ∨ k = 4 ∨ k = 5 by omega) with rfl | rfl | rfl | rfl | rfl | rfl <;> rfl
theorem epk_ok : ∀ (l : List (Int × Int)) (xs : List Int), (∀ x ∈ xs, mnL ≤ x ∧ x ≤ mxL) → R2 ivr l xs → ∀ k x, xs[k]? = some x → dOk (epk l) k x
  | [], xs, _, h, k, x, hk => by rw [R2.nil_inv h, List.getElem?_nil] at hk; cases hk
  | i :: l, xs, hxs, h, k, x, hk => by
    obtain ⟨y, ys, rfl, h1, h2⟩ := R2.cons_inv h
    show dOk (epk1 i.1 i.2 (epk l)) k x
    cases k with
    | zero =>
      rw [List.getElem?_cons_zero] at hk
      have e := Option.some.inj hk
      have b := hxs y List.mem_cons_self
      rw [← e]
      exact epk1_ok _ h1.1 h1.2 b.1 b.2
    | succ k =>
      rw [List.getElem?_cons_succ] at hk
      exact (epk1_k _ _).mpr (epk_ok l ys (fun x hx => hxs x (List.mem_cons_of_mem _ hx)) h2 k x hk)
theorem fu6_ok (xs : Nat → Int32) (i : Nat) : ∀ k x, (xs6 xs i)[k]? = some x → dOk fu6 k x := by
  have full : ∀ x : Int32, ivr (-2147483648, 2147483647) x.toInt := fun x => ⟨x.le_toInt, Int.le_of_lt_add_one x.toInt_lt⟩
  refine epk_ok _ _ (fun x hx => ?_) ⟨full _, full _, full _, full _, full _, full _, trivial⟩
  have : ∃ n, x = (xs n).toInt := by
    unfold xs6 at hx
    simp only [List.mem_cons, List.not_mem_nil, or_false] at hx
    rcases hx with h | h | h | h | h | h <;> exact ⟨_, h⟩
  obtain ⟨n, rfl⟩ := this
  exact fullIL _
def efu (E : eEv) : eEv := (Nat.add E.1 6, dcat E.2 (Nat.mul 2 E.1) fu6)
theorem efu_ok {E : eEv} {ρ : List Int} (h : eOk E ρ) (xs : Nat → Int32) (i : Nat) : eOk (efu E) (ρ ++ xs6 xs i) := eOk_cat (σ := xs6 xs i) h (fu6_ok xs i)
def lLf : eLF := ([(0, 1)], 0)
def lBs : eLF := ([(0, 1), (1, -1)], 0)
def lMu : eLF := ([(1, 1)], 0)
def stL (T : eCut) : eSt := (efu T.2.1, T.2.2.1, T.2.2.2.1, T.2.2.2.2.1, T.2.2.2.2.2.1, 0, 0, T.1)
def lawB (Mc Ms : Nat) (_ : eAn) (S : eSt) (v : Option eSV) : Bool := match v with
  | some (.inl f) => fbeq f (fc 1) && Nat.ble S.2.2.2.2.2.1 Mc && Nat.ble S.2.2.2.2.2.2.1 Ms
  | _ => false
/-- a template of the law: its own measure, the room of one round -/
def ltO (Mc Ms : Nat) (T : eCut) : Bool := fbeq T.2.2.2.2.2.2.2.2 lMu && Nat.beq T.2.2.2.2.2.2.1 Mc && Nat.beq T.2.2.2.2.2.2.2.1 Ms && (match lke T.2.1 0, lke T.2.1 1 with
  | some i, some j => ile 0 j.1 && ile j.2 3072 && ile 0 i.1
  | _, _ => false)
def ltB (nL Rf Rl Mc Ms : Nat) (C : eCode) (KS KWS : List eK) (CT : List eCut) (FL : List Nat) (z : eCut × Nat × List eAn) : Bool :=
  match z.2.2 with
    | a :: an => (opG (lstep2 nL Rf Rl Mc Ms C KS KWS lLf lBs z.1.2.1.1 (lawB Mc Ms)) (runF (lstep2 nL Rf Rl Mc Ms C KS KWS lLf lBs z.1.2.1.1 (lawB Mc Ms)) CT FL 1 14 (some lMu) z.2.1) a an (stL z.1)).isSome
    | [] => false
section
variable {p : Program} {l : Launch} {e : Env} {R : Room} {s : State} {m : MethodId} {args : Array Value} {below : List Frame} {meth : Method} {c : Code} {Q : State → Prop} {D : va_G} {ca : Nat → ClassId} {A : Nat → Prop} {nL : Nat} {a0 : List Nat} {own : String} {cc : ByteArray} {env : eEv} {lo : List (Nat × eSV)} {st : List eSV} {hp : eHp} {na : eNa} {nc ns pc : Nat}
theorem law_loop (X : eCx p R s m args c D ca A nL own cc a0) {Rf Rl Mc Ms c0 s0 : Nat} (hRf : Rf ≤ R.frames) (hRl : Rl ≤ R.locals) (hRc : c0 + Mc * 3073 ≤ R.cells) (hRs : s0 + Ms * 3073 ≤ R.slots) {C : eCode} (hC : codOk own cc C) {KS KWS : List eK} (hKS : ∀ K ∈ KS, KMet l D ca K) (hKW : ∀ K ∈ KWS, kwOk l D ca own K) {CT : List eCut} {FL : List Nat} {b L : Nat} {xs : Nat → Int32}
    (hX : va_X b L xs s s.heap) (hbl : b < s.heap.size) (hbA : ¬ A b) (ha0 : a0[13]? = some b) (ha1 : a0.length = 14) (hL : L ≤ 3072)
    (hO : ∀ T ∈ CT, ltO Mc Ms T = true) (hZ : ∀ T ∈ CT, ∃ n an, ltB nL Rf Rl Mc Ms C KS KWS CT FL (T, n, an) = true)
    (hret : ∀ (cb sb : Nat) (r1 : List Int) (a1 : List Nat), cb ≤ c0 + Mc * 3072 → sb ≤ s0 + Ms * 3072 → ∀ (a : eAn) (env : eEv) (lo : List (Nat × eSV)) (hp : eHp) (na : eNa) (nc ns pc : Nat) (f : eLF), decode cc pc = .ok (.ireturn, 1) → lawB Mc Ms a (env, lo, [.inl f], hp, na, nc, ns, pc) (some (.inl f)) = true → eG p l e R s m args below meth c Q D ca A nL cb sb r1 a1 env lo [.inl f] hp na nc ns pc) :
    ∀ (N : Nat) (T : eCut), T ∈ CT → ∀ (ρ : List Int) (α : List Nat) (ls : Array Slot) (lvl : List (Nat × Value)) (stk : List Value) (ws : va_W) (H : Heap) (locs : List Loc), eRep s D ca A nL [(L : Int)] a0 T.2.1 T.2.2.1 T.2.2.2.1 T.2.2.2.2.1 T.2.2.2.2.2.1 ρ α ls lvl stk ws H locs → ∀ x, lfv ρ lMu x → x < (N : Int) → x ≤ (L : Int) →
      W p l e R s m args below meth c H locs (c0 + Mc * (3072 - x).toNat) (s0 + Ms * (3072 - x).toNat) Q (F0 m T.1 ls stk) := by
  intro N
  induction N with
  | zero =>
    intro T hT ρ α ls lvl stk ws H locs hh x hx hN _
    exfalso
    have h0 := hO T hT
    unfold ltO at h0
    rw [Bool.and_eq_true] at h0
    have h1 := h0.2
    split at h1
    · rename_i i j hi hj
      simp only [Bool.and_eq_true] at h1
      obtain ⟨y1, e1, hy1⟩ := lke_ok hh.1 hj
      have hx1 : lfv ρ lMu y1 := by
        show lev ρ [(1, 1)] = some (y1 - 0)
        rw [lev_mk (q := (1, 1)) (x := y1) (y := 0) e1 rfl]
        congr 1
        show 1 * _ + 0 = _ - 0
        omega
      have e2 := lfv_fun hx hx1
      have q1 := ile_t h1.1.1
      have q2 := hy1.1
      omega
    · cases h1
  | succ N ih =>
    intro T hT ρ α ls lvl stk ws H locs hh x hx hN hxL
    have h0 := hO T hT
    unfold ltO at h0
    rw [Bool.and_eq_true, Bool.and_eq_true, Bool.and_eq_true] at h0
    obtain ⟨⟨⟨h01, h02⟩, h03⟩, h04⟩ := h0
    have hx0 : 0 ≤ x := by
      split at h04
      · rename_i i j hi hj
        simp only [Bool.and_eq_true] at h04
        obtain ⟨y1, e1, hy1⟩ := lke_ok hh.1 hj
        have hx1 : lfv ρ lMu y1 := by
          show lev ρ [(1, 1)] = some (y1 - 0)
          rw [lev_mk (q := (1, 1)) (x := y1) (y := 0) e1 rfl]
          congr 1
          show 1 * _ + 0 = _ - 0
          omega
        have e2 := lfv_fun hx hx1
        have q1 := ile_t h04.1.1
        have q2 := hy1.1
        omega
      · cases h04
    obtain ⟨n1, an0, hz⟩ := hZ T hT
    obtain ⟨i, hi⟩ : ∃ i : Nat, (L : Int) - x = (i : Int) := ⟨((L : Int) - x).toNat, by omega⟩
    have z1 : [(L : Int)] <+: ρ := hh.2.1.2.1
    have z2 : a0 <+: α := hh.2.1.2.2
    obtain ⟨ρx, hρx⟩ := z1
    have hρ0 : lfv ρ lLf (L : Int) := by
      rw [← hρx]
      show lev ((L : Int) :: ρx) [(0, 1)] = some ((L : Int) - 0)
      rw [lev_mk (q := (0, 1)) (x := (L : Int)) (y := 0) rfl rfl]
      congr 1
      show 1 * _ + 0 = _ - 0
      omega
    have hbs : lfv ρ lBs (i : Int) := by
      have q := fsub_ok hρ0 hx
      have e : fsub lLf lMu = lBs := by decide
      rw [e, hi] at q
      exact q
    have hlen : T.2.1.1 = ρ.length := hh.1.1.symm
    have z1' : [(L : Int)] <+: ρ ++ xs6 xs i := List.IsPrefix.trans ⟨ρx, hρx⟩ (List.prefix_append _ _)
    have hv : ∀ k, k < 6 → i + k < L → (ρ ++ xs6 xs i)[T.2.1.1 + k]? = some (xs (i + k)).toInt := by
      intro k hk _
      rw [hlen, List.getElem?_append_right (Nat.le_add_right _ _), Nat.add_sub_cancel_left]
      exact xs6_get xs i k hk
    have hcb : c0 + Mc * (3072 - x).toNat ≤ c0 + Mc * 3072 := Nat.add_le_add_left (Nat.mul_le_mul_left _ (by omega)) _
    have hsb : s0 + Ms * (3072 - x).toNat ≤ s0 + Ms * 3072 := Nat.add_le_add_left (Nat.mul_le_mul_left _ (by omega)) _
    have hRc' : (c0 + Mc * (3072 - x).toNat) + Mc ≤ R.cells := by
      have e : Mc * 3073 = Mc * 3072 + Mc := by omega
      omega
    have hRs' : (s0 + Ms * (3072 - x).toNat) + Ms ≤ R.slots := by
      have e : Ms * 3073 = Ms * 3072 + Ms := by omega
      omega
    unfold ltB at hz
    split at hz
    · rename_i a1 an1 hane
      obtain ⟨an2, hs⟩ := Option.isSome_iff_exists.mp hz
      have hstF : ∀ rec : eRc, (∀ an S an', rec an S = some an' → GS p l e R s m args below meth c Q D ca A nL (c0 + Mc * (3072 - x).toNat) (s0 + Ms * (3072 - x).toNat) (ρ ++ xs6 xs i) α S) → ∀ an S an', lstep2 nL Rf Rl Mc Ms C KS KWS lLf lBs T.2.1.1 (lawB Mc Ms) rec an S = some an' → GS p l e R s m args below meth c Q D ca A nL (c0 + Mc * (3072 - x).toNat) (s0 + Ms * (3072 - x).toNat) (ρ ++ xs6 xs i) α S := fun rec hrec =>
        lstep2_ok (eCx_mono X z2) hlib hRf hRl hRc' hRs' hC hKS hKW hX hbl hbA (by obtain ⟨αx, hαx⟩ := z2; rw [← hαx]; exact getE_mono αx ha0) (lfv_mono _ hρ0) (lfv_mono _ hbs) hv
          (fun a env lo hp na nc ns pc hd hq => by cases hq) (hret _ _ _ _ hcb hsb)
          ⟨fun a env lo hp na nc ns pc f hd hq => (by cases hq), fun a env lo hp na nc ns pc i hd hq => (by cases hq)⟩ rec hrec
      have ihr : ∀ an S an', runF (lstep2 nL Rf Rl Mc Ms C KS KWS lLf lBs T.2.1.1 (lawB Mc Ms)) CT FL 1 14 (some lMu) n1 an S = some an' → GS p l e R s m args below meth c Q D ca A nL (c0 + Mc * (3072 - x).toNat) (s0 + Ms * (3072 - x).toNat) (ρ ++ xs6 xs i) α S := fun an S an' hr => runF_ok hstF (fun a' S' hc => cut_ok z1' z2 rfl ha1 (fun μ hμ => by cases hμ; exact ⟨x, lfv_mono _ hx⟩) hc (fun T' hT' ρ2 α2 ls2 lvl2 stk2 ws2 H2 locs2 hh2 hm2 => by
          obtain ⟨y, y1, y2⟩ := hm2 _ x rfl (lfv_mono _ hx)
          have g0 := hO T' hT'
          unfold ltO at g0
          rw [Bool.and_eq_true, Bool.and_eq_true, Bool.and_eq_true] at g0
          obtain ⟨⟨⟨g01, g02⟩, g03⟩, -⟩ := g0
          have e1 := fbeq_t g01
          have e2 := Nat.eq_of_beq_eq_true g02
          have e3 := Nat.eq_of_beq_eq_true g03
          rw [e1] at y1
          have w := ih T' hT' ρ2 α2 ls2 lvl2 stk2 ws2 H2 locs2 hh2 y y1 (by omega) (by omega)
          have k1 : (3072 - x).toNat + 1 ≤ (3072 - y).toNat := by omega
          have k2 := Nat.mul_le_mul_left Mc k1
          have k3 := Nat.mul_le_mul_left Ms k1
          rw [Nat.mul_succ] at k2 k3
          exact W.widen (by rw [e2]; omega) (by rw [e3]; omega) w)) n1 an S an' hr
      have G := opG_ok (S := stL T) ihr (hstF _ ihr) hs
      have hr2 := rep_env (env' := efu T.2.1) (σ := xs6 xs i) hh (efu_ok hh.1 xs i)
      exact G _ α ls lvl stk ws H locs ⟨hr2.1, ⟨hr2.2.1.1, List.prefix_refl _, List.prefix_refl _⟩, hr2.2.2⟩
    · cases hz
end
end
