noncomputable section
/-! the walk of a method, as a function -/
abbrev eAn : Type := Nat × List eTi × List Nat × List (List Nat)
abbrev eRow : Type := Nat × Instr × Nat × Nat × Nat × List Nat
abbrev eCode : Type := List (Nat × List eRow)
abbrev eCut : Type := Nat × eEv × List (Nat × eSV) × List eSV × eHp × eNa × Nat × Nat × eLF
def rowIn (l : List eRow) (pc : Nat) : Option eRow := @List.rec eRow (fun _ => Option eRow) none (fun r _ ih => bq (Nat.beq r.1 pc) (some r) ih) l
def rowAt (C : eCode) (pc : Nat) : Option eRow := @List.rec (Nat × List eRow) (fun _ => Option eRow) none (fun q _ ih => bq (Nat.blt pc q.1) (rowIn q.2 pc) ih) C
/-- the places at which a note is read: the bits of one number -/
def flB (FL : List Nat) (pc : Nat) : Bool := match FL with
  | m :: _ => Nat.beq (Nat.land (Nat.shiftRight m pc) 1) 1
  | [] => false
/-- an instruction that speaks of constants says so by a great number -/
def rowV (own : String) (i : Instr) (x y : Nat) : Prop := (Nat.beq y 150000 = false → rowW own i x y) ∧ (Nat.beq y 150000 = true → Nat.beq x 888 = false → (Nat.beq (x / 2) 445 = true → cRowM own i x) ∧ (Nat.beq (x / 2) 445 = false → cRow own i x y))
def codOk (own : String) (cc : ByteArray) (C : eCode) : Prop := ∀ ch ∈ C, ∀ r ∈ ch.2, decode cc r.1 = .ok (r.2.1, ilen r.2.1 r.2.2.1) ∧ rowV own r.2.1 r.2.2.2.1 r.2.2.2.2.1
theorem rowIn_ok : ∀ {l : List eRow} {pc : Nat} {r : eRow}, rowIn l pc = some r → r ∈ l ∧ r.1 = pc
  | [], pc, r, h => by cases h
  | q :: t, pc, r, h => by
    have h' : @Bool.rec (fun _ => Option eRow) (rowIn t pc) (some q) (Nat.beq q.1 pc) = some r := h
    cases hb : Nat.beq q.1 pc
    · rw [hb] at h'
      obtain ⟨h1, h2⟩ := rowIn_ok (show rowIn t pc = some r from h')
      exact ⟨List.mem_cons_of_mem _ h1, h2⟩
    · rw [hb] at h'
      have h2 : some q = some r := h'
      cases h2
      exact ⟨List.mem_cons_self, Nat.eq_of_beq_eq_true hb⟩
theorem rowAt_ok {own : String} {cc : ByteArray} : ∀ {C : eCode} {pc : Nat} {r : eRow}, codOk own cc C → rowAt C pc = some r → decode cc pc = .ok (r.2.1, ilen r.2.1 r.2.2.1) ∧ rowV own r.2.1 r.2.2.2.1 r.2.2.2.2.1
  | [], pc, r, hc, h => by cases h
  | q :: t, pc, r, hc, h => by
    have h' : @Bool.rec (fun _ => Option eRow) (rowAt t pc) (rowIn q.2 pc) (Nat.blt pc q.1) = some r := h
    cases hb : Nat.blt pc q.1
    · rw [hb] at h'
      exact rowAt_ok (fun ch hch => hc ch (List.mem_cons_of_mem _ hch)) (show rowAt t pc = some r from h')
    · rw [hb] at h'
      obtain ⟨h1, h2⟩ := rowIn_ok (show rowIn q.2 pc = some r from h')
      have := hc q List.mem_cons_self r h1
      rw [h2] at this
      exact this
def runL1 (o : Option (List eAn)) (ih : List eAn → Option (List eAn)) : Option (List eAn) := match o with
  | some an' => ih an'
  | none => none
def runL (f : List eAn → eSt → Option (List eAn)) (an : List eAn) (L : List eSt) : Option (List eAn) := @List.rec eSt (fun _ => List eAn → Option (List eAn)) (fun an => some an) (fun S _ ih an => runL1 (f an S) ih) L an
theorem runL_cons (f : List eAn → eSt → Option (List eAn)) (an : List eAn) (S : eSt) (t : List eSt) : runL f an (S :: t) = runL1 (f an S) (fun an' => runL f an' t) := rfl
theorem runL_ok {f : List eAn → eSt → Option (List eAn)} : ∀ {L : List eSt} {an an' : List eAn}, runL f an L = some an' → ∀ S ∈ L, ∃ a a', f a S = some a'
  | [], an, an', h, S, hS => by cases hS
  | S0 :: L, an, an', h, S, hS => by
    rw [runL_cons] at h
    unfold runL1 at h
    split at h
    · rename_i a1 h1
      rcases List.mem_cons.mp hS with rfl | hS
      · exact ⟨an, a1, h1⟩
      · exact runL_ok h S hS
    · cases h
def instL (env : eEv) (lo : List (Nat × eSV)) (st : List eSV) (hp : eHp) (na : eNa) (nc ns pc : Nat) (τ : List eTi) (θ ks : List Nat) : List ePo → Option (List eSt)
  | [] => some []
  | P :: t => match inst env hp na τ θ ks P, instL env lo st hp na nc ns pc τ θ ks t with
    | some none, some L => some L
    | some (some S), some L => some ((S.1, lo, S.2.1 ++ st, S.2.2.1, S.2.2.2, nc, ns, pc) :: L)
    | _, _ => none
theorem instL_ok {env : eEv} {lo : List (Nat × eSV)} {st : List eSV} {hp : eHp} {na : eNa} {nc ns pc : Nat} {τ : List eTi} {θ ks : List Nat} : ∀ {Ps : List ePo} {L : List eSt}, instL env lo st hp na nc ns pc τ θ ks Ps = some L → ∀ P ∈ Ps, ∃ r, inst env hp na τ θ ks P = some r ∧ ∀ S, r = some S → (S.1, lo, S.2.1 ++ st, S.2.2.1, S.2.2.2, nc, ns, pc) ∈ L
  | [], L, h, P, hP => by cases hP
  | P0 :: Ps, L, h, P, hP => by
    unfold instL at h
    split at h
    · rename_i L' h1 h2
      cases h
      rcases List.mem_cons.mp hP with rfl | hP
      · exact ⟨none, h1, fun S hS => by cases hS⟩
      · exact instL_ok h2 P hP
    · rename_i S0 L' h1 h2
      cases h
      rcases List.mem_cons.mp hP with rfl | hP
      · exact ⟨some S0, h1, fun S hS => by cases hS; exact List.mem_cons_self⟩
      · obtain ⟨r, g1, g2⟩ := instL_ok h2 P hP
        exact ⟨r, g1, fun S hS => List.mem_cons_of_mem _ (g2 S hS)⟩
    · cases h
def callK (Rf Rl Rc Rs : Nat) (KS : List eK) (an : eAn) (y : Nat) (ar st : List eSV) (env : eEv) (lo : List (Nat × eSV)) (hp : eHp) (na : eNa) (nc ns pc : Nat) : Option (List eSt) := match KS[an.1]? with
  | some K => bif Nat.beq K.1 y && cok8 st && Nat.ble (K.2.2.2.2.2 + 1) Rf && Nat.ble (60 * (K.2.2.2.2.2 + 1)) Rl && Nat.ble (nc + K.2.2.2.1) Rc && Nat.ble (ns + K.2.2.2.2.1) Rs && mtE env na.2 an.2.1 K.2.1.1 && mtA na.1 an.2.2.1 && Nat.beq an.2.2.1.length K.2.1.2.2.2.1 && fmt env na.2 an.2.1 an.2.2.2 K.2.1.2.2.2.2 && vsmt an.2.1 an.2.2.1 ar.reverse K.2.1.2.1 then (match hmt env an.2.1 an.2.2.1 hp K.2.1.2.2.1 with
      | some ks => bif ndq ks then instL env lo st hp na (nc + K.2.2.2.1) (ns + K.2.2.2.2.1) (pc + 3) an.2.1 an.2.2.1 ks K.2.2.1 else none
      | none => none) else none
  | none => none
theorem callK_ok {Rf Rl Rc Rs : Nat} {KS : List eK} {an : eAn} {y : Nat} {ar st : List eSV} {env : eEv} {lo : List (Nat × eSV)} {hp : eHp} {na : eNa} {nc ns pc : Nat} {L : List eSt} (h : callK Rf Rl Rc Rs KS an y ar st env lo hp na nc ns pc = some L) : ∃ K ks, K ∈ KS ∧ K.1 = y ∧ (st.map ecat).sum ≤ 8 ∧ K.2.2.2.2.2 + 1 ≤ Rf ∧ 60 * (K.2.2.2.2.2 + 1) ≤ Rl ∧ nc + K.2.2.2.1 ≤ Rc ∧ ns + K.2.2.2.2.1 ≤ Rs ∧ mtE env na.2 an.2.1 K.2.1.1 = true ∧ mtA na.1 an.2.2.1 = true ∧ an.2.2.1.length = K.2.1.2.2.2.1 ∧ fmt env na.2 an.2.1 an.2.2.2 K.2.1.2.2.2.2 = true ∧ vsmt an.2.1 an.2.2.1 ar.reverse K.2.1.2.1 = true ∧ hmt env an.2.1 an.2.2.1 hp K.2.1.2.2.1 = some ks ∧ va_nd ks = true ∧
    instL env lo st hp na (nc + K.2.2.2.1) (ns + K.2.2.2.2.1) (pc + 3) an.2.1 an.2.2.1 ks K.2.2.1 = some L := by
  unfold callK at h
  split at h
  · rename_i K hK
    cases hb : Nat.beq K.1 y && cok8 st && Nat.ble (K.2.2.2.2.2 + 1) Rf && Nat.ble (60 * (K.2.2.2.2.2 + 1)) Rl && Nat.ble (nc + K.2.2.2.1) Rc && Nat.ble (ns + K.2.2.2.2.1) Rs && mtE env na.2 an.2.1 K.2.1.1 && mtA na.1 an.2.2.1 && Nat.beq an.2.2.1.length K.2.1.2.2.2.1 && fmt env na.2 an.2.1 an.2.2.2 K.2.1.2.2.2.2 && vsmt an.2.1 an.2.2.1 ar.reverse K.2.1.2.1
    · rw [hb] at h; cases h
    · rw [hb] at h
      simp only [Bool.and_eq_true] at hb
      obtain ⟨⟨⟨⟨⟨⟨⟨⟨⟨⟨b1, b2⟩, b3⟩, b4⟩, b5⟩, b6⟩, b7⟩, b8⟩, b9⟩, bf⟩, b10⟩ := hb
      dsimp only [cond_true] at h
      split at h
      · rename_i ks hks
        cases hv : ndq ks
        · rw [hv] at h; cases h
        · rw [hv] at h
          exact ⟨K, ks, List.mem_of_getElem? hK, Nat.eq_of_beq_eq_true b1, Nat.le_of_ble_eq_true b2, Nat.le_of_ble_eq_true b3, Nat.le_of_ble_eq_true b4, Nat.le_of_ble_eq_true b5, Nat.le_of_ble_eq_true b6, b7, b8, Nat.eq_of_beq_eq_true b9, bf, b10, hks, ndq_ok hv, h⟩
      · cases h
  · cases h
/-- the locals of a template -/
def lomt (τ : List eTi) (θ : List Nat) (lo : List (Nat × eSV)) : List (Nat × eSV) → Bool
  | [] => true
  | q :: t => (match lfd q.1 lo with
    | some v => vmt τ θ v q.2
    | none => false) && lomt τ θ lo t
theorem lomt_ok {ρ ρT : List Int} {α αT : List Nat} {τ : List eTi} {θ : List Nat} (h : tOk ρ τ ρT) (ha : aOk α θ αT) {lo : List (Nat × eSV)} {lvl : List (Nat × Value)} {ls : Array Slot} {nL : Nat} (hl : R2 (lrel ρ α) lo lvl) (hv : lv_has ls nL lvl) : ∀ {tlo : List (Nat × eSV)}, lomt τ θ lo tlo = true → ∃ lvT, R2 (lrel ρT αT) tlo lvT ∧ lv_has ls nL lvT
  | [], _ => ⟨[], trivial, hv.1, hv.2.1, fun q hq => by cases hq⟩
  | q :: t, hm => by
    unfold lomt at hm
    rw [Bool.and_eq_true] at hm
    obtain ⟨lvT, h1, h2⟩ := lomt_ok h ha hl hv hm.2
    have h3 := hm.1
    split at h3
    · rename_i v hf
      obtain ⟨w, k, g1, g2, g3⟩ := lfd_ok hf hl hv
      exact ⟨(q.1, w) :: lvT, ⟨⟨rfl, vmt_ok h ha h3 g1⟩, h1⟩, hv.1, hv.2.1, fun z hz => by
        rcases List.mem_cons.mp hz with rfl | hz
        · exact g2
        · exact h2.2.2 z hz⟩
    · cases h3
/-- by which facts the measure falls: the hint behind those of the template's facts -/
def mhs (a : eAn) (T : eCut) : List Nat := match a.2.2.2.drop T.2.2.2.2.2.1.2.length with
  | k :: _ => k
  | [] => []
def cutB (CT : List eCut) (nv0 na0 : Nat) (mu : Option eLF) (a : eAn) (S : eSt) : Bool := match CT[a.1]? with
  | some T => Nat.beq T.1 S.2.2.2.2.2.2.2 && mtE S.1 S.2.2.2.2.1.2 (.inr (0, nv0) :: a.2.1) T.2.1 && mtA S.2.2.2.2.1.1 (nas 0 na0 ++ a.2.2.1) && Nat.beq (nas 0 na0 ++ a.2.2.1).length T.2.2.2.2.2.1.1 && fmt S.1 S.2.2.2.2.1.2 (.inr (0, nv0) :: a.2.1) a.2.2.2 T.2.2.2.2.2.1.2 && lomt (.inr (0, nv0) :: a.2.1) (nas 0 na0 ++ a.2.2.1) S.2.1 T.2.2.1 && vsmt (.inr (0, nv0) :: a.2.1) (nas 0 na0 ++ a.2.2.1) S.2.2.1 T.2.2.2.1 && (match hmt S.1 (.inr (0, nv0) :: a.2.1) (nas 0 na0 ++ a.2.2.1) S.2.2.2.1 T.2.2.2.2.1 with
      | some ks => ndq ks
      | none => false) && Nat.ble S.2.2.2.2.2.1 T.2.2.2.2.2.2.1 && Nat.ble S.2.2.2.2.2.2.1 T.2.2.2.2.2.2.2.1 && (match mu with
      | none => true
      | some μ => (match sbf (.inr (0, nv0) :: a.2.1) T.2.2.2.2.2.2.2.2 with
        | some g => (match rsm S.1 S.2.2.2.2.1.2 (mhs a T) (fsub g μ) with
          | some j => ile j.2 (-1)
          | none => false)
        | none => false))
  | none => false
/-- a super call looks at its receiver's class -/
def spec (k i : Nat) (hp : eHp) : Bool := match k with
  | 0 => true
  | ci + 1 => (match hfd i hp 0 with
    | some (_, .inl (cj, _)) => Nat.beq cj ci
    | _ => false)
theorem spec_ok {k i : Nat} {hp : eHp} (h : spec k i hp = true) (hk : k ≠ 0) : ∃ j fs, hfd i hp 0 = some (j, .inl (k - 1, fs)) := by
  unfold spec at h
  split at h
  · exact absurd rfl hk
  · split at h
    · rename_i j cj fs hf
      have e := Nat.eq_of_beq_eq_true h
      subst e
      exact ⟨j, fs, hf⟩
    · cases h
/-- a comparison whose two sides are looked at one by one -/
def spE (env : eEv) (d : eLF) (mk : eEv → eSt) : Option (List eSt) := match lrg env d.1 with
  | some j => bif ile (j.1 + d.2) (-1) && ile 0 (j.2 + d.2) then some (opl (refLe env (fpl d 1)) mk ++ opl (refLe env (fsc (-1) d)) mk) else none
  | none => none
/-- a number at a fixed place of an array gets a name -/
def nm1 (j : Nat) (p : Nat) (S : eSt) : Option eSt := match hfd j S.2.2.2.1 0 with
  | some (k, .inr (.inl (t, n, sg))) => bif Nat.blt p n then (match sga sg p with
      | some (.inl q) => some ((fr S.1 q.1 q.2).1, S.2.1, S.2.2.1, S.2.2.2.1.set k (j, .inr (.inl (t, n, cdK sg (sgs sg p (.inr (.inl (fr S.1 q.1 q.2).2)))))), S.2.2.2.2)
      | _ => none) else none
  | some (k, .inr (.inr (.inl (n, sg)))) => bif Nat.blt p n then (match sga sg p with
      | some (.inl q) => some ((fr S.1 q.1 q.2).1, S.2.1, S.2.2.1, S.2.2.2.1.set k (j, .inr (.inr (.inl (n, cdK sg (sgs sg p (.inr (.inr (.inl (fr S.1 q.1 q.2).2)))))))), S.2.2.2.2)
      | _ => none) else none
  | _ => none
def nmL (j : Nat) : List Nat → eSt → Option eSt
  | [], S => some S
  | p :: t, S => match nm1 j p S with
    | some S' => nmL j t S'
    | none => none
def nmA (S : eSt) : Option (List eSt) := match S.2.2.1 with
  | .inl f :: .inr (.inr (some j)) :: _ => (match irg S.1 f with
    | some i => bif ile 0 i.1 && ile i.2 i.1 then (match nm1 j i.1.toNat S with
      | some S' => some [S']
      | none => none) else none
    | none => none)
  | _ => none
/-- a load from an array that has a number -/
def ldD2 (S : eSt) (f : eLF) (st' : List eSV) (c0 : Nat) (r : eEv × eLF) : Option (List eSt) := match fdD c0 f S.2.2.2.2.1.2 with
  | some g => some [(S.1, S.2.1, .inl g :: st', S.2.2.2.1, S.2.2.2.2.1, S.2.2.2.2.2.1, S.2.2.2.2.2.2.1, S.2.2.2.2.2.2.2 + 1)]
  | none => (match irg r.1 r.2 with
    | some _ => some [(r.1, S.2.1, .inl r.2 :: st', S.2.2.2.1, adF S.2.2.2.2.1 [fDec r.2 c0 f], S.2.2.2.2.2.1, S.2.2.2.2.2.2.1, S.2.2.2.2.2.2.2 + 1)]
    | none => none)
def ldD1 (t : Nat) (S : eSt) (f : eLF) (st' : List eSV) (t' n : Nat) (sg : eSg) : Option (List eSt) := match cdG sg with
  | none => none
  | some c0 => bq (Nat.beq t' t && oBe S.1 f c0.2) (match ald S.1 n (cdX sg) f with
    | some r => ldD2 S f st' c0.1 r
    | none => none) none
def ldD (t : Nat) (S : eSt) : Option (List eSt) := match S.2.2.1 with
  | .inl f :: .inr (.inr (some j)) :: st' => (match hfd j S.2.2.2.1 0 with
    | some (_, .inr (.inl (t', n, sg))) => ldD1 t S f st' t' n sg
    | _ => none)
  | _ => none
def orO {A : Type} (a b : Option A) : Option A := match a with
  | some x => some x
  | none => b
def spq (r : eRow) (S : eSt) : Option (List eSt) := match r.2.1 with
  | .if_icmp _ _ => bif Nat.beq r.2.2.2.1 777 then (match S.2.2.1 with
    | .inl g :: .inl f :: _ => spE S.1 (fsub f g) (fun e => (e, S.2))
    | _ => none) else none
  | .ifCond _ _ => bif Nat.beq r.2.2.2.1 777 then (match S.2.2.1 with
    | .inl f :: _ => spE S.1 f (fun e => (e, S.2))
    | _ => none) else none
  | .iaload => orO (ldD 1 S) (nmA S)
  | .baload => orO (ldD 0 S) (nmA S)
  | .laload => nmA S
  | _ => none
/-- what a note bids ahead of an instruction: nothing, a form's values one by one, a fact's boxes one by one, names -/
def opF (k : Nat) (S : eSt) : Option (List eSt) := match S.2.2.2.2.1.2[k]? with
  | some F => bq (tgd F.1) none (some ((bxG F.1).filterMap (fun b => match inB S.1 F.2 b with
    | some e => some (e, S.2.1, S.2.2.1, S.2.2.2.1, (S.2.2.2.2.1.1, S.2.2.2.2.1.2 ++ [(.inl [b], F.2)]), S.2.2.2.2.2)
    | none => none)))
  | none => none
/-- a state whose facts can't hold together is none -/
def opX (S : eSt) (ks : List Nat) : Option (List eSt) := match ks with
  | [] => none
  | k :: ks => (match S.2.2.2.2.1.2[k]? with
    | some (Sum.inl [[i]], [g]) => (match rsm S.1 S.2.2.2.2.1.2 ks g with
      | some j => bif ile (i.2 + 1) j.1 || ile (j.2 + 1) i.1 then some [] else none
      | none => none)
    | _ => none)
/-- a rule: its numbers' forms, how its premises follow -/
def efr (env : eEv) (n : Nat) : eEv := match n with
  | 0 => env
  | n + 1 => (Nat.add env.1 (n + 1), dcat env.2 (Nat.mul 2 env.1) 0)
def opR1 (a : eAn) (S : eSt) (R : eRul) : Option (List eSt) := bq (mtE S.1 S.2.2.2.2.1.2 a.2.1 (R.1, 0)) (bq (fmt S.1 S.2.2.2.2.1.2 a.2.1 a.2.2.2 R.2.1) (match inF (a.2.1 ++ [.inr (S.1.1, R.2.2.1)]) R.2.2.2 with
  | some F => some [(efr S.1 R.2.2.1, S.2.1, S.2.2.1, S.2.2.2.1, adF S.2.2.2.2.1 F, S.2.2.2.2.2)]
  | none => none) none) none
def opR (a : eAn) (S : eSt) : Option (List eSt) := match a.2.2.1 with
  | k :: _ => (match lk rls k with
    | some R => opR1 a S R
    | none => none)
  | [] => none
/-- an array's elements get a number, from a place on; another one that it had speaks of the same elements -/
def fCpy (c' c : Nat) (b m : Nat) : eFa := (.inr 1000011, [([(c', 1)], 0), ([(c, 1)], 0), fc b, fc b, fc m])
def opC (j o : Nat) (S : eSt) : Option (List eSt) := match hfd j S.2.2.2.1 0 with
  | some (k, .inr (.inl (t, n, sg))) => bq (Nat.ble n 4096 && Nat.blt o 4096) (some [(efr S.1 1, S.2.1, S.2.2.1, S.2.2.2.1.set k (j, .inr (.inl (t, n, cdN S.1.1 o (cdX sg)))), (match cdG sg with
    | none => S.2.2.2.2.1
    | some c => adF S.2.2.2.2.1 [fCpy S.1.1 c.1 c.2 (Nat.sub n c.2)]), S.2.2.2.2.2)]) none
  | some (k, .inr (.inr (.inl (n, sg)))) => bq (Nat.ble n 4096 && Nat.blt o 4096) (some [(efr S.1 1, S.2.1, S.2.2.1, S.2.2.2.1.set k (j, .inr (.inr (.inl (n, cdN S.1.1 o (cdX sg))))), (match cdG sg with
    | none => S.2.2.2.2.1
    | some c => adF S.2.2.2.2.1 [fCpy S.1.1 c.1 c.2 (Nat.sub n c.2)]), S.2.2.2.2.2)]) none
  | _ => none
/-- a number that speaks of less -/
def opO (j o : Nat) (S : eSt) : Option (List eSt) := match hfd j S.2.2.2.1 0 with
  | some (k, .inr (.inl (t, n, sg))) => (match cdG sg with
    | some c => bq (Nat.ble c.2 o && Nat.blt o 4096) (some [(S.1, S.2.1, S.2.2.1, S.2.2.2.1.set k (j, .inr (.inl (t, n, cdN c.1 o (cdX sg)))), S.2.2.2.2)]) none
    | none => none)
  | _ => none
/-- what the pieces tell of an array's number -/
def fRg (c : Nat) (a b : Int) (i : Int × Int) : eFa := (.inr 1000003, [([(c, 1)], 0), fc a, fc b, fc i.1, fc i.2])
def opT (j a b : Nat) (S : eSt) : Option (List eSt) := match hfd j S.2.2.2.1 0 with
  | some (_, .inr (.inl (_, n, sg))) => (match cdG sg with
    | some c => bq (Nat.blt a b && Nat.ble b n && Nat.ble c.2 a) (match sgh S.1 a (b - 1) 0 (sgX a (b - 1) 0 (cdX sg)) none with
      | some i => some [(S.1, S.2.1, S.2.2.1, S.2.2.2.1, adF S.2.2.2.2.1 [fRg c.1 a b i], S.2.2.2.2.2)]
      | none => none) none
    | none => none)
  | _ => none
/-- what is known of an array's number, into the pieces -/
def nmx (a b : Nat) : Nat := bq (Nat.ble a b) b a
def sgP1 (lo hi : Nat) (i : Int × Int) (q : Nat × ePc) (t : eSg) : eSg := sgc lo q.2 (sgc (Nat.sub hi lo) (.inl (.inl i)) (sgc (Nat.sub q.1 hi) (pcS q.2 hi) t))
def sgP (a b : Nat) (i : Int × Int) : Nat → eSg → eSg
  | _, [] => []
  | o, q :: t => sgP1 (nmin q.1 (Nat.sub a o)) (nmin q.1 (nmx (nmin q.1 (Nat.sub a o)) (Nat.sub b o))) i q (sgP a b i (Nat.add o q.1) t)
theorem nmin_eq (a b : Nat) : nmin a b = min a b := by
  unfold nmin
  cases h : Nat.ble a b
  · have := nble_f h
    rw [bq_f]; omega
  · have := Nat.le_of_ble_eq_true h
    rw [bq_t]; omega
theorem nmx_eq (a b : Nat) : nmx a b = max a b := by
  unfold nmx
  cases h : Nat.ble a b
  · have := nble_f h
    rw [bq_f]; omega
  · have := Nat.le_of_ble_eq_true h
    rw [bq_t]; omega
theorem sgP_at {a b : Nat} {i : Int × Int} : ∀ {sg : eSg} {o j : Nat} {e : eEl}, sga sg j = some e → (a ≤ o + j → o + j < b → sga (sgP a b i o sg) j = some (.inl i)) ∧ (o + j < a ∨ b ≤ o + j → sga (sgP a b i o sg) j = some e)
  | [], o, j, e, h => by cases h
  | (n, c) :: t, o, j, e, h => by
    have e1 : sgP a b i o ((n, c) :: t) = sgP1 (nmin n (a - o)) (nmin n (nmx (nmin n (a - o)) (b - o))) i (n, c) (sgP a b i (o + n) t) := rfl
    rw [e1]
    have l1 : nmin n (a - o) = min n (a - o) := nmin_eq _ _
    have l2 : nmin n (nmx (nmin n (a - o)) (b - o)) = min n (max (min n (a - o)) (b - o)) := by rw [nmin_eq, nmx_eq, l1]
    rw [l2, l1]
    generalize hlo : min n (a - o) = lo
    generalize hhi : min n (max lo (b - o)) = hi
    have k1 : lo ≤ hi := by omega
    have k2 : hi ≤ n := by omega
    unfold sgP1
    dsimp only
    rcases Nat.lt_or_ge j n with g | g
    · rw [sga_lt g] at h
      cases h
      rcases Nat.lt_or_ge j lo with g1 | g1
      · rw [sga_c_lt g1]
        exact ⟨fun h1 h2 => by omega, fun _ => rfl⟩
      · rw [sga_c_ge g1]
        rcases Nat.lt_or_ge j hi with g2 | g2
        · rw [sga_c_lt (show j - lo < Nat.sub hi lo by show j - lo < hi - lo; omega)]
          exact ⟨fun _ _ => rfl, fun h1 => by omega⟩
        · rw [sga_c_ge (show Nat.sub hi lo ≤ j - lo by show hi - lo ≤ j - lo; omega), sga_c_lt (show j - lo - Nat.sub hi lo < Nat.sub n hi by show j - lo - (hi - lo) < n - hi; omega)]
          have e2 : pcA (pcS c hi) (j - lo - Nat.sub hi lo) = pcA c j := by
            have e3 := pcA_S c hi (j - hi)
            rw [show hi + (j - hi) = j by omega] at e3
            rw [show j - lo - Nat.sub hi lo = j - hi by show j - lo - (hi - lo) = j - hi; omega]
            exact e3
          rw [e2]
          exact ⟨fun h1 h2 => by omega, fun _ => rfl⟩
    · rw [sga_ge g] at h
      have ih := sgP_at (a := a) (b := b) (i := i) (o := o + n) h
      rw [show o + n + (j - n) = o + j by omega] at ih
      rw [sga_c_ge (show lo ≤ j by omega), sga_c_ge (show Nat.sub hi lo ≤ j - lo by show hi - lo ≤ j - lo; omega), sga_c_ge (show Nat.sub n hi ≤ j - lo - Nat.sub hi lo by show n - hi ≤ j - lo - (hi - lo); omega)]
      rw [show j - lo - Nat.sub hi lo - Nat.sub n hi = j - n by show j - lo - (hi - lo) - (n - hi) = j - n; omega]
      exact ih
def fkn (f : eLF) : Option Int := match f.1 with
  | [] => some f.2
  | _ => none
theorem fkn_ok {f : eLF} {k : Int} (h : fkn f = some k) {ρ : List Int} {x : Int} (hx : lfv ρ f x) : x = k := by
  obtain ⟨f1, f2⟩ := f
  unfold fkn at h
  dsimp only at h
  split at h
  · cases h
    exact fc_inv hx
  · cases h
def gRg (F : eFa) : Option (Nat × Int × Int × Int × Int) := match F.1 with
  | .inl _ => none
  | .inr n => bq (Nat.beq n 1000003) (match F.2 with
    | [x, a, b, l, h] => (match fvr x, fkn a, fkn b, fkn l, fkn h with
      | some c, some a, some b, some l, some h => some (c, a, b, l, h)
      | _, _, _, _, _ => none)
    | _ => none) none
theorem gRg_ok {F : eFa} {c : Nat} {a b l h : Int} (hg : gRg F = some (c, a, b, l, h)) {ρ : List Int} (hF : bxOk ρ F) : ∃ z, ρ[c]? = some z ∧ pRg z a b l h := by
  obtain ⟨F1, F2⟩ := F
  unfold gRg at hg
  dsimp only at hg
  split at hg
  · cases hg
  · rename_i n
    cases hb : Nat.beq n 1000003
    · rw [hb] at hg; cases hg
    · have en : n = 1000000 + 3 := Nat.eq_of_beq_eq_true hb
      subst en
      rw [hb, bq_t] at hg
      split at hg
      · rename_i x0 a0 b0 l0 h0
        split at hg
        · rename_i c' a' b' l' h' q1 q2 q3 q4 q5
          cases hg
          obtain ⟨xs, x1, x2⟩ := hF
          have x1 : R2 (lfv ρ) [x0, a0, b0, l0, h0] xs := x1
          obtain ⟨y0, t0, rfl, g0, x1⟩ := R2.cons_inv x1
          obtain ⟨y1, t1, rfl, g1, x1⟩ := R2.cons_inv x1
          obtain ⟨y2, t2, rfl, g2, x1⟩ := R2.cons_inv x1
          obtain ⟨y3, t3, rfl, g3, x1⟩ := R2.cons_inv x1
          obtain ⟨y4, t4, rfl, g4, x1⟩ := R2.cons_inv x1
          have e := R2.nil_inv x1
          subst e
          rw [fvr_ok q1] at g0
          rw [fkn_ok q2 g1, fkn_ok q3 g2, fkn_ok q4 g3, fkn_ok q5 g4] at x2
          exact ⟨y0, lfv_v1 g0, (bxS_t (t := 3)).mp x2⟩
        · cases hg
      · cases hg
def opY1 (j k t n : Nat) (sg : eSg) (S : eSt) (r : Nat × Int × Int × Int × Int) : Option (List eSt) := match cdG sg with
  | some c => bq (Nat.beq c.1 r.1 && Nat.ble n 4096 && ile c.2 r.2.1) (some [(S.1, S.2.1, S.2.2.1, S.2.2.2.1.set k (j, .inr (.inl (t, n, cdN c.1 c.2 (sgP r.2.1.toNat r.2.2.1.toNat (r.2.2.2.1, r.2.2.2.2) 0 (cdX sg))))), S.2.2.2.2)]) none
  | none => none
def opY (j kf : Nat) (S : eSt) : Option (List eSt) := match hfd j S.2.2.2.1 0, lk S.2.2.2.2.1.2 kf with
  | some (k, .inr (.inl (t, n, sg))), some F => (match gRg F with
    | some r => opY1 j k t n sg S r
    | none => none)
  | _, _ => none
/-- a form at most a constant, or more -/
def opK (f g : eLF) (S : eSt) : Option (List eSt) := match irg S.1 f, fkn g with
  | some i, some c => some ((bif ile i.1 c then opl (refLe S.1 (fpl f (-c))) (fun e => (e, S.2.1, S.2.2.1, S.2.2.2.1, adF S.2.2.2.2.1 [(Sum.inl [[(i.1, c)]], [f])], S.2.2.2.2.2)) else []) ++ (bif ile (-i.2) (-c - 1) then opl (refLe S.1 (fpl (fsc (-1) f) (c + 1))) (fun e => (e, S.2.1, S.2.2.1, S.2.2.2.1, adF S.2.2.2.2.1 [(Sum.inl [[(-i.2, -c - 1)]], [fsc (-1) f])], S.2.2.2.2.2)) else []))
  | _, _ => none
/-- the number on top, less a form that is 0 -/
def opQ (k : Nat) (S : eSt) : Option (List eSt) := match S.2.2.2.2.1.2[k]?, S.2.2.1 with
  | some (Sum.inl [[i]], [d]), .inl f :: st' => bif ieq i.1 0 && ieq i.2 0 then some [(S.1, S.2.1, .inl (fsub f d) :: st', S.2.2.2.1, S.2.2.2.2.1, S.2.2.2.2.2)] else none
  | _, _ => none
def opS (a : eAn) (S : eSt) : Option (List eSt) := match a.1 % 1000 with
  | 0 => some [S]
  | 1 => (match a.2.1 with
    | .inl f :: _ => (match irg S.1 f with
      | some i => some (spl S.1 f (fun e => (e, S.2)) i.1 (i.2 - i.1 + 1).toNat)
      | none => none)
    | _ => none)
  | 2 => (match a.2.2.1 with
    | k :: _ => opF k S
    | [] => none)
  | 3 => (match a.2.2.1 with
    | j :: ps => (match nmL j ps S with
      | some S' => some [S']
      | none => none)
    | [] => none)
  | 4 => opX S a.2.2.1
  | 5 => opR a S
  | 6 => (match a.2.2.1 with
    | [j, o] => opC j o S
    | _ => none)
  | 7 => (match a.2.2.1 with
    | [j, x, y] => opT j x y S
    | _ => none)
  | 8 => (match a.2.2.1 with
    | [j, k] => opY j k S
    | _ => none)
  | 9 => (match a.2.2.1 with
    | [j, o] => opO j o S
    | _ => none)
  | 10 => (match a.2.1 with
    | [.inl f, .inl g] => opK f g S
    | _ => none)
  | 11 => (match a.2.2.1 with
    | k :: _ => opQ k S
    | [] => none)
  | _ => none
section
variable {p : Program} {l : Launch} {e : Env} {R : Room} {s : State} {m : MethodId} {args : Array Value} {below : List Frame} {meth : Method} {c : Code} {Q : State → Prop} {D : va_G} {ca : Nat → ClassId} {A : Nat → Prop} {nL cb sb : Nat} {r0 : List Int} {a0 : List Nat} {own : String} {cc : ByteArray} {env : eEv} {lo : List (Nat × eSV)} {st : List eSV} {hp : eHp} {na : eNa} {nc ns pc : Nat}
theorem spE_ok {S : eSt} {d : eLF} {L : List eSt} (h : spE S.1 d (fun e => (e, S.2)) = some L) (kk : ∀ S' ∈ L, GS p l e R s m args below meth c Q D ca A nL cb sb r0 a0 S') : GS p l e R s m args below meth c Q D ca A nL cb sb r0 a0 S := by
  intro ρ α ls lvl stk ws H locs hh
  unfold spE at h
  split at h
  · rename_i j hj
    cases hb : ile (j.1 + d.2) (-1) && ile 0 (j.2 + d.2)
    · rw [hb] at h; cases h
    · rw [hb] at h
      cases h
      obtain ⟨x, hx⟩ := lrg_ex hh.1 hj
      have hd : lfv ρ d (x + d.2) := by
        show lev ρ d.1 = some (x + d.2 - d.2)
        rw [hx]
        congr 1
        omega
      by_cases hv : x + d.2 ≤ -1
      · obtain ⟨e1, q1, q2⟩ := refLe_ok hh.1 (fpl_ok 1 hd) (by omega)
        exact kk (e1, S.2) (List.mem_append_left _ (opl_mem (f := fun e => (e, S.2)) q1)) ρ α ls lvl stk ws H locs (rep_env0 hh q2)
      · obtain ⟨e1, q1, q2⟩ := refLe_ok hh.1 (fsc_ok (k := -1) hd) (by omega)
        exact kk (e1, S.2) (List.mem_append_right _ (opl_mem (f := fun e => (e, S.2)) q1)) ρ α ls lvl stk ws H locs (rep_env0 hh q2)
  · cases h
theorem rep_recl {ρ : List Int} {α : List Nat} {ls : Array Slot} {lvl : List (Nat × Value)} {stk : List Value} {ws : va_W} {H : Heap} {locs : List Loc} {i k a : Nat} {cl' : eSC} {x : va_E} (h : eRep s D ca A nL r0 a0 env lo st hp na ρ α ls lvl stk ws H locs) (hw : ws[k]? = some (a, x)) (ha : α[i]? = some a) (hc : cok ca ρ α cl' x) : eRep s D ca A nL r0 a0 env lo st (hp.set k (i, cl')) na ρ α ls lvl stk ws H locs := by
  obtain ⟨h1, h2, h3, h4, h5, h6, h7⟩ := h
  have e : ws.set k (a, x) = ws := by
    obtain ⟨e3, e4⟩ := List.getElem?_eq_some_iff.mp hw
    rw [← e4]
    exact List.set_getElem_self e3
  have g := R2.set (a := (i, cl')) (b := (a, x)) ⟨ha, hc⟩ h6 k
  rw [e] at g
  exact ⟨h1, h2, h3, h4, h5, g, h7⟩
theorem nm1_ok {j pl : Nat} {S S' : eSt} (h : nm1 j pl S = some S') (kk : GS p l e R s m args below meth c Q D ca A nL cb sb r0 a0 S') : GS p l e R s m args below meth c Q D ca A nL cb sb r0 a0 S := by
  obtain ⟨env, lo, st, hp, na, nc, ns, pc⟩ := S
  intro ρ α ls lvl stk ws H locs hh
  unfold nm1 at h
  dsimp only at h
  split at h
  · rename_i k t n sg hf
    obtain ⟨j', e1, e2⟩ := hfd_ok hf
    rw [Nat.zero_add] at e1
    subst e1
    obtain ⟨w, g1, g2, g3⟩ := R2.get hh.2.2.2.2.2.1 e2
    obtain ⟨a, x⟩ := w
    obtain ⟨F, rfl, hF⟩ := g3
    cases hb : Nat.blt pl n
    · rw [hb] at h; cases h
    · rw [hb] at h
      dsimp only [cond_true] at h
      have hpl := blt_t hb
      split at h
      · rename_i q hq
        cases h
        obtain ⟨y, y1, y2⟩ := hF.1 pl hpl
        rw [hq] at y1
        cases y1
        obtain ⟨σ, s1, s2⟩ := fr_ok hh.1 y2 (fullIL _)
        refine kk (ρ ++ σ) α ls lvl stk ws H locs (rep_recl (rep_env hh s1) g1 g2 ⟨F, rfl, fun u hu => ?_, cdK_ok (cdO_mono σ hF.2)⟩)
        rw [cdK_at]
        by_cases e : u = pl
        · rw [e]
          exact ⟨_, sgs_at sg _ _ hq, _, s2, (Int32.ofInt_toInt _).symm⟩
        · rw [sgs_ne sg _ _ e]
          obtain ⟨v, v1, v2⟩ := hF.1 u hu
          exact ⟨v, v1, eli_mono σ v2⟩
      · cases h
  · rename_i k n sg hf
    obtain ⟨j', e1, e2⟩ := hfd_ok hf
    rw [Nat.zero_add] at e1
    subst e1
    obtain ⟨w, g1, g2, g3⟩ := R2.get hh.2.2.2.2.2.1 e2
    obtain ⟨a, x⟩ := w
    obtain ⟨F, rfl, hF⟩ := g3
    cases hb : Nat.blt pl n
    · rw [hb] at h; cases h
    · rw [hb] at h
      dsimp only [cond_true] at h
      have hpl := blt_t hb
      split at h
      · rename_i q hq
        cases h
        obtain ⟨y, y1, y2⟩ := hF.1 pl hpl
        rw [hq] at y1
        cases y1
        obtain ⟨σ, s1, s2⟩ := fr_ok hh.1 y2 (fullL _)
        refine kk (ρ ++ σ) α ls lvl stk ws H locs (rep_recl (rep_env hh s1) g1 g2 ⟨F, rfl, fun u hu => ?_, cdK_ok (cdO_mono σ hF.2)⟩)
        rw [cdK_at]
        by_cases e : u = pl
        · rw [e]
          exact ⟨_, sgs_at sg _ _ hq, _, s2, (Int64.ofInt_toInt _).symm⟩
        · rw [sgs_ne sg _ _ e]
          obtain ⟨v, v1, v2⟩ := hF.1 u hu
          exact ⟨v, v1, ell_mono σ v2⟩
      · cases h
  · cases h
theorem nmL_ok {j : Nat} : ∀ {ps : List Nat} {S S' : eSt}, nmL j ps S = some S' → GS p l e R s m args below meth c Q D ca A nL cb sb r0 a0 S' → GS p l e R s m args below meth c Q D ca A nL cb sb r0 a0 S
  | [], S, S', h, kk => by cases h; exact kk
  | p :: t, S, S', h, kk => by
    unfold nmL at h
    split at h
    · rename_i S1 h1
      exact nm1_ok h1 (nmL_ok h kk)
    · cases h
theorem nmA_ok {S : eSt} {L : List eSt} (h : nmA S = some L) (kk : ∀ S' ∈ L, GS p l e R s m args below meth c Q D ca A nL cb sb r0 a0 S') : GS p l e R s m args below meth c Q D ca A nL cb sb r0 a0 S := by
  unfold nmA at h
  split at h
  · split at h
    · rename_i i hi
      cases hb : ile 0 i.1 && ile i.2 i.1
      · rw [hb] at h; cases h
      · rw [hb] at h
        dsimp only [cond_true] at h
        split at h
        · rename_i S' hS'
          cases h
          exact nm1_ok hS' (kk _ List.mem_cons_self)
        · cases h
    · cases h
  · cases h
theorem ldD_ok (X : eCx p R s m args c D ca A nL own cc a0) {t : Nat} {S : eSt} {L : List eSt} (ht : (t = 1 ∧ decode cc S.2.2.2.2.2.2.2 = .ok (.iaload, 1)) ∨ (t = 0 ∧ decode cc S.2.2.2.2.2.2.2 = .ok (.baload, 1))) (h : ldD t S = some L) (kk : ∀ S' ∈ L, GS p l e R s m args below meth c Q D ca A nL cb sb r0 a0 S') : GS p l e R s m args below meth c Q D ca A nL cb sb r0 a0 S := by
  obtain ⟨env, lo, st, hp, na, nc, ns, pc⟩ := S
  unfold ldD at h
  dsimp only at h ht
  split at h
  · split at h
    · rename_i f j st' _ k t' n sg hf
      unfold ldD1 at h
      split at h
      · cases h
      · rename_i c0 hc
        dsimp only at h
        cases hb : Nat.beq t' t && oBe env f c0.2
        · rw [hb] at h; cases h
        · rw [hb, bq_t] at h
          rw [Bool.and_eq_true] at hb
          have et := Nat.eq_of_beq_eq_true hb.1
          subst et
          split at h
          · rename_i r hr
            unfold ldD2 at h
            dsimp only at h
            split at h
            · rename_i g hg
              cases h
              rcases ht with ⟨rfl, hd⟩ | ⟨rfl, hd⟩
              · exact g_ialoadM X hd hf hr hc hb.2 hg (kk _ List.mem_cons_self)
              · exact g_baloadM X hd hf hr hc hb.2 hg (kk _ List.mem_cons_self)
            · split at h
              · rename_i q hq
                cases h
                rcases ht with ⟨rfl, hd⟩ | ⟨rfl, hd⟩
                · exact g_ialoadD X hd hf hr hq hc hb.2 (kk _ List.mem_cons_self)
                · exact g_baloadD X hd hf hr hq hc hb.2 (kk _ List.mem_cons_self)
              · cases h
          · cases h
    · cases h
  · cases h
theorem spq_ok (X : eCx p R s m args c D ca A nL own cc a0) {r : eRow} {S : eSt} {L : List eSt} (hd : decode cc S.2.2.2.2.2.2.2 = .ok (r.2.1, ilen r.2.1 r.2.2.1)) (h : spq r S = some L) (kk : ∀ S' ∈ L, GS p l e R s m args below meth c Q D ca A nL cb sb r0 a0 S') : GS p l e R s m args below meth c Q D ca A nL cb sb r0 a0 S := by
  unfold spq at h
  split at h
  · cases hb : Nat.beq r.2.2.2.1 777
    · rw [hb] at h; cases h
    · rw [hb] at h
      dsimp only [cond_true] at h
      split at h
      · exact spE_ok h kk
      · cases h
  · cases hb : Nat.beq r.2.2.2.1 777
    · rw [hb] at h; cases h
    · rw [hb] at h
      dsimp only [cond_true] at h
      split at h
      · exact spE_ok h kk
      · cases h
  · rename_i hi
    unfold orO at h
    split at h
    · rename_i L' hL
      cases h
      exact ldD_ok X (Or.inl ⟨rfl, by rw [hd, hi]; rfl⟩) hL kk
    · exact nmA_ok h kk
  · rename_i hi
    unfold orO at h
    split at h
    · rename_i L' hL
      cases h
      exact ldD_ok X (Or.inr ⟨rfl, by rw [hd, hi]; rfl⟩) hL kk
    · exact nmA_ok h kk
  · exact nmA_ok h kk
  · cases h
theorem opF_ok {k : Nat} {S : eSt} {L : List eSt} (h : opF k S = some L) (kk : ∀ S' ∈ L, GS p l e R s m args below meth c Q D ca A nL cb sb r0 a0 S') : GS p l e R s m args below meth c Q D ca A nL cb sb r0 a0 S := by
  obtain ⟨env, lo, st, hp, na, nc, ns, pc⟩ := S
  intro ρ α ls lvl stk ws H locs hh
  unfold opF at h
  dsimp only at h
  split at h
  · rename_i F hF
    cases hg : tgd F.1
    rotate_left
    · rw [hg] at h
      cases h
    rw [hg, bq_f] at h
    cases h
    obtain ⟨xs, x1, hb⟩ := hh.2.1.1.2 F (List.mem_of_getElem? hF)
    obtain ⟨b, b1, b2⟩ := (bxS_b hg).mp hb
    obtain ⟨e', q1, q2⟩ := inB_ok hh.1 x1 b2
    refine kk (e', lo, st, hp, (na.1, na.2 ++ [(.inl [b], F.2)]), nc, ns, pc) (List.mem_filterMap.mpr ⟨b, b1, by rw [q1]⟩) ρ α ls lvl stk ws H locs ?_
    obtain ⟨h1, h2, h3⟩ := hh
    refine ⟨q2, ⟨⟨h2.1.1, fun G hG => ?_⟩, h2.2⟩, h3⟩
    rcases List.mem_append.mp hG with z | z
    · exact h2.1.2 G z
    · rcases List.mem_cons.mp z with rfl | z
      · exact ⟨xs, x1, (bxS_b rfl).mpr ⟨b, List.mem_cons_self, b2⟩⟩
      · cases z
  · cases h
theorem opX_ok {ks : List Nat} {S : eSt} {L : List eSt} (h : opX S ks = some L) : GS p l e R s m args below meth c Q D ca A nL cb sb r0 a0 S := by
  obtain ⟨env, lo, st, hp, na, nc, ns, pc⟩ := S
  intro ρ α ls lvl stk ws H locs hh
  unfold opX at h
  split at h
  · cases h
  · rename_i k ks
    dsimp only at h
    split at h
    · rename_i i g hF
      split at h
      · rename_i j hj
        obtain ⟨y, y1, y2⟩ := sing_ok (hh.2.1.1.2 _ (List.mem_of_getElem? hF))
        have y3 := rsm_ok hh.1 hh.2.1.1.2 hj y1
        cases hb : ile (i.2 + 1) j.1 || ile (j.2 + 1) i.1
        · rw [hb] at h; cases h
        · rw [Bool.or_eq_true] at hb
          exfalso
          have z1 := y2.1
          have z2 := y2.2
          have z3 := y3.1
          have z4 := y3.2
          rcases hb with hb | hb
          · have := ile_t hb
            omega
          · have := ile_t hb
            omega
      · cases h
    · cases h
theorem cell_i {j k t n : Nat} {sg : eSg} {S : eSt} {ρ : List Int} {α : List Nat} {ls : Array Slot} {lvl : List (Nat × Value)} {stk : List Value} {ws : va_W} {H : Heap} {locs : List Loc} (hh : eRep s D ca A nL r0 a0 S.1 S.2.1 S.2.2.1 S.2.2.2.1 S.2.2.2.2.1 ρ α ls lvl stk ws H locs) (hf : hfd j S.2.2.2.1 0 = some (k, .inr (.inl (t, n, sg)))) :
    ∃ (a : Nat) (F : Nat → Int32), ws[k]? = some (a, .inl (ca t, n, .inl F)) ∧ α[j]? = some a ∧ (∀ i, i < n → ∃ x, sga sg i = some x ∧ eli ρ x (F i)) ∧ cdO ρ sg n (fun i => (F i).toInt) := by
  obtain ⟨j', e1, e2⟩ := hfd_ok hf
  rw [Nat.zero_add] at e1
  subst e1
  obtain ⟨w, g1, g2, g3⟩ := R2.get hh.2.2.2.2.2.1 e2
  obtain ⟨a, x⟩ := w
  obtain ⟨F, rfl, hF⟩ := g3
  exact ⟨a, F, g1, g2, hF.1, hF.2⟩
theorem opR_ok {a : eAn} {S : eSt} {L : List eSt} (h : opR a S = some L) (kk : ∀ S' ∈ L, GS p l e R s m args below meth c Q D ca A nL cb sb r0 a0 S') : GS p l e R s m args below meth c Q D ca A nL cb sb r0 a0 S := by
  unfold opR at h
  split at h
  · split at h
    · rename_i k _ _ R hR
      unfold opR1 at h
      cases b1 : mtE S.1 S.2.2.2.2.1.2 a.2.1 (R.1, 0)
      · rw [b1] at h; cases h
      · rw [b1, bq_t] at h
        cases b2 : fmt S.1 S.2.2.2.2.1.2 a.2.1 a.2.2.2 R.2.1
        · rw [b2] at h; cases h
        · rw [b2, bq_t] at h
          split at h
          · rename_i Fs hFs
            cases h
            obtain ⟨env, lo, st, hp, na, nc, ns, pc⟩ := S
            intro ρ α ls lvl stk ws H locs hh
            have hE : eOk env ρ := hh.1
            have hf : fOk ρ na.2 := hh.2.1.1.2
            obtain ⟨ρT, t1, t2⟩ := mtE_ok hE hf b1
            have f1 := fmt_ok hE t1 hf b2
            rw [lk_eq] at hR
            obtain ⟨σ, s1, s2⟩ := rls_ok R (List.mem_of_getElem? hR) ρT t2.1 f1
            have t3 : tOk (ρ ++ σ) (a.2.1 ++ [.inr (env.1, R.2.2.1)]) (ρT ++ σ) := by
              show R2 (lfv (ρ ++ σ)) (exT (a.2.1 ++ [.inr (env.1, R.2.2.1)])) (ρT ++ σ)
              rw [exT_app]
              refine R2.app (R2.imp (fun _ _ z => lfv_mono σ z) t1) ?_
              have q := nvs_ok σ ρ []
              rw [List.append_nil, hE.1, s1] at q
              show R2 (lfv (ρ ++ σ)) (nvs env.1 R.2.2.1 ++ []) σ
              rw [List.append_nil]
              exact q
            have hE' : eOk (efr env R.2.2.1) (ρ ++ σ) := by
              cases hn : R.2.2.1 with
              | zero =>
                rw [hn] at s1
                have := List.eq_nil_of_length_eq_zero s1
                subst this
                rw [List.append_nil]
                exact hE
              | succ n =>
                have q := eOk_cat (M := 0) (σ := σ) hE (fun k x _ => ⟨Or.inr (by rw [dg_eq, Nat.zero_div, Nat.zero_mod]), Or.inr (by rw [dg_eq, Nat.zero_div, Nat.zero_mod])⟩)
                rw [s1, hn] at q
                exact q
            exact kk _ List.mem_cons_self (ρ ++ σ) α ls lvl stk ws H locs (rep_addFs (rep_env hh hE') (inF_ok t3 hFs s2))
          · cases h
    · cases h
  · cases h
theorem cell_l {j k n : Nat} {sg : eSg} {S : eSt} {ρ : List Int} {α : List Nat} {ls : Array Slot} {lvl : List (Nat × Value)} {stk : List Value} {ws : va_W} {H : Heap} {locs : List Loc} (hh : eRep s D ca A nL r0 a0 S.1 S.2.1 S.2.2.1 S.2.2.2.1 S.2.2.2.2.1 ρ α ls lvl stk ws H locs) (hf : hfd j S.2.2.2.1 0 = some (k, .inr (.inr (.inl (n, sg))))) :
    ∃ (a : Nat) (F : Nat → Int64), ws[k]? = some (a, .inl (ca 2, n, .inr (.inl F))) ∧ α[j]? = some a ∧ (∀ i, i < n → ∃ x, sga sg i = some x ∧ ell ρ x (F i)) ∧ cdO ρ sg n (fun i => (F i).toInt) := by
  obtain ⟨j', e1, e2⟩ := hfd_ok hf
  rw [Nat.zero_add] at e1
  subst e1
  obtain ⟨w, g1, g2, g3⟩ := R2.get hh.2.2.2.2.2.1 e2
  obtain ⟨a, x⟩ := w
  obtain ⟨F, rfl, hF⟩ := g3
  exact ⟨a, F, g1, g2, hF.1, hF.2⟩
theorem opK_ok {f g : eLF} {S : eSt} {L : List eSt} (h : opK f g S = some L) (kk : ∀ S' ∈ L, GS p l e R s m args below meth c Q D ca A nL cb sb r0 a0 S') : GS p l e R s m args below meth c Q D ca A nL cb sb r0 a0 S := by
  unfold opK at h
  split at h
  · rename_i i c0 hi hg
    cases h
    obtain ⟨env, lo, st, hp, na, nc, ns, pc⟩ := S
    intro ρ α ls lvl stk ws H locs hh
    obtain ⟨x, hx⟩ : ∃ x, lfv ρ f x := by
      unfold irg at hi
      split at hi
      · rename_i j hj
        obtain ⟨y, hy⟩ := lrg_ex hh.1 hj
        refine ⟨y + f.2, ?_⟩
        show lev ρ f.1 = some (y + f.2 - f.2)
        rw [hy]
        congr 1
        omega
      · cases hi
    obtain ⟨h1, h2⟩ := irg_ok hh.1 hi hx
    have a1 := h1.1
    have a2 := h1.2
    by_cases q : x ≤ c0
    · obtain ⟨e', q1, q2⟩ := refLe_ok hh.1 (fpl_ok (-c0) hx) (by omega)
      have t1 : ile i.1 c0 = true := by
        cases hb : ile i.1 c0
        · have := ile_f hb
          omega
        · rfl
      refine kk (e', lo, st, hp, adF na [(Sum.inl [[(i.1, c0)]], [f])], nc, ns, pc) (List.mem_append_left _ ?_) ρ α ls lvl stk ws H locs (rep_addFs (rep_env0 hh q2) (fun G hG => ?_))
      · rw [t1]
        exact opl_mem (f := fun e => (e, lo, st, hp, adF na [(Sum.inl [[(i.1, c0)]], [f])], nc, ns, pc)) q1
      · rcases List.mem_cons.mp hG with rfl | hG
        · exact ⟨[x], ⟨hx, trivial⟩, (bxS_b rfl).mpr ⟨[(i.1, c0)], List.mem_cons_self, ⟨⟨a1, q⟩, trivial⟩⟩⟩
        · cases hG
    · have hx' : lfv ρ (fsc (-1) f) (-1 * x) := fsc_ok hx
      obtain ⟨e', q1, q2⟩ := refLe_ok hh.1 (fpl_ok (c0 + 1) hx') (by omega)
      have t1 : ile (-i.2) (-c0 - 1) = true := by
        cases hb : ile (-i.2) (-c0 - 1)
        · have := ile_f hb
          omega
        · rfl
      refine kk (e', lo, st, hp, adF na [(Sum.inl [[(-i.2, -c0 - 1)]], [fsc (-1) f])], nc, ns, pc) (List.mem_append_right _ ?_) ρ α ls lvl stk ws H locs (rep_addFs (rep_env0 hh q2) (fun G hG => ?_))
      · rw [t1]
        exact opl_mem (f := fun e => (e, lo, st, hp, adF na [(Sum.inl [[(-i.2, -c0 - 1)]], [fsc (-1) f])], nc, ns, pc)) q1
      · rcases List.mem_cons.mp hG with rfl | hG
        · exact ⟨[-1 * x], ⟨hx', trivial⟩, (bxS_b rfl).mpr ⟨[(-i.2, -c0 - 1)], List.mem_cons_self, ⟨⟨by show -i.2 ≤ -1 * x; omega, by show -1 * x ≤ -c0 - 1; omega⟩, trivial⟩⟩⟩
        · cases hG
  · cases h
theorem opQ_ok {k : Nat} {S : eSt} {L : List eSt} (h : opQ k S = some L) (kk : ∀ S' ∈ L, GS p l e R s m args below meth c Q D ca A nL cb sb r0 a0 S') : GS p l e R s m args below meth c Q D ca A nL cb sb r0 a0 S := by
  obtain ⟨env, lo, st, hp, na, nc, ns, pc⟩ := S
  unfold opQ at h
  dsimp only at h
  split at h
  · rename_i i d f st' hF
    cases hb : ieq i.1 0 && ieq i.2 0
    · rw [hb] at h; cases h
    · rw [hb] at h
      cases h
      rw [Bool.and_eq_true] at hb
      have i1 := ieq_t hb.1
      have i2 := ieq_t hb.2
      intro ρ α ls lvl stk ws H locs hh
      obtain ⟨y, y1, y2⟩ := sing_ok (hh.2.1.1.2 _ (List.mem_of_getElem? hF))
      obtain ⟨x, stk1, rfl, hx, h1⟩ := rep_popI hh
      have z1 := y2.1
      have z2 := y2.2
      refine kk _ List.mem_cons_self ρ α ls lvl _ ws H locs (rep_push h1 ⟨x - y, fsub_ok hx y1, ?_⟩)
      rw [show x - y = x by omega]
  · cases h
theorem opC_ok {j o : Nat} {S : eSt} {L : List eSt} (h : opC j o S = some L) (kk : ∀ S' ∈ L, GS p l e R s m args below meth c Q D ca A nL cb sb r0 a0 S') : GS p l e R s m args below meth c Q D ca A nL cb sb r0 a0 S := by
  unfold opC at h
  split at h
  · rename_i k t n sg hf
    cases hb : Nat.ble n 4096 && Nat.blt o 4096
    · rw [hb] at h; cases h
    · rw [hb, bq_t] at h
      cases h
      rw [Bool.and_eq_true] at hb
      have hn := Nat.le_of_ble_eq_true hb.1
      have ho := blt_t hb.2
      obtain ⟨env, lo, st, hp, na, nc, ns, pc⟩ := S
      intro ρ α ls lvl stk ws H locs hh
      obtain ⟨a, F, g1, g2, g3, g4⟩ := cell_i (S := (env, lo, st, hp, na, nc, ns, pc)) hh hf
      have hE : eOk env ρ := hh.1
      have hF : ∀ i, i < n → b64 (F i).toInt := fun i _ => by
        have a1 := (F i).le_toInt
        have a2 := (F i).toInt_lt
        unfold b64
        omega
      have hz := dcd_ecd n (fun i => (F i).toInt) hF
      have hr := rep_recl (rep_env hh (eOk_new hE (ecd n (fun i => (F i).toInt)))) (cl' := .inr (.inl (t, n, cdN env.1 o (cdX sg)))) g1 g2 ⟨F, rfl, fun i hi => by
        rw [sga_cN, sga_cX]
        obtain ⟨x, x1, x2⟩ := g3 i hi
        exact ⟨x, x1, eli_mono _ x2⟩, cdO_N ho (new_get hE _) (fun i _ hi => hz i hi)⟩
      have kk' := kk _ List.mem_cons_self
      dsimp only at kk'
      split at kk'
      · exact kk' (ρ ++ [ecd n (fun i => (F i).toInt)]) α ls lvl stk ws H locs hr
      · rename_i c0 hc0
        refine kk' (ρ ++ [ecd n (fun i => (F i).toInt)]) α ls lvl stk ws H locs (rep_addFs hr (fun G hG => ?_))
        rcases List.mem_cons.mp hG with rfl | hG
        · obtain ⟨z, z1, z2⟩ := g4 c0.1 c0.2 hc0
          refine ⟨[ecd n (fun i => (F i).toInt), z, (c0.2 : Int), (c0.2 : Int), ((n - c0.2 : Nat) : Int)], ⟨lfv_v2 (new_get hE _), lfv_v2 (getE_mono _ z1), fc_ok _, fc_ok _, fc_ok _, trivial⟩, (bxS_t (t := 11)).mpr ?_⟩
          show pCpy _ z c0.2 c0.2 ((n - c0.2 : Nat) : Int)
          intro u u0 u1 u2
          have e : ((c0.2 : Int) + u).toNat = c0.2 + u.toNat := by omega
          rw [e, hz _ (by omega), z2 _ (by omega) (by omega)]
        · cases hG
  · rename_i k n sg hf
    cases hb : Nat.ble n 4096 && Nat.blt o 4096
    · rw [hb] at h; cases h
    · rw [hb, bq_t] at h
      cases h
      rw [Bool.and_eq_true] at hb
      have hn := Nat.le_of_ble_eq_true hb.1
      have ho := blt_t hb.2
      obtain ⟨env, lo, st, hp, na, nc, ns, pc⟩ := S
      intro ρ α ls lvl stk ws H locs hh
      obtain ⟨a, F, g1, g2, g3, g4⟩ := cell_l (S := (env, lo, st, hp, na, nc, ns, pc)) hh hf
      have hE : eOk env ρ := hh.1
      have hF : ∀ i, i < n → b64 (F i).toInt := fun i _ => by
        have a1 := (F i).le_toInt
        have a2 := (F i).toInt_lt
        unfold b64
        omega
      have hz := dcd_ecd n (fun i => (F i).toInt) hF
      have hr := rep_recl (rep_env hh (eOk_new hE (ecd n (fun i => (F i).toInt)))) (cl' := .inr (.inr (.inl (n, cdN env.1 o (cdX sg))))) g1 g2 ⟨F, rfl, fun i hi => by
        rw [sga_cN, sga_cX]
        obtain ⟨x, x1, x2⟩ := g3 i hi
        exact ⟨x, x1, ell_mono _ x2⟩, cdO_N ho (new_get hE _) (fun i _ hi => hz i hi)⟩
      have kk' := kk _ List.mem_cons_self
      dsimp only at kk'
      split at kk'
      · exact kk' (ρ ++ [ecd n (fun i => (F i).toInt)]) α ls lvl stk ws H locs hr
      · rename_i c0 hc0
        refine kk' (ρ ++ [ecd n (fun i => (F i).toInt)]) α ls lvl stk ws H locs (rep_addFs hr (fun G hG => ?_))
        rcases List.mem_cons.mp hG with rfl | hG
        · obtain ⟨z, z1, z2⟩ := g4 c0.1 c0.2 hc0
          refine ⟨[ecd n (fun i => (F i).toInt), z, (c0.2 : Int), (c0.2 : Int), ((n - c0.2 : Nat) : Int)], ⟨lfv_v2 (new_get hE _), lfv_v2 (getE_mono _ z1), fc_ok _, fc_ok _, fc_ok _, trivial⟩, (bxS_t (t := 11)).mpr ?_⟩
          show pCpy _ z c0.2 c0.2 ((n - c0.2 : Nat) : Int)
          intro u u0 u1 u2
          have e : ((c0.2 : Int) + u).toNat = c0.2 + u.toNat := by omega
          rw [e, hz _ (by omega), z2 _ (by omega) (by omega)]
        · cases hG
  · cases h
theorem opO_ok {j o : Nat} {S : eSt} {L : List eSt} (h : opO j o S = some L) (kk : ∀ S' ∈ L, GS p l e R s m args below meth c Q D ca A nL cb sb r0 a0 S') : GS p l e R s m args below meth c Q D ca A nL cb sb r0 a0 S := by
  unfold opO at h
  split at h
  · rename_i k t n sg hf
    split at h
    · rename_i c0 hc0
      cases hb : Nat.ble c0.2 o && Nat.blt o 4096
      · rw [hb] at h; cases h
      · rw [hb, bq_t] at h
        cases h
        rw [Bool.and_eq_true] at hb
        have h1 := Nat.le_of_ble_eq_true hb.1
        have ho := blt_t hb.2
        obtain ⟨env, lo, st, hp, na, nc, ns, pc⟩ := S
        intro ρ α ls lvl stk ws H locs hh
        obtain ⟨a, F, g1, g2, g3, g4⟩ := cell_i (S := (env, lo, st, hp, na, nc, ns, pc)) hh hf
        obtain ⟨z, z1, z2⟩ := g4 c0.1 c0.2 hc0
        refine kk _ List.mem_cons_self ρ α ls lvl stk ws H locs (rep_recl hh g1 g2 ⟨F, rfl, fun i hi => ?_, cdO_N ho z1 (fun i oi hi => z2 i (by omega) hi)⟩)
        rw [sga_cN, sga_cX]
        exact g3 i hi
    · cases h
  · cases h
theorem opT_ok {j x y : Nat} {S : eSt} {L : List eSt} (h : opT j x y S = some L) (kk : ∀ S' ∈ L, GS p l e R s m args below meth c Q D ca A nL cb sb r0 a0 S') : GS p l e R s m args below meth c Q D ca A nL cb sb r0 a0 S := by
  unfold opT at h
  split at h
  · rename_i k t n sg hf
    split at h
    · rename_i c0 hc
      cases hb : Nat.blt x y && Nat.ble y n && Nat.ble c0.2 x
      · rw [hb] at h; cases h
      · rw [hb, bq_t] at h
        rw [Bool.and_eq_true, Bool.and_eq_true] at hb
        have hxy := blt_t hb.1.1
        have hyn := Nat.le_of_ble_eq_true hb.1.2
        have hox := Nat.le_of_ble_eq_true hb.2
        split at h
        · rename_i i hi
          cases h
          obtain ⟨env, lo, st, hp, na, nc, ns, pc⟩ := S
          intro ρ α ls lvl stk ws H locs hh
          obtain ⟨a, F, g1, g2, g3, g4⟩ := cell_i (S := (env, lo, st, hp, na, nc, ns, pc)) hh hf
          obtain ⟨z, z1, z2⟩ := g4 c0.1 c0.2 hc
          refine kk _ List.mem_cons_self ρ α ls lvl stk ws H locs (rep_addFs hh (fun G hG => ?_))
          rcases List.mem_cons.mp hG with rfl | hG
          · refine ⟨[z, x, y, i.1, i.2], ⟨lfv_v2 z1, fc_ok _, fc_ok _, fc_ok _, fc_ok _, trivial⟩, (bxS_t (t := 3)).mpr ?_⟩
            show pRg z x y i.1 i.2
            intro u u0 u1 u2 _
            obtain ⟨w, rfl⟩ : ∃ w : Nat, u = w := ⟨u.toNat, by omega⟩
            obtain ⟨e0, e1, e2⟩ := g3 w (by omega)
            have q := sgh_ok hh.1 (sgX x (y - 1) 0 (cdX sg)) 0 hi w ((sgX_at (cdX sg) 0 _).trans ((sga_cX sg w).trans e1)) e2 (by omega) (by omega)
            rw [Int.toNat_natCast, z2 w (by omega) (by omega)]
            exact q
          · cases hG
        · cases h
    · cases h
  · cases h
theorem opY_ok {j kf : Nat} {S : eSt} {L : List eSt} (h : opY j kf S = some L) (kk : ∀ S' ∈ L, GS p l e R s m args below meth c Q D ca A nL cb sb r0 a0 S') : GS p l e R s m args below meth c Q D ca A nL cb sb r0 a0 S := by
  unfold opY at h
  split at h
  · rename_i k t n sg F hf hF
    split at h
    · rename_i r hr
      obtain ⟨c1, a1, b1, l1, h1⟩ := r
      unfold opY1 at h
      split at h
      · rename_i c0 hc
        cases hb : Nat.beq c0.1 c1 && Nat.ble n 4096 && ile c0.2 a1
        · dsimp only at h
          rw [hb] at h; cases h
        · dsimp only at h
          rw [hb, bq_t] at h
          cases h
          rw [Bool.and_eq_true, Bool.and_eq_true] at hb
          have e0 := Nat.eq_of_beq_eq_true hb.1.1
          subst e0
          have hn := Nat.le_of_ble_eq_true hb.1.2
          have ha := ile_t hb.2
          obtain ⟨env, lo, st, hp, na, nc, ns, pc⟩ := S
          intro ρ α ls lvl stk ws H locs hh
          obtain ⟨a, G, g1, g2, g3, g4⟩ := cell_i (S := (env, lo, st, hp, na, nc, ns, pc)) hh hf
          rw [lk_eq] at hF
          obtain ⟨z, z1, z2⟩ := gRg_ok hr (hh.2.1.1.2 F (List.mem_of_getElem? hF))
          obtain ⟨z', y1, y2⟩ := g4 c0.1 c0.2 hc
          rw [z1] at y1
          cases y1
          refine kk _ List.mem_cons_self ρ α ls lvl stk ws H locs (rep_recl hh g1 g2 ⟨G, rfl, fun i hi => ?_, cdO_N (cdG_lt hc) z1 y2⟩)
          obtain ⟨x, x1, x2⟩ := g3 i hi
          have q := sgP_at (a := a1.toNat) (b := b1.toNat) (i := (l1, h1)) (o := 0) ((sga_cX sg i).trans x1)
          rw [Nat.zero_add] at q
          rw [sga_cN]
          by_cases hin : a1.toNat ≤ i ∧ i < b1.toNat
          · refine ⟨_, q.1 hin.1 hin.2, ?_⟩
            have hi : i < n := hi
            show ivr (l1, h1) (G i).toInt
            have w := z2 (i : Int) (by omega) (by omega) (by omega) (by omega)
            rw [Int.toNat_natCast, y2 i (by omega) hi] at w
            exact w
          · exact ⟨x, q.2 (by omega), x2⟩
      · cases h
    · cases h
  · cases h
theorem opS_ok {a : eAn} {S : eSt} {L : List eSt} (h : opS a S = some L) (kk : ∀ S' ∈ L, GS p l e R s m args below meth c Q D ca A nL cb sb r0 a0 S') : GS p l e R s m args below meth c Q D ca A nL cb sb r0 a0 S := by
  unfold opS at h
  split at h
  · cases h; exact kk _ List.mem_cons_self
  · split at h
    · rename_i f _ _
      split at h
      · rename_i i hi
        cases h
        intro ρ α ls lvl stk ws H locs hh
        obtain ⟨x, hx⟩ : ∃ x, lfv ρ f x := by
          unfold irg at hi
          split at hi
          · rename_i j hj
            obtain ⟨y, hy⟩ := lrg_ex hh.1 hj
            refine ⟨y + f.2, ?_⟩
            show lev ρ f.1 = some (y + f.2 - f.2)
            rw [hy]
            congr 1
            omega
          · cases hi
        obtain ⟨h1, h2⟩ := irg_ok hh.1 hi hx
        obtain ⟨e', q1, q2⟩ := cEq_ok hh.1 hx (fc_ok x) rfl
        exact kk (e', S.2) (spl_mem (mk := fun e => (e, S.2)) _ h1.1 (by have := h1.1; have := h1.2; omega) q1) ρ α ls lvl stk ws H locs (rep_env0 hh q2)
      · cases h
    · cases h
  · split at h
    · exact opF_ok h kk
    · cases h
  · split at h
    · split at h
      · rename_i S' hS'
        cases h
        exact nmL_ok hS' (kk _ List.mem_cons_self)
      · cases h
    · cases h
  · exact opX_ok h
  · exact opR_ok h kk
  · split at h
    · exact opC_ok h kk
    · cases h
  · split at h
    · exact opT_ok h kk
    · cases h
  · split at h
    · exact opY_ok h kk
    · cases h
  · split at h
    · exact opO_ok h kk
    · cases h
  · split at h
    · exact opK_ok h kk
    · cases h
  · split at h
    · exact opQ_ok h kk
    · cases h
  · cases h
end
def cstQ (Rf Rl Rc Rs : Nat) (KS : List eK) (r : eRow) (rec : List eAn → eSt → Option (List eAn)) (an : List eAn) (S : eSt) : Option (List eAn) := match r.2.1 with
  | .invokevirtual _ => (match an, S.2.2.1.drop (r.2.2.2.1 % 100) with
    | a :: an', .inr (.inr (some i)) :: st' => bif Nat.blt i 5 && Nat.beq (S.2.2.1.take (r.2.2.2.1 % 100)).length (r.2.2.2.1 % 100) then (match callK Rf Rl Rc Rs KS a (r.2.2.2.1 / 1000) (S.2.2.1.take (r.2.2.2.1 % 100) ++ [.inr (.inr (some i))]) st' S.1 S.2.1 S.2.2.2.1 S.2.2.2.2.1 S.2.2.2.2.2.1 S.2.2.2.2.2.2.1 S.2.2.2.2.2.2.2 with
        | some L => runL rec an' L
        | none => none) else none
    | _, _ => none)
  | i => (match cst i r.2.2.2.1 S.1 S.2.1 S.2.2.1 S.2.2.2.1 S.2.2.2.2.1 S.2.2.2.2.2.1 S.2.2.2.2.2.2.1 S.2.2.2.2.2.2.2 with
    | some L => runL rec an L
    | none => none)
/-- one that tells facts says so by its place -/
def cstR (Rf Rl Rc Rs : Nat) (KS : List eK) (r : eRow) (rec : List eAn → eSt → Option (List eAn)) (an : List eAn) (S : eSt) : Option (List eAn) := bif Nat.beq r.2.2.2.1 888 then (match cst3 r.2.1 S.1 S.2.1 S.2.2.1 S.2.2.2.1 S.2.2.2.2.1 S.2.2.2.2.2.1 S.2.2.2.2.2.2.1 S.2.2.2.2.2.2.2 with
  | some L => runL rec an L
  | none => none) else (bif Nat.beq (r.2.2.2.1 / 2) 445 then (match cstM Rc Rs r.2.1 r.2.2.2.1 S.1 S.2.1 S.2.2.1 S.2.2.2.1 S.2.2.2.2.1 S.2.2.2.2.2.1 S.2.2.2.2.2.2.1 S.2.2.2.2.2.2.2 with
  | some L => runL rec an L
  | none => none) else cstQ Rf Rl Rc Rs KS r rec an S)
section
variable {p : Program} {l : Launch} {e : Env} {R : Room} {s : State} {m : MethodId} {args : Array Value} {below : List Frame} {meth : Method} {c : Code} {Q : State → Prop} {D : va_G} {ca : Nat → ClassId} {A : Nat → Prop} {nL cb sb : Nat} {r0 : List Int} {a0 : List Nat} {own : String} {cc : ByteArray} {env : eEv} {lo : List (Nat × eSV)} {st : List eSV} {hp : eHp} {na : eNa} {nc ns pc : Nat}
theorem cstQ_ok (X : eCx p R s m args c D ca A nL own cc a0) (hl : libW) {Rf Rl Rc Rs : Nat} (hRf : Rf ≤ R.frames) (hRl : Rl ≤ R.locals) (hRc : cb + Rc ≤ R.cells) (hRs : sb + Rs ≤ R.slots) {KS : List eK} (hKS : ∀ K ∈ KS, KMet l D ca K) {rpc len x y : Nat} {i : Instr} {ps : List Nat} (hd : decode cc pc = .ok (i, ilen i len)) (hw : cRow own i x y)
    {rec : List eAn → eSt → Option (List eAn)} (key : ∀ {L : List eSt} {a a' : List eAn}, runL rec a L = some a' → ∀ S ∈ L, GS p l e R s m args below meth c Q D ca A nL cb sb r0 a0 S) {an an' : List eAn} (h : cstQ Rf Rl Rc Rs KS (rpc, i, len, x, y, ps) rec an (env, lo, st, hp, na, nc, ns, pc) = some an') : eG p l e R s m args below meth c Q D ca A nL cb sb r0 a0 env lo st hp na nc ns pc := by
  unfold cstQ at h
  dsimp only at h
  split at h
  · split at h
    · rename_i a an1 i' st' hst
      cases hb : Nat.blt i' 5 && Nat.beq (st.take (x % 100)).length (x % 100)
      · rw [hb] at h; cases h
      · rw [hb] at h
        rw [Bool.and_eq_true] at hb
        dsimp only [cond_true] at h
        split at h
        · rename_i L hL
          obtain ⟨K, ks, k1, k2, k3, k4, k5, k6, k7, k8, k9, k10, kf, k11, k12, k13, k14⟩ := callK_ok hL
          obtain ⟨q, q1, q2, q3, q4, q5, q6, q7, q8⟩ := hw
          have e2 : st = st.take (x % 100) ++ .inr (.inr (some i')) :: st' := by
            conv => lhs; rw [← List.take_append_drop (x % 100) st]
            rw [show st.drop (x % 100) = .inr (.inr (some i')) :: st' from hst]
          rw [e2]
          exact g_callC X (hKS K k1) (by rw [k2]; exact q1) hd q2 (blt_t hb.1) q3 q4 q5 q6 q7 (Nat.eq_of_beq_eq_true hb.2) k3 ⟨by omega, by omega⟩ ⟨by omega, by omega⟩ k8 k9 k10 k11 k12 k13 kf (fun P hP => by
            obtain ⟨r', r1, r2⟩ := instL_ok k14 P hP
            exact ⟨r', r1, fun S hS => key h _ (r2 S hS)⟩)
        · cases h
    · cases h
  · split at h
    · rename_i L hL
      exact cst_ok X hl hd hw hL (key h)
    · cases h
theorem cstR_ok (X : eCx p R s m args c D ca A nL own cc a0) (hl : libW) {Rf Rl Rc Rs : Nat} (hRf : Rf ≤ R.frames) (hRl : Rl ≤ R.locals) (hRc : cb + Rc ≤ R.cells) (hRs : sb + Rs ≤ R.slots) {KS : List eK} (hKS : ∀ K ∈ KS, KMet l D ca K) {rpc len x y : Nat} {i : Instr} {ps : List Nat} (hd : decode cc pc = .ok (i, ilen i len)) (hw : Nat.beq x 888 = false → (Nat.beq (x / 2) 445 = true → cRowM own i x) ∧ (Nat.beq (x / 2) 445 = false → cRow own i x y))
    {rec : List eAn → eSt → Option (List eAn)} (key : ∀ {L : List eSt} {a a' : List eAn}, runL rec a L = some a' → ∀ S ∈ L, GS p l e R s m args below meth c Q D ca A nL cb sb r0 a0 S) {an an' : List eAn} (h : cstR Rf Rl Rc Rs KS (rpc, i, len, x, y, ps) rec an (env, lo, st, hp, na, nc, ns, pc) = some an') : eG p l e R s m args below meth c Q D ca A nL cb sb r0 a0 env lo st hp na nc ns pc := by
  unfold cstR at h
  dsimp only at h
  cases hb : Nat.beq x 888
  · rw [hb] at h
    have hw2 := hw hb
    dsimp only [cond_false] at h
    cases hb2 : Nat.beq (x / 2) 445
    · rw [hb2] at h
      exact cstQ_ok X hl hRf hRl hRc hRs hKS hd (hw2.2 hb2) key h
    · rw [hb2] at h
      dsimp only [cond_true] at h
      split at h
      · rename_i L hL
        exact cstM_ok X hl hRc hRs hd (hw2.1 hb2) hL (key h)
      · cases h
  · rw [hb] at h
    dsimp only [cond_true] at h
    split at h
    · rename_i L hL
      exact cst3_ok X hd hL (key h)
    · cases h
end
def stepR0 (ini : Bool) (nL Rf Rl Rc Rs : Nat) (C : eCode) (KS : List eK) (retB : eAn → eSt → Option eSV → Bool) (rec : List eAn → eSt → Option (List eAn)) (an : List eAn) (S : eSt) : Option (List eAn) := match rowAt C S.2.2.2.2.2.2.2 with
  | none => none
  | some r => bif Nat.beq r.2.2.2.2.1 150000 then cstR Rf Rl Rc Rs KS r rec an S else (match spq r S with
    | some L => runL rec an L
    | none => (match r.2.1 with
    | .return_ => (match an, S.2.2.1 with
      | a :: an', [] => bif retB a S none then some an' else none
      | _, _ => none)
    | .ireturn => (match an, S.2.2.1 with
      | a :: an', [.inl f] => bif retB a S (some (.inl f)) then some an' else none
      | _, _ => none)
    | .lreturn => (match an, S.2.2.1 with
      | a :: an', [.inr (.inl f)] => bif retB a S (some (.inr (.inl f))) then some an' else none
      | _, _ => none)
    | .areturn => (match an, S.2.2.1 with
      | a :: an', [.inr (.inr (some i))] => bif retB a S (some (.inr (.inr (some i)))) then some an' else none
      | _, _ => none)
    | .invokevirtual _ => (match an, S.2.2.1.drop (r.2.2.2.1 % 100) with
      | a :: an', .inr (.inr (some i)) :: st' => (match hfd i S.2.2.2.1 0 with
        | some (_, .inl (ci, _)) => bif Nat.beq ci (r.2.2.2.1 / 1000) && Nat.beq (S.2.2.1.take (r.2.2.2.1 % 100)).length (r.2.2.2.1 % 100) then (match callK Rf Rl Rc Rs KS a r.2.2.2.2.1 (S.2.2.1.take (r.2.2.2.1 % 100) ++ [.inr (.inr (some i))]) st' S.1 S.2.1 S.2.2.2.1 S.2.2.2.2.1 S.2.2.2.2.2.1 S.2.2.2.2.2.2.1 S.2.2.2.2.2.2.2 with
            | some L => runL rec an' L
            | none => none) else none
        | _ => none)
      | _, _ => none)
    | .invokestatic idx => bif Nat.blt r.2.2.2.2.1 100000 then (match an with
        | a :: an' => bif Nat.beq (S.2.2.1.take (r.2.2.2.1 % 100)).length (r.2.2.2.1 % 100) then (match callK Rf Rl Rc Rs KS a r.2.2.2.2.1 (S.2.2.1.take (r.2.2.2.1 % 100)) (S.2.2.1.drop (r.2.2.2.1 % 100)) S.1 S.2.1 S.2.2.2.1 S.2.2.2.2.1 S.2.2.2.2.2.1 S.2.2.2.2.2.2.1 S.2.2.2.2.2.2.2 with
            | some L => runL rec an' L
            | none => none) else none
        | [] => none) else (match stp ini nL Rc Rs (.invokestatic idx) r.2.2.2.1 r.2.2.2.2.1 S.1 S.2.1 S.2.2.1 S.2.2.2.1 S.2.2.2.2.1 S.2.2.2.2.2.1 S.2.2.2.2.2.2.1 S.2.2.2.2.2.2.2 with
        | some L => runL rec an L
        | none => none)
    | .invokespecial idx => bif Nat.blt r.2.2.2.2.1 100000 then (match an, S.2.2.1.drop (r.2.2.2.1 % 100) with
        | a :: an', .inr (.inr (some i)) :: st' => bif Nat.beq (S.2.2.1.take (r.2.2.2.1 % 100)).length (r.2.2.2.1 % 100) && spec (r.2.2.2.1 / 1000) i S.2.2.2.1 then (match callK Rf Rl Rc Rs KS a r.2.2.2.2.1 (S.2.2.1.take (r.2.2.2.1 % 100) ++ [.inr (.inr (some i))]) st' S.1 S.2.1 S.2.2.2.1 S.2.2.2.2.1 S.2.2.2.2.2.1 S.2.2.2.2.2.2.1 S.2.2.2.2.2.2.2 with
            | some L => runL rec an' L
            | none => none) else none
        | _, _ => none) else (match stp ini nL Rc Rs (.invokespecial idx) r.2.2.2.1 r.2.2.2.2.1 S.1 S.2.1 S.2.2.1 S.2.2.2.1 S.2.2.2.2.1 S.2.2.2.2.2.1 S.2.2.2.2.2.2.1 S.2.2.2.2.2.2.2 with
        | some L => runL rec an L
        | none => none)
    | .if_icmp k o => bif Nat.beq r.2.2.2.1 779 then (match S.2.2.1, nat? ((S.2.2.2.2.2.2.2 : Int) + o) with
      | .inl g :: .inl f :: st', some t => (match irg S.1 f, irg S.1 g with
        | some _, some _ => runL rec an (opl (ccT (cno k) S.1 f g) (fun e => (e, S.2.1, st', S.2.2.2.1, (S.2.2.2.2.1.1, S.2.2.2.2.1.2 ++ [(Sum.inl [[cfT (cno k)]], [fsub f g])]), S.2.2.2.2.2.1, S.2.2.2.2.2.2.1, t)) ++ opl (ccF (cno k) S.1 f g) (fun e => (e, S.2.1, st', S.2.2.2.1, (S.2.2.2.2.1.1, S.2.2.2.2.1.2 ++ [(Sum.inl [[cfF (cno k)]], [fsub f g])]), S.2.2.2.2.2.1, S.2.2.2.2.2.2.1, S.2.2.2.2.2.2.2 + 3)))
        | _, _ => none)
      | _, _ => none) else (match stp ini nL Rc Rs (.if_icmp k o) r.2.2.2.1 r.2.2.2.2.1 S.1 S.2.1 S.2.2.1 S.2.2.2.1 S.2.2.2.2.1 S.2.2.2.2.2.1 S.2.2.2.2.2.2.1 S.2.2.2.2.2.2.2 with
      | some L => runL rec an L
      | none => none)
    | .irem => bif Nat.beq r.2.2.2.1 780 then (match S.2.2.1 with
      | .inl g :: .inl f :: st' => (match ibin 4 S.1 f g, irg S.1 f, irg S.1 g with
        | some z, some i, some j => bif ile 0 i.1 && ile 1 j.1 && (irg z.1 z.2).isSome then runL rec an [(z.1, S.2.1, .inl z.2 :: st', S.2.2.2.1, (S.2.2.2.2.1.1, S.2.2.2.2.1.2 ++ [(Sum.inl [[(-4294967296, -1)]], [fsub z.2 g])]), S.2.2.2.2.2.1, S.2.2.2.2.2.2.1, S.2.2.2.2.2.2.2 + 1)] else none
        | _, _, _ => none)
      | _ => none) else (match stp ini nL Rc Rs .irem r.2.2.2.1 r.2.2.2.2.1 S.1 S.2.1 S.2.2.1 S.2.2.2.1 S.2.2.2.2.1 S.2.2.2.2.2.1 S.2.2.2.2.2.2.1 S.2.2.2.2.2.2.2 with
      | some L => runL rec an L
      | none => none)
    | .idiv => bif Nat.beq r.2.2.2.1 781 then (match S.2.2.1 with
      | .inl ([], d0) :: .inl f :: st' => (match ibin 3 S.1 f (fc d0), irg S.1 f, irg S.1 (fc d0) with
        | some z, some i, some j => bif ile 1 d0 && (ieq j.1 d0 && ieq j.2 d0) && (irg z.1 z.2).isSome then (bif ile 0 i.1 then runL rec an [(z.1, S.2.1, .inl z.2 :: st', S.2.2.2.1, (S.2.2.2.2.1.1, S.2.2.2.2.1.2 ++ [(Sum.inl [[(0, d0 - 1)]], [fsub f (fsc d0 z.2)])]), S.2.2.2.2.2.1, S.2.2.2.2.2.2.1, S.2.2.2.2.2.2.2 + 1)] else bif ile i.2 0 then runL rec an [(z.1, S.2.1, .inl z.2 :: st', S.2.2.2.1, (S.2.2.2.2.1.1, S.2.2.2.2.1.2 ++ [(Sum.inl [[(1 - d0, 0)]], [fsub f (fsc d0 z.2)])]), S.2.2.2.2.2.1, S.2.2.2.2.2.2.1, S.2.2.2.2.2.2.2 + 1)] else none) else none
        | _, _, _ => none)
      | _ => none) else (match stp ini nL Rc Rs .idiv r.2.2.2.1 r.2.2.2.2.1 S.1 S.2.1 S.2.2.1 S.2.2.2.1 S.2.2.2.2.1 S.2.2.2.2.2.1 S.2.2.2.2.2.2.1 S.2.2.2.2.2.2.2 with
      | some L => runL rec an L
      | none => none)
    | .lcmp => bif Nat.beq r.2.2.2.1 778 then (match S.2.2.1 with
      | .inr (.inl g) :: .inr (.inl f) :: st' => runL rec an (opl (kLt S.1 f g) (fun e => (e, S.2.1, .inl (fc (-1)) :: st', S.2.2.2.1, S.2.2.2.2.1, S.2.2.2.2.2.1, S.2.2.2.2.2.2.1, S.2.2.2.2.2.2.2 + 1)) ++ opl (kEq S.1 f g) (fun e => (e, S.2.1, .inl (fc 0) :: st', rpH f g S.2.2.2.1, S.2.2.2.2.1, S.2.2.2.2.2.1, S.2.2.2.2.2.2.1, S.2.2.2.2.2.2.2 + 1)) ++ opl (kLt S.1 g f) (fun e => (e, S.2.1, .inl (fc 1) :: st', S.2.2.2.1, S.2.2.2.2.1, S.2.2.2.2.2.1, S.2.2.2.2.2.2.1, S.2.2.2.2.2.2.2 + 1)))
      | _ => none) else (match stp ini nL Rc Rs .lcmp r.2.2.2.1 r.2.2.2.2.1 S.1 S.2.1 S.2.2.1 S.2.2.2.1 S.2.2.2.2.1 S.2.2.2.2.2.1 S.2.2.2.2.2.2.1 S.2.2.2.2.2.2.2 with
      | some L => runL rec an L
      | none => none)
    | i => (match stp ini nL Rc Rs i r.2.2.2.1 r.2.2.2.2.1 S.1 S.2.1 S.2.2.1 S.2.2.2.1 S.2.2.2.2.1 S.2.2.2.2.2.1 S.2.2.2.2.2.2.1 S.2.2.2.2.2.2.2 with
      | some L => runL rec an L
      | none => none)))
/-! one dispatch an instruction: small functions by name -/
abbrev eSx : Type := eEv → List (Nat × eSV) → List eSV → eHp → eNa → Nat → Nat → Nat → Option (List eSt)
def d_iconst (n : Int) : eSx := fun env lo st hp na nc ns pc => some [(env, lo, .inl (fc n) :: st, hp, na, nc, ns, pc + 1)]
def d_bipush (n : Int) : eSx := fun env lo st hp na nc ns pc => some [(env, lo, .inl (fc (Int8.ofInt n).toInt32.toInt) :: st, hp, na, nc, ns, pc + 2)]
def d_sipush (n : Int) : eSx := fun env lo st hp na nc ns pc => some [(env, lo, .inl (fc (Int16.ofInt n).toInt32.toInt) :: st, hp, na, nc, ns, pc + 3)]
def d_lconst (n : Fin 2) : eSx := fun env lo st hp na nc ns pc => some [(env, lo, .inr (.inl (fc (Int64.ofNat (n : Nat)).toInt)) :: st, hp, na, nc, ns, pc + 1)]
def d_ldc (x : Nat) : eSx := fun env lo st hp na nc ns pc => some [(env, lo, .inl (fc (Int32.ofNat x).toInt) :: st, hp, na, nc, ns, pc + 2)]
def d_ldc2_w (x : Nat) : eSx := fun env lo st hp na nc ns pc => some [(env, lo, .inr (.inl (fc (Int64.ofNat x).toInt)) :: st, hp, na, nc, ns, pc + 3)]
def d_ldc_w (x : Nat) : eSx := fun env lo st hp na nc ns pc => some [(env, lo, .inl (fc (Int32.ofNat x).toInt) :: st, hp, na, nc, ns, pc + 3)]
def d_getstatic (x : Nat) : eSx := fun env lo st hp na nc ns pc => (match stZ[x]? with
    | some z => some [(env, lo, .inl (fc z.2.2.2.toInt) :: st, hp, na, nc, ns, pc + 3)]
    | none => none)
def d_ineg : eSx := fun env lo st hp na nc ns pc => (match st with
    | .inl f :: st' => (match ibin 1 env (fc 0) f with
      | some r => some [(r.1, lo, .inl r.2 :: st', hp, na, nc, ns, pc + 1)]
      | none => none)
    | _ => none)
def d_iload_n (k : Fin 4) : eSx := fun env lo st hp na nc ns pc => sLd (lfd k lo) 0 env lo st hp na nc ns (pc + 1)
def d_iload (k : Nat) : eSx := fun env lo st hp na nc ns pc => sLd (lfd k lo) 0 env lo st hp na nc ns (pc + 2)
def d_lload_n (k : Fin 4) : eSx := fun env lo st hp na nc ns pc => sLd (lfd k lo) 1 env lo st hp na nc ns (pc + 1)
def d_lload (k : Nat) : eSx := fun env lo st hp na nc ns pc => sLd (lfd k lo) 1 env lo st hp na nc ns (pc + 2)
def d_aload_n (k : Fin 4) : eSx := fun env lo st hp na nc ns pc => sLd (lfd k lo) 2 env lo st hp na nc ns (pc + 1)
def d_aload (k : Nat) : eSx := fun env lo st hp na nc ns pc => sLd (lfd k lo) 2 env lo st hp na nc ns (pc + 2)
def d_istore_n (k : Fin 4) (nL : Nat) : eSx := fun env lo st hp na nc ns pc => sSt k 0 nL env lo st hp na nc ns (pc + 1)
def d_istore (k : Nat) (nL : Nat) : eSx := fun env lo st hp na nc ns pc => sSt k 0 nL env lo st hp na nc ns (pc + 2)
def d_lstore_n (k : Fin 4) (nL : Nat) : eSx := fun env lo st hp na nc ns pc => sSt k 1 nL env lo st hp na nc ns (pc + 1)
def d_lstore (k : Nat) (nL : Nat) : eSx := fun env lo st hp na nc ns pc => sSt k 1 nL env lo st hp na nc ns (pc + 2)
def d_astore_n (k : Fin 4) (nL : Nat) : eSx := fun env lo st hp na nc ns pc => sSt k 2 nL env lo st hp na nc ns (pc + 1)
def d_astore (k : Nat) (nL : Nat) : eSx := fun env lo st hp na nc ns pc => sSt k 2 nL env lo st hp na nc ns (pc + 2)
def d_iinc (k : Nat) (n : Int) (nL : Nat) : eSx := fun env lo st hp na nc ns pc => (match lfd k lo with
    | some (.inl f) => (match ibin 0 env f (fc n) with
      | some r => bif Nat.blt k nL then some [(r.1, lst1 k (.inl r.2) lo, st, hp, na, nc, ns, pc + 3)] else none
      | none => none)
    | _ => none)
def d_iadd : eSx := fun env lo st hp na nc ns pc => sBin 0 env lo st hp na nc ns (pc + 1)
def d_isub : eSx := fun env lo st hp na nc ns pc => sBin 1 env lo st hp na nc ns (pc + 1)
def d_imul : eSx := fun env lo st hp na nc ns pc => sBin 2 env lo st hp na nc ns (pc + 1)
def d_idiv : eSx := fun env lo st hp na nc ns pc => sBin 3 env lo st hp na nc ns (pc + 1)
def d_irem : eSx := fun env lo st hp na nc ns pc => sBin 4 env lo st hp na nc ns (pc + 1)
def d_iand : eSx := fun env lo st hp na nc ns pc => sBin 5 env lo st hp na nc ns (pc + 1)
def d_ior : eSx := fun env lo st hp na nc ns pc => sBin 6 env lo st hp na nc ns (pc + 1)
def d_ixor : eSx := fun env lo st hp na nc ns pc => sBin 7 env lo st hp na nc ns (pc + 1)
def d_ishl : eSx := fun env lo st hp na nc ns pc => sBin 8 env lo st hp na nc ns (pc + 1)
def d_ishr : eSx := fun env lo st hp na nc ns pc => sBin 9 env lo st hp na nc ns (pc + 1)
def d_iushr : eSx := fun env lo st hp na nc ns pc => sBin 10 env lo st hp na nc ns (pc + 1)
def d_ladd : eSx := fun env lo st hp na nc ns pc => sBinL 0 env lo st hp na nc ns (pc + 1)
def d_lsub : eSx := fun env lo st hp na nc ns pc => sBinL 1 env lo st hp na nc ns (pc + 1)
def d_lmul : eSx := fun env lo st hp na nc ns pc => sBinL 2 env lo st hp na nc ns (pc + 1)
def d_ldiv : eSx := fun env lo st hp na nc ns pc => sBinL 3 env lo st hp na nc ns (pc + 1)
def d_lrem : eSx := fun env lo st hp na nc ns pc => sBinL 4 env lo st hp na nc ns (pc + 1)
def d_land : eSx := fun env lo st hp na nc ns pc => sBinL 5 env lo st hp na nc ns (pc + 1)
def d_lor : eSx := fun env lo st hp na nc ns pc => sBinL 6 env lo st hp na nc ns (pc + 1)
def d_lxor : eSx := fun env lo st hp na nc ns pc => sBinL 7 env lo st hp na nc ns (pc + 1)
def d_lshl : eSx := fun env lo st hp na nc ns pc => (match st with
    | .inl _ :: .inr (.inl _) :: st' => some [((fr env mnL mxL).1, lo, .inr (.inl (fr env mnL mxL).2) :: st', hp, na, nc, ns, pc + 1)]
    | _ => none)
def d_lushr : eSx := fun env lo st hp na nc ns pc => (match st with
    | .inl _ :: .inr (.inl _) :: st' => some [((fr env mnL mxL).1, lo, .inr (.inl (fr env mnL mxL).2) :: st', hp, na, nc, ns, pc + 1)]
    | _ => none)
def d_lcmp : eSx := fun env lo st hp na nc ns pc => (match st with
    | .inr (.inl g) :: .inr (.inl f) :: st' => some (opl (kLt env f g) (fun e => (e, lo, .inl (fc (-1)) :: st', hp, na, nc, ns, pc + 1)) ++ opl (kEq env f g) (fun e => (e, lo, .inl (fc 0) :: st', hp, na, nc, ns, pc + 1)) ++ opl (kLt env g f) (fun e => (e, lo, .inl (fc 1) :: st', hp, na, nc, ns, pc + 1)))
    | _ => none)
def d_i2l : eSx := fun env lo st hp na nc ns pc => (match st with
    | .inl f :: st' => (match irg env f with
      | some _ => some [(env, lo, .inr (.inl f) :: st', hp, na, nc, ns, pc + 1)]
      | none => none)
    | _ => none)
def d_l2i : eSx := fun env lo st hp na nc ns pc => (match st with
    | .inr (.inl f) :: st' => some [((l2i env f).1, lo, .inl (l2i env f).2 :: st', hp, na, nc, ns, pc + 1)]
    | _ => none)
def d_i2b : eSx := fun env lo st hp na nc ns pc => (match st with
    | .inl f :: st' => (match nrb env f with
      | some r => some [(r.1, lo, .inl r.2 :: st', hp, na, nc, ns, pc + 1)]
      | none => none)
    | _ => none)
def d_i2c : eSx := fun env lo st hp na nc ns pc => (match st with
    | .inl f :: st' => (match nrc env f with
      | some r => some [(r.1, lo, .inl r.2 :: st', hp, na, nc, ns, pc + 1)]
      | none => none)
    | _ => none)
def d_dup : eSx := fun env lo st hp na nc ns pc => (match st with
    | v :: st' => bif c1 v then some [(env, lo, v :: v :: st', hp, na, nc, ns, pc + 1)] else none
    | _ => none)
def d_pop : eSx := fun env lo st hp na nc ns pc => (match st with
    | v :: st' => bif c1 v then some [(env, lo, st', hp, na, nc, ns, pc + 1)] else none
    | _ => none)
def d_dup_x1 : eSx := fun env lo st hp na nc ns pc => (match st with
    | v :: u :: st' => bif c1 v && c1 u then some [(env, lo, v :: u :: v :: st', hp, na, nc, ns, pc + 1)] else none
    | _ => none)
def d_dup2 : eSx := fun env lo st hp na nc ns pc => (match st with
    | v :: u :: st' => bif c1 v && c1 u then some [(env, lo, v :: u :: v :: u :: st', hp, na, nc, ns, pc + 1)] else none
    | _ => none)
def d_goto (o : Int) : eSx := fun env lo st hp na nc ns pc => (match nat? ((pc : Int) + o) with
    | some t => some [(env, lo, st, hp, na, nc, ns, t)]
    | none => none)
def d_if_icmp (k : Jvm.ClassFile.Cond) (o : Int) : eSx := fun env lo st hp na nc ns pc => (match st, nat? ((pc : Int) + o) with
    | .inl g :: .inl f :: st', some t => some (opl (ccT (cno k) env f g) (fun e => (e, lo, st', hp, na, nc, ns, t)) ++ opl (ccF (cno k) env f g) (fun e => (e, lo, st', hp, na, nc, ns, pc + 3)))
    | _, _ => none)
def d_ifCond (k : Jvm.ClassFile.Cond) (o : Int) : eSx := fun env lo st hp na nc ns pc => (match st, nat? ((pc : Int) + o) with
    | .inl f :: st', some t => some (opl (ccT (cno k) env f (fc 0)) (fun e => (e, lo, st', hp, na, nc, ns, t)) ++ opl (ccF (cno k) env f (fc 0)) (fun e => (e, lo, st', hp, na, nc, ns, pc + 3)))
    | _, _ => none)
def d_tableswitch (d : Int) (a : Int) (b : Int) (offs : Array Int) : eSx := fun env lo st hp na nc ns pc => (match st with
    | .inl f :: st' => bif Nat.beq (b - a + 1).toNat offs.toList.length && offs.toList.all (fun o => ile 0 ((pc : Int) + o)) && ile 0 ((pc : Int) + d) && ieq (Int32.ofInt a).toInt a && ieq (Int32.ofInt b).toInt b then
        some ((tsw env f pc a offs.toList).map (fun q => (q.1, lo, st', hp, na, nc, ns, q.2)) ++ opl (cLt env f (fc a)) (fun e => (e, lo, st', hp, na, nc, ns, ((pc : Int) + d).toNat)) ++ opl (cLt env (fc b) f) (fun e => (e, lo, st', hp, na, nc, ns, ((pc : Int) + d).toNat))) else none
    | _ => none)
def d_lookupswitch (d : Int) (ps : Array (Int × Int)) : eSx := fun env lo st hp na nc ns pc => (match st with
    | .inl f :: st' => bif (ps.toList.zip (ps.toList.drop 1)).all (fun (a, next) => a.1 < next.1) && offsOk pc d ps.toList then some ((lsw f pc d env ps.toList).map (fun q => (q.1, lo, st', hp, na, nc, ns, q.2))) else none
    | _ => none)
def d_getfield (x : Nat) (y : Nat) : eSx := fun env lo st hp na nc ns pc => (match st with
    | .inr (.inr (some j)) :: st' => (match hfd j hp 0 with
      | some (_, .inl (ci, fs)) => (match fs[y]? with
        | some v => bif Nat.beq ci x then some [(env, lo, v :: st', hp, na, nc, ns, pc + 3)] else none
        | none => none)
      | _ => none)
    | _ => none)
def d_putfield (ini : Bool) (x : Nat) (y : Nat) : eSx := fun env lo st hp na nc ns pc => (match st with
    | v :: .inr (.inr (some j)) :: st' => (match hfd j hp 0 with
      | some (k, .inl (ci, fs)) => bif Nat.beq ci x && pok (clTy x y) env v && Nat.blt y fs.length && (match vwCl[x]? with
          | some q => (bif (q.2.1 y).2.2.2 then ini else true)
          | none => false) then some [(env, lo, st', hp.set k (j, .inl (ci, fs.set y v)), na, nc, ns, pc + 3)] else none
      | _ => none)
    | _ => none)
def d_new (Rc : Nat) (Rs : Nat) (x : Nat) : eSx := fun env lo st hp na nc ns pc => (match vwCl[x]? with
    | some q => bif (List.range q.2.2).all (fun j => plainTy (clTy x j)) && Nat.ble (nc + 1) Rc && Nat.ble (ns + q.2.2) Rs then some [(env, lo, .inr (.inr (some na.1)) :: st, hp ++ [(na.1, .inl (x, dfl x q.2.2))], (na.1 + 1, na.2), nc + 1, ns + q.2.2, pc + 3)] else none
    | none => none)
def d_newarray (a : ArrayType) (Rc : Nat) (Rs : Nat) : eSx := fun env lo st hp na nc ns pc => (match st with
    | .inl ([], Int.ofNat n) :: st' => bif Nat.blt n 100000 && Nat.ble (nc + 1) Rc && Nat.ble (ns + n) Rs then (match a with
        | .byte => some [(env, lo, .inr (.inr (some na.1)) :: st', hp ++ [(na.1, .inr (.inl (0, n, z0 n)))], (na.1 + 1, na.2), nc + 1, ns + n, pc + 2)]
        | .int => some [(env, lo, .inr (.inr (some na.1)) :: st', hp ++ [(na.1, .inr (.inl (1, n, z0 n)))], (na.1 + 1, na.2), nc + 1, ns + n, pc + 2)]
        | .boolean => some [(env, lo, .inr (.inr (some na.1)) :: st', hp ++ [(na.1, .inr (.inl (3, n, z0 n)))], (na.1 + 1, na.2), nc + 1, ns + n, pc + 2)]
        | .long => some [(env, lo, .inr (.inr (some na.1)) :: st', hp ++ [(na.1, .inr (.inr (.inl (n, z0L n))))], (na.1 + 1, na.2), nc + 1, ns + n, pc + 2)]
        | _ => none) else none
    | _ => none)
def d_anewarray (Rc : Nat) (Rs : Nat) (x : Nat) : eSx := fun env lo st hp na nc ns pc => (match st with
    | .inl ([], Int.ofNat n) :: st' => bif Nat.blt n 100000 && Nat.ble (nc + 1) Rc && Nat.ble (ns + n) Rs then some [(env, lo, .inr (.inr (some na.1)) :: st', hp ++ [(na.1, .inr (.inr (.inr (x, n, [(n, .inl (.inr (.inr (.inr none))))]))))], (na.1 + 1, na.2), nc + 1, ns + n, pc + 3)] else none
    | _ => none)
def d_iaload : eSx := fun env lo st hp na nc ns pc => (match st with
    | .inl f :: .inr (.inr (some j)) :: st' => (match hfd j hp 0 with
      | some (_, .inr (.inl (1, n, sg))) => (match ald env n (cdX sg) f with
        | some r => some [(r.1, lo, .inl r.2 :: st', hp, na, nc, ns, pc + 1)]
        | none => none)
      | _ => none)
    | _ => none)
def d_baload : eSx := fun env lo st hp na nc ns pc => (match st with
    | .inl f :: .inr (.inr (some j)) :: st' => (match hfd j hp 0 with
      | some (_, .inr (.inl (0, n, sg))) => (match ald env n (cdX sg) f with
        | some r => some [(r.1, lo, .inl r.2 :: st', hp, na, nc, ns, pc + 1)]
        | none => none)
      | some (_, .inr (.inl (3, n, sg))) => (match ald env n (cdX sg) f with
        | some r => some [(r.1, lo, .inl r.2 :: st', hp, na, nc, ns, pc + 1)]
        | none => none)
      | _ => none)
    | _ => none)
def d_laload : eSx := fun env lo st hp na nc ns pc => (match st with
    | .inl f :: .inr (.inr (some j)) :: st' => (match hfd j hp 0 with
      | some (_, .inr (.inr (.inl (n, sg)))) => (match aldL env n sg f with
        | some r => some [(r.1, lo, .inr (.inl r.2) :: st', hp, na, nc, ns, pc + 1)]
        | none => none)
      | _ => none)
    | _ => none)
def d_aaload : eSx := fun env lo st hp na nc ns pc => (match st with
    | .inl f :: .inr (.inr (some j)) :: st' => (match hfd j hp 0, irg env f with
      | some (_, .inr (.inr (.inr (t, n, sg)))), some i => bif (Nat.beq t 4 || Nat.beq t 5) && (ile 0 i.1 && ile (i.2 + 1) n) then (bif ile i.2 i.1 then (match sga sg i.1.toNat with
          | some (.inr v) => some [(env, lo, v :: st', hp, na, nc, ns, pc + 1)]
          | _ => none) else some (spl env f (fun e => (e, lo, .inl f :: .inr (.inr (some j)) :: st', hp, na, nc, ns, pc)) i.1 (i.2 - i.1 + 1).toNat)) else none
      | _, _ => none)
    | _ => none)
def d_iastore : eSx := fun env lo st hp na nc ns pc => (match st with
    | .inl g :: .inl f :: .inr (.inr (some j)) :: st' => (match hfd j hp 0 with
      | some (k, .inr (.inl (1, n, sg))) => (match asto env n (cdX sg) f g with
        | some sg' => some [((cdS env n sg sg' f g).1, lo, st', hp.set k (j, .inr (.inl (1, n, (cdS env n sg sg' f g).2.1))), adF na (cdS env n sg sg' f g).2.2, nc, ns, pc + 1)]
        | none => none)
      | _ => none)
    | _ => none)
def d_bastore : eSx := fun env lo st hp na nc ns pc => (match st with
    | .inl g :: .inl f :: .inr (.inr (some j)) :: st' => (match hfd j hp 0 with
      | some (k, .inr (.inl (0, n, sg))) => (match nrb env g with
        | some r => (match asto r.1 n (cdX sg) f r.2 with
          | some sg' => some [((cdS r.1 n sg sg' f r.2).1, lo, st', hp.set k (j, .inr (.inl (0, n, (cdS r.1 n sg sg' f r.2).2.1))), adF na (cdS r.1 n sg sg' f r.2).2.2, nc, ns, pc + 1)]
          | none => none)
        | none => none)
      | some (k, .inr (.inl (3, n, sg))) => bif nrz env g then (match asto env n (cdX sg) f g with
          | some sg' => some [((cdS env n sg sg' f g).1, lo, st', hp.set k (j, .inr (.inl (3, n, (cdS env n sg sg' f g).2.1))), adF na (cdS env n sg sg' f g).2.2, nc, ns, pc + 1)]
          | none => none) else none
      | _ => none)
    | _ => none)
def d_lastore : eSx := fun env lo st hp na nc ns pc => (match st with
    | .inr (.inl g) :: .inl f :: .inr (.inr (some j)) :: st' => (match hfd j hp 0, irg env f with
      | some (k, .inr (.inr (.inl (n, sg)))), some i => bif ile 0 i.1 && ile (i.2 + 1) n then (bif ile i.2 i.1 then some [(env, lo, st', (bif same0L (sga sg i.1.toNat) g then hp else hp.set k (j, .inr (.inr (.inl (n, cdX (sgs sg i.1.toNat (.inr (.inr (.inl g))))))))), na, nc, ns, pc + 1)] else some [(env, lo, st', hp.set k (j, .inr (.inr (.inl (n, [(n, .inl (.inl (mnL, mxL)))])))), na, nc, ns, pc + 1)]) else none
      | _, _ => none)
    | _ => none)
def d_aastore : eSx := fun env lo st hp na nc ns pc => (match st with
    | .inr (.inr (some o)) :: .inl f :: .inr (.inr (some j)) :: st' => (match hfd j hp 0, hfd o hp 0, irg env f with
      | some (k, .inr (.inr (.inr (t, n, sg)))), some (_, .inl (ci, _)), some i => bif ((Nat.beq t 4 && Nat.beq ci 4) || (Nat.beq t 5 && Nat.beq ci 5)) && (ile 0 i.1 && ile (i.2 + 1) n) && ile i.2 i.1 then some [(env, lo, st', hp.set k (j, .inr (.inr (.inr (t, n, sgs sg i.1.toNat (.inr (.inr (.inr (some o)))))))), na, nc, ns, pc + 1)] else none
      | _, _, _ => none)
    | _ => none)
def d_arraylength : eSx := fun env lo st hp na nc ns pc => (match st with
    | .inr (.inr (some j)) :: st' => (match hfd j hp 0 with
      | some (_, .inr (.inl (t, n, _))) => bif Nat.blt t 6 && Nat.blt n 100000 then some [(env, lo, .inl (fc (n : Int)) :: st', hp, na, nc, ns, pc + 1)] else none
      | _ => none)
    | _ => none)
def d_invokespecial (y : Nat) : eSx := fun env lo st hp na nc ns pc => (match st with
    | .inr (.inr (some _)) :: st' => bif Nat.beq y 100004 && cok8 st' then some [(env, lo, st', hp, na, nc, ns, pc + 3)] else none
    | _ => none)
def d_invokestatic (Rc : Nat) (Rs : Nat) (y : Nat) : eSx := fun env lo st hp na nc ns pc => bif Nat.ble nc Rc && Nat.ble ns Rs then (bif Nat.beq y 100000 then (match st with
      | .inl g :: .inl f :: st' => bif cok8 st' then sBin 11 env lo (.inl g :: .inl f :: st') hp na nc ns (pc + 3) else none
      | _ => none) else bif Nat.beq y 100001 then (match st with
      | .inl g :: .inl f :: st' => bif cok8 st' then sBin 12 env lo (.inl g :: .inl f :: st') hp na nc ns (pc + 3) else none
      | _ => none) else bif Nat.beq y 100002 then (match st with
      | .inl f :: st' => (match eabs env f with
        | some r => bif cok8 st' then some [(r.1, lo, .inl r.2 :: st', hp, na, nc, ns, pc + 3)] else none
        | none => none)
      | _ => none) else bif Nat.beq y 100003 then (match st with
      | .inl f :: .inl ([], Int.ofNat 0) :: .inr (.inr (some jd)) :: .inl ([], Int.ofNat 0) :: .inr (.inr (some js)) :: st' => bif cok8 st' then (match hfd js hp 0, hfd jd hp 0 with
          | some (_, .inr (.inl (1, n0, sg0))), some (kd, .inr (.inl (1, n1, sg1))) => (match ecp env n0 n1 sg0 sg1 f with
            | some sg' => some [(env, lo, st', hp.set kd (jd, .inr (.inl (1, n1, sg'))), na, nc, ns, pc + 3)]
            | none => none)
          | some (_, .inr (.inr (.inl (n0, sg0)))), some (kd, .inr (.inr (.inl (n1, _)))) => (match irg env f with
            | some i => bif ile n0 i.1 && ile i.2 n0 && Nat.beq n0 n1 then some [(env, lo, st', hp.set kd (jd, .inr (.inr (.inl (n1, sg0)))), na, nc, ns, pc + 3)] else none
            | none => none)
          | _, _ => none) else none
      | _ => none) else none) else none
abbrev eRc : Type := List eAn → eSt → Option (List eAn)
def sxD (D : eSx) : eRc → eRc := fun rec an S => (match D S.1 S.2.1 S.2.2.1 S.2.2.2.1 S.2.2.2.2.1 S.2.2.2.2.2.1 S.2.2.2.2.2.2.1 S.2.2.2.2.2.2.2 with
  | some L => runL rec an L
  | none => none)
def sxN (k : eRc → eRc) : eRc → eRc := fun rec an S => (match nmA S with
  | some L => runL rec an L
  | none => k rec an S)
def sxE (t : Nat) (k : eRc → eRc) : eRc → eRc := fun rec an S => (match orO (ldD t S) (nmA S) with
  | some L => runL rec an L
  | none => k rec an S)
def sxQ (r : eRow) (q : eSt → Option (List eSt)) (k : eRc → eRc) : eRc → eRc := fun rec an S => (match (bif Nat.beq r.2.2.2.1 777 then q S else none) with
  | some L => runL rec an L
  | none => k rec an S)
def sq2 (S : eSt) : Option (List eSt) := (match S.2.2.1 with
    | .inl g :: .inl f :: _ => spE S.1 (fsub f g) (fun e => (e, S.2))
    | _ => none)
def sq1 (S : eSt) : Option (List eSt) := (match S.2.2.1 with
    | .inl f :: _ => spE S.1 f (fun e => (e, S.2))
    | _ => none)
def sx_if_icmp (ini : Bool) (nL Rf Rl Rc Rs : Nat) (KS : List eK) (r : eRow) (k : Jvm.ClassFile.Cond) (o : Int) : eRc → eRc := fun rec an S => bif Nat.beq r.2.2.2.1 779 then (match S.2.2.1, nat? ((S.2.2.2.2.2.2.2 : Int) + o) with
      | .inl g :: .inl f :: st', some t => (match irg S.1 f, irg S.1 g with
        | some _, some _ => runL rec an (opl (ccT (cno k) S.1 f g) (fun e => (e, S.2.1, st', S.2.2.2.1, (S.2.2.2.2.1.1, S.2.2.2.2.1.2 ++ [(Sum.inl [[cfT (cno k)]], [fsub f g])]), S.2.2.2.2.2.1, S.2.2.2.2.2.2.1, t)) ++ opl (ccF (cno k) S.1 f g) (fun e => (e, S.2.1, st', S.2.2.2.1, (S.2.2.2.2.1.1, S.2.2.2.2.1.2 ++ [(Sum.inl [[cfF (cno k)]], [fsub f g])]), S.2.2.2.2.2.1, S.2.2.2.2.2.2.1, S.2.2.2.2.2.2.2 + 3)))
        | _, _ => none)
      | _, _ => none) else sxD (d_if_icmp k o) rec an S
def sx_irem (ini : Bool) (nL Rf Rl Rc Rs : Nat) (KS : List eK) (r : eRow) : eRc → eRc := fun rec an S => bif Nat.beq r.2.2.2.1 780 then (match S.2.2.1 with
      | .inl g :: .inl f :: st' => (match ibin 4 S.1 f g, irg S.1 f, irg S.1 g with
        | some z, some i, some j => bif ile 0 i.1 && ile 1 j.1 && (irg z.1 z.2).isSome then runL rec an [(z.1, S.2.1, .inl z.2 :: st', S.2.2.2.1, (S.2.2.2.2.1.1, S.2.2.2.2.1.2 ++ [(Sum.inl [[(-4294967296, -1)]], [fsub z.2 g])]), S.2.2.2.2.2.1, S.2.2.2.2.2.2.1, S.2.2.2.2.2.2.2 + 1)] else none
        | _, _, _ => none)
      | _ => none) else sxD (d_irem) rec an S
def sx_idiv (ini : Bool) (nL Rf Rl Rc Rs : Nat) (KS : List eK) (r : eRow) : eRc → eRc := fun rec an S => bif Nat.beq r.2.2.2.1 781 then (match S.2.2.1 with
      | .inl ([], d0) :: .inl f :: st' => (match ibin 3 S.1 f (fc d0), irg S.1 f, irg S.1 (fc d0) with
        | some z, some i, some j => bif ile 1 d0 && (ieq j.1 d0 && ieq j.2 d0) && (irg z.1 z.2).isSome then (bif ile 0 i.1 then runL rec an [(z.1, S.2.1, .inl z.2 :: st', S.2.2.2.1, (S.2.2.2.2.1.1, S.2.2.2.2.1.2 ++ [(Sum.inl [[(0, d0 - 1)]], [fsub f (fsc d0 z.2)])]), S.2.2.2.2.2.1, S.2.2.2.2.2.2.1, S.2.2.2.2.2.2.2 + 1)] else bif ile i.2 0 then runL rec an [(z.1, S.2.1, .inl z.2 :: st', S.2.2.2.1, (S.2.2.2.2.1.1, S.2.2.2.2.1.2 ++ [(Sum.inl [[(1 - d0, 0)]], [fsub f (fsc d0 z.2)])]), S.2.2.2.2.2.1, S.2.2.2.2.2.2.1, S.2.2.2.2.2.2.2 + 1)] else none) else none
        | _, _, _ => none)
      | _ => none) else sxD (d_idiv) rec an S
def sx_lcmp (ini : Bool) (nL Rf Rl Rc Rs : Nat) (KS : List eK) (r : eRow) : eRc → eRc := fun rec an S => bif Nat.beq r.2.2.2.1 778 then (match S.2.2.1 with
      | .inr (.inl g) :: .inr (.inl f) :: st' => runL rec an (opl (kLt S.1 f g) (fun e => (e, S.2.1, .inl (fc (-1)) :: st', S.2.2.2.1, S.2.2.2.2.1, S.2.2.2.2.2.1, S.2.2.2.2.2.2.1, S.2.2.2.2.2.2.2 + 1)) ++ opl (kEq S.1 f g) (fun e => (e, S.2.1, .inl (fc 0) :: st', rpH f g S.2.2.2.1, S.2.2.2.2.1, S.2.2.2.2.2.1, S.2.2.2.2.2.2.1, S.2.2.2.2.2.2.2 + 1)) ++ opl (kLt S.1 g f) (fun e => (e, S.2.1, .inl (fc 1) :: st', S.2.2.2.1, S.2.2.2.2.1, S.2.2.2.2.2.1, S.2.2.2.2.2.2.1, S.2.2.2.2.2.2.2 + 1)))
      | _ => none) else sxD (d_lcmp) rec an S
def sx_invokestatic (ini : Bool) (nL Rf Rl Rc Rs : Nat) (KS : List eK) (r : eRow) : eRc → eRc := fun rec an S => bif Nat.blt r.2.2.2.2.1 100000 then (match an with
        | a :: an' => bif Nat.beq (S.2.2.1.take (r.2.2.2.1 % 100)).length (r.2.2.2.1 % 100) then (match callK Rf Rl Rc Rs KS a r.2.2.2.2.1 (S.2.2.1.take (r.2.2.2.1 % 100)) (S.2.2.1.drop (r.2.2.2.1 % 100)) S.1 S.2.1 S.2.2.2.1 S.2.2.2.2.1 S.2.2.2.2.2.1 S.2.2.2.2.2.2.1 S.2.2.2.2.2.2.2 with
            | some L => runL rec an' L
            | none => none) else none
        | [] => none) else sxD (d_invokestatic Rc Rs r.2.2.2.2.1) rec an S
def sx_invokespecial (ini : Bool) (nL Rf Rl Rc Rs : Nat) (KS : List eK) (r : eRow) : eRc → eRc := fun rec an S => bif Nat.blt r.2.2.2.2.1 100000 then (match an, S.2.2.1.drop (r.2.2.2.1 % 100) with
        | a :: an', .inr (.inr (some i)) :: st' => bif Nat.beq (S.2.2.1.take (r.2.2.2.1 % 100)).length (r.2.2.2.1 % 100) && spec (r.2.2.2.1 / 1000) i S.2.2.2.1 then (match callK Rf Rl Rc Rs KS a r.2.2.2.2.1 (S.2.2.1.take (r.2.2.2.1 % 100) ++ [.inr (.inr (some i))]) st' S.1 S.2.1 S.2.2.2.1 S.2.2.2.2.1 S.2.2.2.2.2.1 S.2.2.2.2.2.2.1 S.2.2.2.2.2.2.2 with
            | some L => runL rec an' L
            | none => none) else none
        | _, _ => none) else sxD (d_invokespecial r.2.2.2.2.1) rec an S
def sx_return_ (retB : eAn → eSt → Option eSV → Bool) : eRc → eRc := fun rec an S => (match an, S.2.2.1 with
      | a :: an', [] => bif retB a S none then some an' else none
      | _, _ => none)
def sx_ireturn (retB : eAn → eSt → Option eSV → Bool) : eRc → eRc := fun rec an S => (match an, S.2.2.1 with
      | a :: an', [.inl f] => bif retB a S (some (.inl f)) then some an' else none
      | _, _ => none)
def sx_lreturn (retB : eAn → eSt → Option eSV → Bool) : eRc → eRc := fun rec an S => (match an, S.2.2.1 with
      | a :: an', [.inr (.inl f)] => bif retB a S (some (.inr (.inl f))) then some an' else none
      | _, _ => none)
def sx_areturn (retB : eAn → eSt → Option eSV → Bool) : eRc → eRc := fun rec an S => (match an, S.2.2.1 with
      | a :: an', [.inr (.inr (some i))] => bif retB a S (some (.inr (.inr (some i)))) then some an' else none
      | _, _ => none)
def sx_invokevirtual (ini : Bool) (nL Rf Rl Rc Rs : Nat) (KS : List eK) (r : eRow) : eRc → eRc := fun rec an S => (match an, S.2.2.1.drop (r.2.2.2.1 % 100) with
      | a :: an', .inr (.inr (some i)) :: st' => (match hfd i S.2.2.2.1 0 with
        | some (_, .inl (ci, _)) => bif Nat.beq ci (r.2.2.2.1 / 1000) && Nat.beq (S.2.2.1.take (r.2.2.2.1 % 100)).length (r.2.2.2.1 % 100) then (match callK Rf Rl Rc Rs KS a r.2.2.2.2.1 (S.2.2.1.take (r.2.2.2.1 % 100) ++ [.inr (.inr (some i))]) st' S.1 S.2.1 S.2.2.2.1 S.2.2.2.2.1 S.2.2.2.2.2.1 S.2.2.2.2.2.2.1 S.2.2.2.2.2.2.2 with
            | some L => runL rec an' L
            | none => none) else none
        | _ => none)
      | _, _ => none)
def stI (ini : Bool) (nL Rf Rl Rc Rs : Nat) (KS : List eK) (retB : eAn → eSt → Option eSV → Bool) (r : eRow) (i : Instr) : eRc → eRc := match i with
  | .iconst n => sxD (d_iconst n)
  | .bipush n => sxD (d_bipush n)
  | .sipush n => sxD (d_sipush n)
  | .lconst n => sxD (d_lconst n)
  | .ldc _ => sxD (d_ldc r.2.2.2.1)
  | .ldc2_w _ => sxD (d_ldc2_w r.2.2.2.1)
  | .ldc_w _ => sxD (d_ldc_w r.2.2.2.1)
  | .getstatic _ => sxD (d_getstatic r.2.2.2.1)
  | .ineg => sxD (d_ineg)
  | .iload_n k => sxD (d_iload_n k)
  | .iload k => sxD (d_iload k)
  | .lload_n k => sxD (d_lload_n k)
  | .lload k => sxD (d_lload k)
  | .aload_n k => sxD (d_aload_n k)
  | .aload k => sxD (d_aload k)
  | .istore_n k => sxD (d_istore_n k nL)
  | .istore k => sxD (d_istore k nL)
  | .lstore_n k => sxD (d_lstore_n k nL)
  | .lstore k => sxD (d_lstore k nL)
  | .astore_n k => sxD (d_astore_n k nL)
  | .astore k => sxD (d_astore k nL)
  | .iinc k n => sxD (d_iinc k n nL)
  | .iadd => sxD (d_iadd)
  | .isub => sxD (d_isub)
  | .imul => sxD (d_imul)
  | .idiv => sx_idiv ini nL Rf Rl Rc Rs KS r
  | .irem => sx_irem ini nL Rf Rl Rc Rs KS r
  | .iand => sxD (d_iand)
  | .ior => sxD (d_ior)
  | .ixor => sxD (d_ixor)
  | .ishl => sxD (d_ishl)
  | .ishr => sxD (d_ishr)
  | .iushr => sxD (d_iushr)
  | .ladd => sxD (d_ladd)
  | .lsub => sxD (d_lsub)
  | .lmul => sxD (d_lmul)
  | .ldiv => sxD (d_ldiv)
  | .lrem => sxD (d_lrem)
  | .land => sxD (d_land)
  | .lor => sxD (d_lor)
  | .lxor => sxD (d_lxor)
  | .lshl => sxD (d_lshl)
  | .lushr => sxD (d_lushr)
  | .lcmp => sx_lcmp ini nL Rf Rl Rc Rs KS r
  | .i2l => sxD (d_i2l)
  | .l2i => sxD (d_l2i)
  | .i2b => sxD (d_i2b)
  | .i2c => sxD (d_i2c)
  | .dup => sxD (d_dup)
  | .pop => sxD (d_pop)
  | .dup_x1 => sxD (d_dup_x1)
  | .dup2 => sxD (d_dup2)
  | .goto o => sxD (d_goto o)
  | .if_icmp k o => sxQ r sq2 (sx_if_icmp ini nL Rf Rl Rc Rs KS r k o)
  | .ifCond k o => sxQ r sq1 (sxD (d_ifCond k o))
  | .tableswitch d a b offs => sxD (d_tableswitch d a b offs)
  | .lookupswitch d ps => sxD (d_lookupswitch d ps)
  | .getfield _ => sxD (d_getfield r.2.2.2.1 r.2.2.2.2.1)
  | .putfield _ => sxD (d_putfield ini r.2.2.2.1 r.2.2.2.2.1)
  | .new _ => sxD (d_new Rc Rs r.2.2.2.1)
  | .newarray a => sxD (d_newarray a Rc Rs)
  | .anewarray _ => sxD (d_anewarray Rc Rs r.2.2.2.1)
  | .iaload => sxE 1 (sxD (d_iaload))
  | .baload => sxE 0 (sxD (d_baload))
  | .laload => sxN (sxD (d_laload))
  | .aaload => sxD (d_aaload)
  | .iastore => sxD (d_iastore)
  | .bastore => sxD (d_bastore)
  | .lastore => sxD (d_lastore)
  | .aastore => sxD (d_aastore)
  | .arraylength => sxD (d_arraylength)
  | .invokespecial _ => sx_invokespecial ini nL Rf Rl Rc Rs KS r
  | .invokestatic _ => sx_invokestatic ini nL Rf Rl Rc Rs KS r
  | .return_ => sx_return_ retB
  | .ireturn => sx_ireturn retB
  | .lreturn => sx_lreturn retB
  | .areturn => sx_areturn retB
  | .invokevirtual _ => sx_invokevirtual ini nL Rf Rl Rc Rs KS r
  | _ => fun _ _ _ => none
def stepQ (ini : Bool) (nL Rf Rl Rc Rs : Nat) (KS : List eK) (retB : eAn → eSt → Option eSV → Bool) (r : eRow) : eRc → eRc := fun rec an S => bif Nat.beq r.2.2.2.2.1 150000 then cstR Rf Rl Rc Rs KS r rec an S else stI ini nL Rf Rl Rc Rs KS retB r r.2.1 rec an S
def stepR (ini : Bool) (nL Rf Rl Rc Rs : Nat) (C : eCode) (KS : List eK) (retB : eAn → eSt → Option eSV → Bool) (rec : eRc) (an : List eAn) (S : eSt) : Option (List eAn) := match rowAt C S.2.2.2.2.2.2.2 with
  | none => none
  | some r => stepQ ini nL Rf Rl Rc Rs KS retB r rec an S
theorem stepR_eq {ini : Bool} {nL Rf Rl Rc Rs : Nat} {C : eCode} {KS : List eK} {retB : eAn → eSt → Option eSV → Bool} {rec : eRc} {an : List eAn} {S : eSt} : stepR ini nL Rf Rl Rc Rs C KS retB rec an S = stepR0 ini nL Rf Rl Rc Rs C KS retB rec an S := by
  unfold stepR stepR0
  split
  · rfl
  · rename_i r h
    unfold stepQ
    cases Nat.beq r.2.2.2.2.1 150000
    · obtain ⟨rpc, i, len, x, y, ps⟩ := r
      cases i <;> rfl
    · rfl
def opG (stF : eRc → eRc) (rec : eRc) (a : eAn) (an : List eAn) (S : eSt) : Option (List eAn) := match opS a S with
  | some L => bif Nat.blt a.1 2000 then runL (stF rec) an L else runL rec an L
  | none => none
def runS (stF : eRc → eRc) (CT : List eCut) (FL : List Nat) (nv0 na0 : Nat) (mu : Option eLF) (ih : eRc) : eRc := fun an S => bif flB FL S.2.2.2.2.2.2.2 then (match an with
      | a :: an' => bif Nat.blt a.1 1000 then (bif cutB CT nv0 na0 mu a S then some an' else none) else opG stF ih a an' S
      | [] => none) else stF ih an S
def runF (stF : eRc → eRc) (CT : List eCut) (FL : List Nat) (nv0 na0 : Nat) (mu : Option eLF) (n : Nat) : eRc := @Nat.rec (fun _ => eRc) (fun _ _ => none) (fun _ ih => runS stF CT FL nv0 na0 mu ih) n
abbrev run (ini : Bool) (nL Rf Rl Rc Rs : Nat) (C : eCode) (KS : List eK) (CT : List eCut) (FL : List Nat) (nv0 na0 : Nat) (mu : Option eLF) (retB : eAn → eSt → Option eSV → Bool) : Nat → eRc := runF (stepR ini nL Rf Rl Rc Rs C KS retB) CT FL nv0 na0 mu
section
variable {p : Program} {l : Launch} {e : Env} {R : Room} {s : State} {m : MethodId} {args : Array Value} {below : List Frame} {meth : Method} {c : Code} {Q : State → Prop} {D : va_G} {ca : Nat → ClassId} {A : Nat → Prop} {nL cb sb : Nat} {r0 : List Int} {a0 : List Nat} {own : String} {cc : ByteArray} {env : eEv} {lo : List (Nat × eSV)} {st : List eSV} {hp : eHp} {na : eNa} {nc ns pc : Nat}
theorem opG_ok {stF : eRc → eRc} {rec : eRc} (hrec : ∀ an S an', rec an S = some an' → GS p l e R s m args below meth c Q D ca A nL cb sb r0 a0 S) (hst : ∀ an S an', stF rec an S = some an' → GS p l e R s m args below meth c Q D ca A nL cb sb r0 a0 S) {a : eAn} {an an' : List eAn} {S : eSt} (h : opG stF rec a an S = some an') : GS p l e R s m args below meth c Q D ca A nL cb sb r0 a0 S := by
  unfold opG at h
  split at h
  · rename_i L hL
    refine opS_ok hL (fun S' hS' => ?_)
    cases hb : Nat.blt a.1 2000
    · rw [hb] at h
      obtain ⟨b, b', hb⟩ := runL_ok h S' hS'
      exact hrec _ _ _ hb
    · rw [hb] at h
      obtain ⟨b, b', hb⟩ := runL_ok h S' hS'
      exact hst _ _ _ hb
  · cases h
theorem runF_ok {stF : eRc → eRc} {CT : List eCut} {FL : List Nat} {nv0 na0 : Nat} {mu : Option eLF} (hst : ∀ rec : eRc, (∀ an S an', rec an S = some an' → GS p l e R s m args below meth c Q D ca A nL cb sb r0 a0 S) → ∀ an S an', stF rec an S = some an' → GS p l e R s m args below meth c Q D ca A nL cb sb r0 a0 S) (hcut : ∀ (a : eAn) (S : eSt), cutB CT nv0 na0 mu a S = true → GS p l e R s m args below meth c Q D ca A nL cb sb r0 a0 S) : ∀ (n : Nat) (an : List eAn) (S : eSt) (an' : List eAn), runF stF CT FL nv0 na0 mu n an S = some an' → GS p l e R s m args below meth c Q D ca A nL cb sb r0 a0 S
  | 0, an, S, an', h => by cases h
  | n + 1, an, S, an', h => by
    have ih := runF_ok (FL := FL) hst hcut n
    replace h : runS stF CT FL nv0 na0 mu (runF stF CT FL nv0 na0 mu n) an S = some an' := h
    unfold runS at h
    cases hb : flB FL S.2.2.2.2.2.2.2
    · rw [hb] at h
      exact hst _ ih _ _ _ h
    · rw [hb] at h
      dsimp only [cond_true] at h
      split at h
      · rename_i a an1
        cases hc : Nat.blt a.1 1000
        · rw [hc] at h
          exact opG_ok ih (hst _ ih) h
        · rw [hc] at h
          dsimp only [cond_true] at h
          cases hd : cutB CT nv0 na0 mu a S
          · rw [hd] at h; cases h
          · exact hcut a S hd
      · cases h
end
section
variable {p : Program} {l : Launch} {e : Env} {R : Room} {s : State} {m : MethodId} {args : Array Value} {below : List Frame} {meth : Method} {c : Code} {Q : State → Prop} {D : va_G} {ca : Nat → ClassId} {A : Nat → Prop} {nL cb sb : Nat} {r0 : List Int} {a0 : List Nat} {own : String} {cc : ByteArray} {env : eEv} {lo : List (Nat × eSV)} {st : List eSV} {hp : eHp} {na : eNa} {nc ns pc : Nat}
theorem stepR0_ok (X : eCx p R s m args c D ca A nL own cc a0) (hl : libW) {ini : Bool} (hI : ini = true → meth.name = "<init>") {Rf Rl Rc Rs : Nat} (hRf : Rf ≤ R.frames) (hRl : Rl ≤ R.locals) (hRc : cb + Rc ≤ R.cells) (hRs : sb + Rs ≤ R.slots) {C : eCode} (hC : codOk own cc C) {KS : List eK} (hKS : ∀ K ∈ KS, KMet l D ca K) {retB : eAn → eSt → Option eSV → Bool}
    (h0 : ∀ (a : eAn) (env : eEv) (lo : List (Nat × eSV)) (hp : eHp) (na : eNa) (nc ns pc : Nat), decode cc pc = .ok (.return_, 1) → retB a (env, lo, [], hp, na, nc, ns, pc) none = true → eG p l e R s m args below meth c Q D ca A nL cb sb r0 a0 env lo [] hp na nc ns pc)
    (h1 : ∀ (a : eAn) (env : eEv) (lo : List (Nat × eSV)) (hp : eHp) (na : eNa) (nc ns pc : Nat) (f : eLF), decode cc pc = .ok (.ireturn, 1) → retB a (env, lo, [.inl f], hp, na, nc, ns, pc) (some (.inl f)) = true → eG p l e R s m args below meth c Q D ca A nL cb sb r0 a0 env lo [.inl f] hp na nc ns pc)
    (h2 : (∀ (a : eAn) (env : eEv) (lo : List (Nat × eSV)) (hp : eHp) (na : eNa) (nc ns pc : Nat) (f : eLF), decode cc pc = .ok (.lreturn, 1) → retB a (env, lo, [.inr (.inl f)], hp, na, nc, ns, pc) (some (.inr (.inl f))) = true → eG p l e R s m args below meth c Q D ca A nL cb sb r0 a0 env lo [.inr (.inl f)] hp na nc ns pc) ∧ (∀ (a : eAn) (env : eEv) (lo : List (Nat × eSV)) (hp : eHp) (na : eNa) (nc ns pc : Nat) (i : Nat), decode cc pc = .ok (.areturn, 1) → retB a (env, lo, [.inr (.inr (some i))], hp, na, nc, ns, pc) (some (.inr (.inr (some i)))) = true → eG p l e R s m args below meth c Q D ca A nL cb sb r0 a0 env lo [.inr (.inr (some i))] hp na nc ns pc))
    {rec : List eAn → eSt → Option (List eAn)} (hrec : ∀ a S a', rec a S = some a' → GS p l e R s m args below meth c Q D ca A nL cb sb r0 a0 S) {an an' : List eAn} {S : eSt} (h : stepR0 ini nL Rf Rl Rc Rs C KS retB rec an S = some an') : GS p l e R s m args below meth c Q D ca A nL cb sb r0 a0 S := by
  obtain ⟨env, lo, st, hp, na, nc, ns, pc⟩ := S
  show eG p l e R s m args below meth c Q D ca A nL cb sb r0 a0 env lo st hp na nc ns pc
  unfold stepR0 at h
  split at h
  · cases h
  · rename_i r hr
    obtain ⟨hd, hw⟩ := rowAt_ok hC hr
    obtain ⟨rpc, i, len, x, y, ps⟩ := r
    dsimp only at h hd hw
    have key : ∀ {L : List eSt} {a a' : List eAn}, runL rec a L = some a' → ∀ S ∈ L, GS p l e R s m args below meth c Q D ca A nL cb sb r0 a0 S := by
      intro L a a' hL S hS
      obtain ⟨b, b', hb⟩ := runL_ok hL S hS
      exact hrec _ _ _ hb
    cases hb9 : Nat.beq y 150000
    case true =>
      rw [hb9] at h
      exact cstR_ok X hl hRf hRl hRc hRs hKS hd (hw.2 hb9) key h
    rw [hb9] at h
    replace hw := hw.1 hb9
    dsimp only [cond_false] at h
    split at h
    · rename_i L hL
      exact spq_ok (r := (rpc, i, len, x, y, ps)) (S := (env, lo, st, hp, na, nc, ns, pc)) X hd hL (key h)
    · rename_i hsp
      clear hsp
      split at h
      · split at h
        · rename_i a an1
          cases hb : retB a (env, lo, [], hp, na, nc, ns, pc) none
          · rw [hb] at h; cases h
          · exact h0 a env lo hp na nc ns pc hd hb
        · cases h
      · split at h
        · rename_i a an1 f
          cases hb : retB a (env, lo, [.inl f], hp, na, nc, ns, pc) (some (.inl f))
          · rw [hb] at h; cases h
          · exact h1 a env lo hp na nc ns pc f hd hb
        · cases h
      · split at h
        · rename_i a an1 f
          cases hb : retB a (env, lo, [.inr (.inl f)], hp, na, nc, ns, pc) (some (.inr (.inl f)))
          · rw [hb] at h; cases h
          · exact h2.1 a env lo hp na nc ns pc f hd hb
        · cases h
      · split at h
        · rename_i a an1 i
          cases hb : retB a (env, lo, [.inr (.inr (some i))], hp, na, nc, ns, pc) (some (.inr (.inr (some i))))
          · rw [hb] at h; cases h
          · exact h2.2 a env lo hp na nc ns pc i hd hb
        · cases h
      · split at h
        · rename_i a an1 i' st' hst
          split at h
          · rename_i k ci fs hf
            cases hb : Nat.beq ci (x / 1000) && Nat.beq (st.take (x % 100)).length (x % 100)
            · rw [hb] at h; cases h
            · rw [hb] at h
              rw [Bool.and_eq_true] at hb
              dsimp only [cond_true] at h
              split at h
              · rename_i L hL
                obtain ⟨K, ks, k1, k2, k3, k4, k5, k6, k7, k8, k9, k10, kf, k11, k12, k13, k14⟩ := callK_ok hL
                obtain ⟨q, qc, q1, q2, q3, q4, q5, q6, q7, q9⟩ := hw
                have e1 := Nat.eq_of_beq_eq_true hb.1
                have hf' : hfd i' hp 0 = some (k, .inl (ci, fs)) := hf
                rw [e1] at hf'
                have e2 : st = st.take (x % 100) ++ .inr (.inr (some i')) :: st' := by
                  conv => lhs; rw [← List.take_append_drop (x % 100) st]
                  rw [show st.drop (x % 100) = .inr (.inr (some i')) :: st' from hst]
                rw [e2]
                have kk : ∀ P ∈ K.2.2.1, ∃ r, inst env hp na a.2.1 a.2.2.1 ks P = some r ∧ ∀ S, r = some S → eG p l e R s m args below meth c Q D ca A nL cb sb r0 a0 S.1 lo (S.2.1 ++ st') S.2.2.1 S.2.2.2 (nc + K.2.2.2.1) (ns + K.2.2.2.2.1) (pc + 3) := fun P hP => by
                  obtain ⟨r', r1, r2⟩ := instL_ok k14 P hP
                  exact ⟨r', r1, fun S hS => key h _ (r2 S hS)⟩
                rcases q4 with ⟨q4, q8⟩ | ⟨q4, q8⟩
                · exact g_callV X (hKS K k1) (by rw [k2]; exact q1) hd q7 q8 hf' q2 q3 q4 q5 q6 (Nat.eq_of_beq_eq_true hb.2) k3 ⟨by omega, by omega⟩ ⟨by omega, by omega⟩ k8 k9 k10 k11 k12 k13 kf kk
                · exact g_callU X (hKS K k1) (by rw [k2]; exact q1) hd q7 hf' q2 q3 q4 q8 q5 q6 (Nat.eq_of_beq_eq_true hb.2) k3 ⟨by omega, by omega⟩ ⟨by omega, by omega⟩ k8 k9 k10 k11 k12 k13 kf kk
              · cases h
          · cases h
        · cases h
      · rename_i idx
        cases hy : Nat.blt y 100000
        · rw [hy] at h
          dsimp only [cond_false] at h
          split at h
          · rename_i L hL
            exact stp_ok X hl hI hRc hRs hd hw hL (key h)
          · cases h
        · rw [hy] at h
          have hy' := blt_t hy
          dsimp only [cond_true] at h
          split at h
          · rename_i a an1
            cases hb : Nat.beq (st.take (x % 100)).length (x % 100)
            · rw [hb] at h; cases h
            · rw [hb] at h
              dsimp only [cond_true] at h
              split at h
              · rename_i L hL
                obtain ⟨K, ks, k1, k2, k3, k4, k5, k6, k7, k8, k9, k10, kf, k11, k12, k13, k14⟩ := callK_ok hL
                rcases hw with ⟨z, _⟩ | ⟨z, _⟩ | ⟨z, _⟩ | ⟨z, _⟩ | ⟨_, q, q1, q2, q3, q4, q5, q6⟩ | z
                · omega
                · omega
                · omega
                · omega
                · rw [← List.take_append_drop (x % 100) st]
                  have kk : ∀ P ∈ K.2.2.1, ∃ r, inst env hp na a.2.1 a.2.2.1 ks P = some r ∧ ∀ S, r = some S → eG p l e R s m args below meth c Q D ca A nL cb sb r0 a0 S.1 lo (S.2.1 ++ st.drop (x % 100)) S.2.2.1 S.2.2.2 (nc + K.2.2.2.1) (ns + K.2.2.2.2.1) (pc + 3) := fun P hP => by
                    obtain ⟨r', r1, r2⟩ := instL_ok k14 P hP
                    exact ⟨r', r1, fun S hS => key h _ (r2 S hS)⟩
                  rcases q2 with q2 | q2
                  · exact g_callS X (hKS K k1) (by rw [k2]; exact q1) hd q2 q3 q4 q5 (Nat.eq_of_beq_eq_true hb) k3 ⟨by omega, by omega⟩ ⟨by omega, by omega⟩ k8 k9 k10 k11 k12 k13 kf kk
                  · exact g_callSN X (hKS K k1) (by rw [k2]; exact q1) hd q2 q3 q4 q5 (Nat.eq_of_beq_eq_true hb) k3 ⟨by omega, by omega⟩ ⟨by omega, by omega⟩ k8 k9 k10 k11 k12 k13 kf kk
                · omega
              · cases h
          · cases h
      · rename_i idx
        cases hy : Nat.blt y 100000
        · rw [hy] at h
          dsimp only [cond_false] at h
          split at h
          · rename_i L hL
            exact stp_ok X hl hI hRc hRs hd hw hL (key h)
          · cases h
        · rw [hy] at h
          have hy' := blt_t hy
          dsimp only [cond_true] at h
          split at h
          · rename_i a an1 i' st' hst
            cases hb : Nat.beq (st.take (x % 100)).length (x % 100) && spec (x / 1000) i' hp
            · rw [hb] at h; cases h
            · rw [hb] at h
              rw [Bool.and_eq_true] at hb
              dsimp only [cond_true] at h
              split at h
              · rename_i L hL
                obtain ⟨K, ks, k1, k2, k3, k4, k5, k6, k7, k8, k9, k10, kf, k11, k12, k13, k14⟩ := callK_ok hL
                have e2 : st = st.take (x % 100) ++ .inr (.inr (some i')) :: st' := by
                  conv => lhs; rw [← List.take_append_drop (x % 100) st]
                  rw [show st.drop (x % 100) = .inr (.inr (some i')) :: st' from hst]
                rw [e2]
                have kk : ∀ P ∈ K.2.2.1, ∃ r, inst env hp na a.2.1 a.2.2.1 ks P = some r ∧ ∀ S, r = some S → eG p l e R s m args below meth c Q D ca A nL cb sb r0 a0 S.1 lo (S.2.1 ++ st') S.2.2.1 S.2.2.2 (nc + K.2.2.2.1) (ns + K.2.2.2.2.1) (pc + 3) := fun P hP => by
                  obtain ⟨r', r1, r2⟩ := instL_ok k14 P hP
                  exact ⟨r', r1, fun S hS => key h _ (r2 S hS)⟩
                rcases hw with ⟨z, _⟩ | ⟨_, q, q1, q2, q3, q4, q5, q6, q7, q8⟩ | ⟨_, q, qc, q1, q2, q3, q4, q5, q6, q7, q8, q9, q10, q11⟩
                · omega
                · rcases q2 with q2 | q2
                  · exact g_callI X (hKS K k1) (by rw [k2]; exact q1) hd q6 q7 q2 q3 q4 q5 (Nat.eq_of_beq_eq_true hb.1) k3 ⟨by omega, by omega⟩ ⟨by omega, by omega⟩ k8 k9 k10 k11 k12 k13 kf kk
                  · exact g_callIN X (hKS K k1) (by rw [k2]; exact q1) hd q6 q7 q2 q3 q4 q5 (Nat.eq_of_beq_eq_true hb.1) k3 ⟨by omega, by omega⟩ ⟨by omega, by omega⟩ k8 k9 k10 k11 k12 k13 kf kk
                · obtain ⟨j, fs, hf'⟩ := spec_ok hb.2 q9
                  exact g_callSU X (hKS K k1) (by rw [k2]; exact q1) hd q10 q6 hf' q2 q3 q7 q8 q4 q5 (Nat.eq_of_beq_eq_true hb.1) k3 ⟨by omega, by omega⟩ ⟨by omega, by omega⟩ k8 k9 k10 k11 k12 k13 kf kk
              · cases h
          · cases h
      · rename_i k o
        cases hb : Nat.beq x 779
        · rw [hb] at h
          dsimp only [cond_false] at h
          split at h
          · rename_i L hL
            exact stp_ok X hl hI hRc hRs hd hw hL (key h)
          · cases h
        · rw [hb] at h
          dsimp only [cond_true] at h
          split at h
          · rename_i g f st' t ht
            split at h
            · rename_i i1 i2 e1 e2
              have kk := key h
              refine g_icmpF X e1 e2 hd (nat?_ok ht) (fun e' q => kk (e', lo, st', hp, (na.1, na.2 ++ [(Sum.inl [[cfT (cno k)]], [fsub f g])]), nc, ns, t) ?_) (fun e' q => kk (e', lo, st', hp, (na.1, na.2 ++ [(Sum.inl [[cfF (cno k)]], [fsub f g])]), nc, ns, pc + 3) ?_)
              · exact List.mem_append_left _ (opl_mem (f := fun e => (e, lo, st', hp, (na.1, na.2 ++ [(Sum.inl [[cfT (cno k)]], [fsub f g])]), nc, ns, t)) q)
              · exact List.mem_append_right _ (opl_mem (f := fun e => (e, lo, st', hp, (na.1, na.2 ++ [(Sum.inl [[cfF (cno k)]], [fsub f g])]), nc, ns, pc + 3)) q)
            · cases h
          · cases h
      · cases hb : Nat.beq x 780
        · rw [hb] at h
          dsimp only [cond_false] at h
          split at h
          · rename_i L hL
            exact stp_ok X hl hI hRc hRs hd hw hL (key h)
          · cases h
        · rw [hb] at h
          dsimp only [cond_true] at h
          split at h
          · rename_i g f st'
            split at h
            · rename_i z i j e1 e2 e3
              cases hb2 : ile 0 i.1 && ile 1 j.1 && (irg z.1 z.2).isSome
              · rw [hb2] at h; cases h
              · rw [hb2] at h
                rw [Bool.and_eq_true, Bool.and_eq_true] at hb2
                obtain ⟨q, hq⟩ := Option.isSome_iff_exists.mp hb2.2
                dsimp only [cond_true, cond_false] at h
                exact g_iremF X hd e1 e2 e3 hq hb2.1.1 hb2.1.2 (key h _ List.mem_cons_self)
            · cases h
          · cases h
      · cases hb : Nat.beq x 781
        · rw [hb] at h
          dsimp only [cond_false] at h
          split at h
          · rename_i L hL
            exact stp_ok X hl hI hRc hRs hd hw hL (key h)
          · cases h
        · rw [hb] at h
          dsimp only [cond_true] at h
          split at h
          · rename_i d0 f st'
            split at h
            · rename_i z i j e1 e2 e3
              cases hb2 : ile 1 d0 && (ieq j.1 d0 && ieq j.2 d0) && (irg z.1 z.2).isSome
              · rw [hb2] at h; cases h
              · rw [hb2] at h
                simp only [Bool.and_eq_true] at hb2
                obtain ⟨⟨b2, b3, b4⟩, b5⟩ := hb2
                obtain ⟨q, hq⟩ := Option.isSome_iff_exists.mp b5
                have ej : j = (d0, d0) := Prod.ext (ieq_t b3) (ieq_t b4)
                rw [ej] at e3
                dsimp only [cond_true] at h
                cases b1 : ile 0 i.1
                · rw [b1] at h
                  cases b6 : ile i.2 0
                  · rw [b6] at h; cases h
                  · rw [b6] at h
                    dsimp only [cond_true, cond_false] at h
                    exact g_idivN X hd e1 e2 e3 hq b6 b2 (key h _ List.mem_cons_self)
                · rw [b1] at h
                  dsimp only [cond_true, cond_false] at h
                  exact g_idivF X hd e1 e2 e3 hq b1 b2 (key h _ List.mem_cons_self)
            · cases h
          · cases h
      · cases hb : Nat.beq x 778
        · rw [hb] at h
          dsimp only [cond_false] at h
          split at h
          · rename_i L hL
            exact stp_ok X hl hI hRc hRs hd hw hL (key h)
          · cases h
        · rw [hb] at h
          dsimp only [cond_true] at h
          split at h
          · rename_i g f st'
            have kk := key h
            refine g_lcmpS X hd (fun e' q => kk (e', lo, .inl (fc (-1)) :: st', hp, na, nc, ns, pc + 1) ?_) (fun e' q => kk (e', lo, .inl (fc 0) :: st', rpH f g hp, na, nc, ns, pc + 1) ?_) (fun e' q => kk (e', lo, .inl (fc 1) :: st', hp, na, nc, ns, pc + 1) ?_)
            · exact List.mem_append_left _ (List.mem_append_left _ (opl_mem (f := fun e => (e, lo, .inl (fc (-1)) :: st', hp, na, nc, ns, pc + 1)) q))
            · exact List.mem_append_left _ (List.mem_append_right _ (opl_mem (f := fun e => (e, lo, .inl (fc 0) :: st', rpH f g hp, na, nc, ns, pc + 1)) q))
            · exact List.mem_append_right _ (opl_mem (f := fun e => (e, lo, .inl (fc 1) :: st', hp, na, nc, ns, pc + 1)) q)
          · cases h
      · split at h
        · rename_i L hL
          exact stp_ok X hl hI hRc hRs hd hw hL (key h)
        · cases h
theorem stepR_ok (X : eCx p R s m args c D ca A nL own cc a0) (hl : libW) {ini : Bool} (hI : ini = true → meth.name = "<init>") {Rf Rl Rc Rs : Nat} (hRf : Rf ≤ R.frames) (hRl : Rl ≤ R.locals) (hRc : cb + Rc ≤ R.cells) (hRs : sb + Rs ≤ R.slots) {C : eCode} (hC : codOk own cc C) {KS : List eK} (hKS : ∀ K ∈ KS, KMet l D ca K) {retB : eAn → eSt → Option eSV → Bool}
    (h0 : ∀ (a : eAn) (env : eEv) (lo : List (Nat × eSV)) (hp : eHp) (na : eNa) (nc ns pc : Nat), decode cc pc = .ok (.return_, 1) → retB a (env, lo, [], hp, na, nc, ns, pc) none = true → eG p l e R s m args below meth c Q D ca A nL cb sb r0 a0 env lo [] hp na nc ns pc)
    (h1 : ∀ (a : eAn) (env : eEv) (lo : List (Nat × eSV)) (hp : eHp) (na : eNa) (nc ns pc : Nat) (f : eLF), decode cc pc = .ok (.ireturn, 1) → retB a (env, lo, [.inl f], hp, na, nc, ns, pc) (some (.inl f)) = true → eG p l e R s m args below meth c Q D ca A nL cb sb r0 a0 env lo [.inl f] hp na nc ns pc)
    (h2 : (∀ (a : eAn) (env : eEv) (lo : List (Nat × eSV)) (hp : eHp) (na : eNa) (nc ns pc : Nat) (f : eLF), decode cc pc = .ok (.lreturn, 1) → retB a (env, lo, [.inr (.inl f)], hp, na, nc, ns, pc) (some (.inr (.inl f))) = true → eG p l e R s m args below meth c Q D ca A nL cb sb r0 a0 env lo [.inr (.inl f)] hp na nc ns pc) ∧ (∀ (a : eAn) (env : eEv) (lo : List (Nat × eSV)) (hp : eHp) (na : eNa) (nc ns pc : Nat) (i : Nat), decode cc pc = .ok (.areturn, 1) → retB a (env, lo, [.inr (.inr (some i))], hp, na, nc, ns, pc) (some (.inr (.inr (some i)))) = true → eG p l e R s m args below meth c Q D ca A nL cb sb r0 a0 env lo [.inr (.inr (some i))] hp na nc ns pc))
    {rec : List eAn → eSt → Option (List eAn)} (hrec : ∀ a S a', rec a S = some a' → GS p l e R s m args below meth c Q D ca A nL cb sb r0 a0 S) {an an' : List eAn} {S : eSt} (h : stepR ini nL Rf Rl Rc Rs C KS retB rec an S = some an') : GS p l e R s m args below meth c Q D ca A nL cb sb r0 a0 S := stepR0_ok X hl hI hRf hRl hRc hRs hC hKS h0 h1 h2 hrec (stepR_eq.symm.trans h)
end
end
