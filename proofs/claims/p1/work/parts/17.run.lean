/-! the walk of a method, as a function -/
abbrev eAn : Type := Nat × List eLF × List Nat
abbrev eRow : Type := Nat × Instr × Nat × Nat × Nat × List Nat
abbrev eCode : Type := List (Nat × List eRow)
abbrev eCut : Type := Nat × eEv × List (Nat × eSV) × List eSV × eHp × Nat × Nat × Nat × eLF
def rowIn : List eRow → Nat → Option eRow
  | [], _ => none
  | r :: t, pc => bif Nat.beq r.1 pc then some r else rowIn t pc
def rowAt : eCode → Nat → Option eRow
  | [], _ => none
  | q :: t, pc => bif Nat.blt pc q.1 then rowIn q.2 pc else rowAt t pc
def codOk (own : String) (cc : ByteArray) (C : eCode) : Prop := ∀ ch ∈ C, ∀ r ∈ ch.2, decode cc r.1 = .ok (r.2.1, ilen r.2.1 r.2.2.1) ∧ rowW own r.2.1 r.2.2.2.1 r.2.2.2.2.1
theorem rowIn_ok : ∀ {l : List eRow} {pc : Nat} {r : eRow}, rowIn l pc = some r → r ∈ l ∧ r.1 = pc
  | [], pc, r, h => by cases h
  | q :: t, pc, r, h => by
    unfold rowIn at h
    cases hb : Nat.beq q.1 pc
    · rw [hb] at h
      obtain ⟨h1, h2⟩ := rowIn_ok h
      exact ⟨List.mem_cons_of_mem _ h1, h2⟩
    · rw [hb] at h
      cases h
      exact ⟨List.mem_cons_self, Nat.eq_of_beq_eq_true hb⟩
theorem rowAt_ok {own : String} {cc : ByteArray} : ∀ {C : eCode} {pc : Nat} {r : eRow}, codOk own cc C → rowAt C pc = some r → decode cc pc = .ok (r.2.1, ilen r.2.1 r.2.2.1) ∧ rowW own r.2.1 r.2.2.2.1 r.2.2.2.2.1
  | [], pc, r, hc, h => by cases h
  | q :: t, pc, r, hc, h => by
    unfold rowAt at h
    cases hb : Nat.blt pc q.1
    · rw [hb] at h
      exact rowAt_ok (fun ch hch => hc ch (List.mem_cons_of_mem _ hch)) h
    · rw [hb] at h
      obtain ⟨h1, h2⟩ := rowIn_ok h
      have := hc q List.mem_cons_self r h1
      rw [h2] at this
      exact this
def runL (f : List eAn → eSt → Option (List eAn)) : List eAn → List eSt → Option (List eAn)
  | an, [] => some an
  | an, S :: t => match f an S with
    | some an' => runL f an' t
    | none => none
theorem runL_ok {f : List eAn → eSt → Option (List eAn)} : ∀ {L : List eSt} {an an' : List eAn}, runL f an L = some an' → ∀ S ∈ L, ∃ a a', f a S = some a'
  | [], an, an', h, S, hS => by cases hS
  | S0 :: L, an, an', h, S, hS => by
    unfold runL at h
    split at h
    · rename_i a1 h1
      rcases List.mem_cons.mp hS with rfl | hS
      · exact ⟨an, a1, h1⟩
      · exact runL_ok h S hS
    · cases h
def instL (env : eEv) (lo : List (Nat × eSV)) (st : List eSV) (hp : eHp) (na nc ns pc : Nat) (τ : List eLF) (θ ks : List Nat) : List ePo → Option (List eSt)
  | [] => some []
  | P :: t => match inst env hp na τ θ ks P, instL env lo st hp na nc ns pc τ θ ks t with
    | some none, some L => some L
    | some (some S), some L => some ((S.1, lo, S.2.1 ++ st, S.2.2.1, S.2.2.2, nc, ns, pc) :: L)
    | _, _ => none
theorem instL_ok {env : eEv} {lo : List (Nat × eSV)} {st : List eSV} {hp : eHp} {na nc ns pc : Nat} {τ : List eLF} {θ ks : List Nat} : ∀ {Ps : List ePo} {L : List eSt}, instL env lo st hp na nc ns pc τ θ ks Ps = some L → ∀ P ∈ Ps, ∃ r, inst env hp na τ θ ks P = some r ∧ ∀ S, r = some S → (S.1, lo, S.2.1 ++ st, S.2.2.1, S.2.2.2, nc, ns, pc) ∈ L
  | [], L, h, P, hP => by cases hP
  | P0 :: Ps, L, h, P, hP => by
    unfold instL at h
    split at h
    · rename_i L' h1 h2
      cases h
      rcases List.mem_cons.mp hP with rfl | hP
      · exact ⟨none, h1, fun S hS => by cases hS⟩
      · exact instL_ok h2 P hP
    · rename_i S0 L' h1 h2
      cases h
      rcases List.mem_cons.mp hP with rfl | hP
      · exact ⟨some S0, h1, fun S hS => by cases hS; exact List.mem_cons_self⟩
      · obtain ⟨r, g1, g2⟩ := instL_ok h2 P hP
        exact ⟨r, g1, fun S hS => List.mem_cons_of_mem _ (g2 S hS)⟩
    · cases h
def callK (Rf Rl Rc Rs : Nat) (KS : List eK) (an : eAn) (y : Nat) (ar st : List eSV) (env : eEv) (lo : List (Nat × eSV)) (hp : eHp) (na nc ns pc : Nat) : Option (List eSt) := match KS[an.1]? with
  | some K => bif Nat.beq K.1 y && cok8 st && Nat.ble (K.2.2.2.2.2 + 1) Rf && Nat.ble (60 * (K.2.2.2.2.2 + 1)) Rl && Nat.ble (nc + K.2.2.2.1) Rc && Nat.ble (ns + K.2.2.2.2.1) Rs && mtE env an.2.1 K.2.1.1 && mtA na an.2.2 && Nat.beq an.2.2.length K.2.1.2.2.2 && vsmt an.2.1 an.2.2 ar.reverse K.2.1.2.1 then (match hmt env an.2.1 an.2.2 hp K.2.1.2.2.1 with
      | some ks => bif va_nd ks then instL env lo st hp na (nc + K.2.2.2.1) (ns + K.2.2.2.2.1) (pc + 3) an.2.1 an.2.2 ks K.2.2.1 else none
      | none => none) else none
  | none => none
theorem callK_ok {Rf Rl Rc Rs : Nat} {KS : List eK} {an : eAn} {y : Nat} {ar st : List eSV} {env : eEv} {lo : List (Nat × eSV)} {hp : eHp} {na nc ns pc : Nat} {L : List eSt} (h : callK Rf Rl Rc Rs KS an y ar st env lo hp na nc ns pc = some L) : ∃ K ks, K ∈ KS ∧ K.1 = y ∧ (st.map ecat).sum ≤ 8 ∧ K.2.2.2.2.2 + 1 ≤ Rf ∧ 60 * (K.2.2.2.2.2 + 1) ≤ Rl ∧ nc + K.2.2.2.1 ≤ Rc ∧ ns + K.2.2.2.2.1 ≤ Rs ∧ mtE env an.2.1 K.2.1.1 = true ∧ mtA na an.2.2 = true ∧ an.2.2.length = K.2.1.2.2.2 ∧ vsmt an.2.1 an.2.2 ar.reverse K.2.1.2.1 = true ∧ hmt env an.2.1 an.2.2 hp K.2.1.2.2.1 = some ks ∧ va_nd ks = true ∧
    instL env lo st hp na (nc + K.2.2.2.1) (ns + K.2.2.2.2.1) (pc + 3) an.2.1 an.2.2 ks K.2.2.1 = some L := by
  unfold callK at h
  split at h
  · rename_i K hK
    cases hb : Nat.beq K.1 y && cok8 st && Nat.ble (K.2.2.2.2.2 + 1) Rf && Nat.ble (60 * (K.2.2.2.2.2 + 1)) Rl && Nat.ble (nc + K.2.2.2.1) Rc && Nat.ble (ns + K.2.2.2.2.1) Rs && mtE env an.2.1 K.2.1.1 && mtA na an.2.2 && Nat.beq an.2.2.length K.2.1.2.2.2 && vsmt an.2.1 an.2.2 ar.reverse K.2.1.2.1
    · rw [hb] at h; cases h
    · rw [hb] at h
      simp only [Bool.and_eq_true] at hb
      obtain ⟨⟨⟨⟨⟨⟨⟨⟨⟨b1, b2⟩, b3⟩, b4⟩, b5⟩, b6⟩, b7⟩, b8⟩, b9⟩, b10⟩ := hb
      dsimp only [cond_true] at h
      split at h
      · rename_i ks hks
        cases hv : va_nd ks
        · rw [hv] at h; cases h
        · rw [hv] at h
          exact ⟨K, ks, List.mem_of_getElem? hK, Nat.eq_of_beq_eq_true b1, Nat.le_of_ble_eq_true b2, Nat.le_of_ble_eq_true b3, Nat.le_of_ble_eq_true b4, Nat.le_of_ble_eq_true b5, Nat.le_of_ble_eq_true b6, b7, b8, Nat.eq_of_beq_eq_true b9, b10, hks, hv, h⟩
      · cases h
  · cases h
/-- the locals of a template -/
def lomt (τ : List eLF) (θ : List Nat) (lo : List (Nat × eSV)) : List (Nat × eSV) → Bool
  | [] => true
  | q :: t => (match lfd q.1 lo with
    | some v => vmt τ θ v q.2
    | none => false) && lomt τ θ lo t
theorem lomt_ok {ρ ρT : List Int} {α αT : List Nat} {τ : List eLF} {θ : List Nat} (h : tOk ρ τ ρT) (ha : aOk α θ αT) {lo : List (Nat × eSV)} {lvl : List (Nat × Value)} {ls : Array Slot} {nL : Nat} (hl : R2 (lrel ρ α) lo lvl) (hv : lv_has ls nL lvl) : ∀ {tlo : List (Nat × eSV)}, lomt τ θ lo tlo = true → ∃ lvT, R2 (lrel ρT αT) tlo lvT ∧ lv_has ls nL lvT
  | [], _ => ⟨[], trivial, hv.1, hv.2.1, fun q hq => by cases hq⟩
  | q :: t, hm => by
    unfold lomt at hm
    rw [Bool.and_eq_true] at hm
    obtain ⟨lvT, h1, h2⟩ := lomt_ok h ha hl hv hm.2
    have h3 := hm.1
    split at h3
    · rename_i v hf
      obtain ⟨w, k, g1, g2, g3⟩ := lfd_ok hf hl hv
      exact ⟨(q.1, w) :: lvT, ⟨⟨rfl, vmt_ok h ha h3 g1⟩, h1⟩, hv.1, hv.2.1, fun z hz => by
        rcases List.mem_cons.mp hz with rfl | hz
        · exact g2
        · exact h2.2.2 z hz⟩
    · cases h3
def cutB (CT : List eCut) (nv0 na0 : Nat) (mu : Option eLF) (a : eAn) (S : eSt) : Bool := match CT[a.1]? with
  | some T => Nat.beq T.1 S.2.2.2.2.2.2.2 && mtE S.1 (nvs 0 nv0 ++ a.2.1) T.2.1 && mtA S.2.2.2.2.1 (nas 0 na0 ++ a.2.2) && Nat.beq (nas 0 na0 ++ a.2.2).length T.2.2.2.2.2.1 && lomt (nvs 0 nv0 ++ a.2.1) (nas 0 na0 ++ a.2.2) S.2.1 T.2.2.1 && vsmt (nvs 0 nv0 ++ a.2.1) (nas 0 na0 ++ a.2.2) S.2.2.1 T.2.2.2.1 && (match hmt S.1 (nvs 0 nv0 ++ a.2.1) (nas 0 na0 ++ a.2.2) S.2.2.2.1 T.2.2.2.2.1 with
      | some ks => va_nd ks
      | none => false) && Nat.ble S.2.2.2.2.2.1 T.2.2.2.2.2.2.1 && Nat.ble S.2.2.2.2.2.2.1 T.2.2.2.2.2.2.2.1 && (match mu with
      | none => true
      | some μ => (match sbf (nvs 0 nv0 ++ a.2.1) T.2.2.2.2.2.2.2.2 with
        | some g => (match lrg S.1 (fsub g μ).1 with
          | some j => ile (j.2 + (fsub g μ).2) (-1)
          | none => false)
        | none => false))
  | none => false
/-- a super call looks at its receiver's class -/
def spec (k i : Nat) (hp : eHp) : Bool := match k with
  | 0 => true
  | ci + 1 => (match hfd i hp 0 with
    | some (_, .inl (cj, _)) => Nat.beq cj ci
    | _ => false)
theorem spec_ok {k i : Nat} {hp : eHp} (h : spec k i hp = true) (hk : k ≠ 0) : ∃ j fs, hfd i hp 0 = some (j, .inl (k - 1, fs)) := by
  unfold spec at h
  split at h
  · exact absurd rfl hk
  · split at h
    · rename_i j cj fs hf
      have e := Nat.eq_of_beq_eq_true h
      subst e
      exact ⟨j, fs, hf⟩
    · cases h
/-- a comparison whose two sides are looked at one by one -/
def spE (env : eEv) (d : eLF) (mk : eEv → eSt) : Option (List eSt) := match lrg env d.1 with
  | some j => bif ile (j.1 + d.2) (-1) && ile 0 (j.2 + d.2) then some (opl (refLe env (fpl d 1)) mk ++ opl (refLe env (fsc (-1) d)) mk) else none
  | none => none
def spq (r : eRow) (S : eSt) : Option (List eSt) := bif Nat.beq r.2.2.2.1 777 then (match r.2.1, S.2.2.1 with
  | .if_icmp _ _, .inl g :: .inl f :: _ => spE S.1 (fsub f g) (fun e => (e, S.2))
  | .ifCond _ _, .inl f :: _ => spE S.1 f (fun e => (e, S.2))
  | _, _ => none) else none
section
variable {p : Program} {l : Launch} {e : Env} {R : Room} {s : State} {m : MethodId} {args : Array Value} {below : List Frame} {meth : Method} {c : Code} {Q : State → Prop} {D : va_G} {ca : Nat → ClassId} {A : Nat → Prop} {nL cb sb : Nat} {r0 : List Int} {a0 : List Nat} {own : String} {cc : ByteArray} {env : eEv} {lo : List (Nat × eSV)} {st : List eSV} {hp : eHp} {na nc ns pc : Nat}
theorem spE_ok {S : eSt} {d : eLF} {L : List eSt} (h : spE S.1 d (fun e => (e, S.2)) = some L) (kk : ∀ S' ∈ L, GS p l e R s m args below meth c Q D ca A nL cb sb r0 a0 S') : GS p l e R s m args below meth c Q D ca A nL cb sb r0 a0 S := by
  intro ρ α ls lvl stk ws H locs hh
  unfold spE at h
  split at h
  · rename_i j hj
    cases hb : ile (j.1 + d.2) (-1) && ile 0 (j.2 + d.2)
    · rw [hb] at h; cases h
    · rw [hb] at h
      cases h
      obtain ⟨x, hx⟩ := lrg_ex hh.1 hj
      have hd : lfv ρ d (x + d.2) := by
        show lev ρ d.1 = some (x + d.2 - d.2)
        rw [hx]
        congr 1
        omega
      by_cases hv : x + d.2 ≤ -1
      · obtain ⟨e1, q1, q2⟩ := refLe_ok hh.1 (fpl_ok 1 hd) (by omega)
        exact kk (e1, S.2) (List.mem_append_left _ (opl_mem (f := fun e => (e, S.2)) q1)) ρ α ls lvl stk ws H locs (rep_env0 hh q2)
      · obtain ⟨e1, q1, q2⟩ := refLe_ok hh.1 (fsc_ok (k := -1) hd) (by omega)
        exact kk (e1, S.2) (List.mem_append_right _ (opl_mem (f := fun e => (e, S.2)) q1)) ρ α ls lvl stk ws H locs (rep_env0 hh q2)
  · cases h
theorem spq_ok {r : eRow} {S : eSt} {L : List eSt} (h : spq r S = some L) (kk : ∀ S' ∈ L, GS p l e R s m args below meth c Q D ca A nL cb sb r0 a0 S') : GS p l e R s m args below meth c Q D ca A nL cb sb r0 a0 S := by
  unfold spq at h
  cases hb : Nat.beq r.2.2.2.1 777
  · rw [hb] at h; cases h
  · rw [hb] at h
    dsimp only [cond_true] at h
    split at h
    · exact spE_ok h kk
    · exact spE_ok h kk
    · cases h
end
def stepR (ini : Bool) (nL Rf Rl Rc Rs : Nat) (C : eCode) (KS : List eK) (retB : eAn → eSt → Option eSV → Bool) (rec : List eAn → eSt → Option (List eAn)) (an : List eAn) (S : eSt) : Option (List eAn) := match rowAt C S.2.2.2.2.2.2.2 with
  | none => none
  | some r => (match spq r S with
    | some L => runL rec an L
    | none => (match r.2.1 with
    | .return_ => (match an, S.2.2.1 with
      | a :: an', [] => bif retB a S none then some an' else none
      | _, _ => none)
    | .ireturn => (match an, S.2.2.1 with
      | a :: an', [.inl f] => bif retB a S (some (.inl f)) then some an' else none
      | _, _ => none)
    | .lreturn => (match an, S.2.2.1 with
      | a :: an', [.inr (.inl f)] => bif retB a S (some (.inr (.inl f))) then some an' else none
      | _, _ => none)
    | .invokevirtual _ => (match an, S.2.2.1.drop (r.2.2.2.1 % 100) with
      | a :: an', .inr (.inr (some i)) :: st' => (match hfd i S.2.2.2.1 0 with
        | some (_, .inl (ci, _)) => bif Nat.beq ci (r.2.2.2.1 / 1000) && Nat.beq (S.2.2.1.take (r.2.2.2.1 % 100)).length (r.2.2.2.1 % 100) then (match callK Rf Rl Rc Rs KS a r.2.2.2.2.1 (S.2.2.1.take (r.2.2.2.1 % 100) ++ [.inr (.inr (some i))]) st' S.1 S.2.1 S.2.2.2.1 S.2.2.2.2.1 S.2.2.2.2.2.1 S.2.2.2.2.2.2.1 S.2.2.2.2.2.2.2 with
            | some L => runL rec an' L
            | none => none) else none
        | _ => none)
      | _, _ => none)
    | .invokestatic idx => bif Nat.blt r.2.2.2.2.1 100000 then (match an with
        | a :: an' => bif Nat.beq (S.2.2.1.take (r.2.2.2.1 % 100)).length (r.2.2.2.1 % 100) then (match callK Rf Rl Rc Rs KS a r.2.2.2.2.1 (S.2.2.1.take (r.2.2.2.1 % 100)) (S.2.2.1.drop (r.2.2.2.1 % 100)) S.1 S.2.1 S.2.2.2.1 S.2.2.2.2.1 S.2.2.2.2.2.1 S.2.2.2.2.2.2.1 S.2.2.2.2.2.2.2 with
            | some L => runL rec an' L
            | none => none) else none
        | [] => none) else (match stp ini nL Rc Rs (.invokestatic idx) r.2.2.2.1 r.2.2.2.2.1 S.1 S.2.1 S.2.2.1 S.2.2.2.1 S.2.2.2.2.1 S.2.2.2.2.2.1 S.2.2.2.2.2.2.1 S.2.2.2.2.2.2.2 with
        | some L => runL rec an L
        | none => none)
    | .invokespecial idx => bif Nat.blt r.2.2.2.2.1 100000 then (match an, S.2.2.1.drop (r.2.2.2.1 % 100) with
        | a :: an', .inr (.inr (some i)) :: st' => bif Nat.beq (S.2.2.1.take (r.2.2.2.1 % 100)).length (r.2.2.2.1 % 100) && spec (r.2.2.2.1 / 1000) i S.2.2.2.1 then (match callK Rf Rl Rc Rs KS a r.2.2.2.2.1 (S.2.2.1.take (r.2.2.2.1 % 100) ++ [.inr (.inr (some i))]) st' S.1 S.2.1 S.2.2.2.1 S.2.2.2.2.1 S.2.2.2.2.2.1 S.2.2.2.2.2.2.1 S.2.2.2.2.2.2.2 with
            | some L => runL rec an' L
            | none => none) else none
        | _, _ => none) else (match stp ini nL Rc Rs (.invokespecial idx) r.2.2.2.1 r.2.2.2.2.1 S.1 S.2.1 S.2.2.1 S.2.2.2.1 S.2.2.2.2.1 S.2.2.2.2.2.1 S.2.2.2.2.2.2.1 S.2.2.2.2.2.2.2 with
        | some L => runL rec an L
        | none => none)
    | i => (match stp ini nL Rc Rs i r.2.2.2.1 r.2.2.2.2.1 S.1 S.2.1 S.2.2.1 S.2.2.2.1 S.2.2.2.2.1 S.2.2.2.2.2.1 S.2.2.2.2.2.2.1 S.2.2.2.2.2.2.2 with
      | some L => runL rec an L
      | none => none)))
def run (ini : Bool) (nL Rf Rl Rc Rs : Nat) (C : eCode) (KS : List eK) (CT : List eCut) (nv0 na0 : Nat) (mu : Option eLF) (retB : eAn → eSt → Option eSV → Bool) : Nat → List eAn → eSt → Option (List eAn)
  | 0, _, _ => none
  | n + 1, an, S => bif CT.any (fun t => Nat.beq t.1 S.2.2.2.2.2.2.2) then (match an with
      | a :: an' => bif cutB CT nv0 na0 mu a S then some an' else none
      | [] => none) else stepR ini nL Rf Rl Rc Rs C KS retB (run ini nL Rf Rl Rc Rs C KS CT nv0 na0 mu retB n) an S
section
variable {p : Program} {l : Launch} {e : Env} {R : Room} {s : State} {m : MethodId} {args : Array Value} {below : List Frame} {meth : Method} {c : Code} {Q : State → Prop} {D : va_G} {ca : Nat → ClassId} {A : Nat → Prop} {nL cb sb : Nat} {r0 : List Int} {a0 : List Nat} {own : String} {cc : ByteArray} {env : eEv} {lo : List (Nat × eSV)} {st : List eSV} {hp : eHp} {na nc ns pc : Nat}
theorem stepR_ok (X : eCx p R s m args c D ca A nL own cc) (hl : libW) {ini : Bool} (hI : ini = true → meth.name = "<init>") {Rf Rl Rc Rs : Nat} (hRf : Rf ≤ R.frames) (hRl : Rl ≤ R.locals) (hRc : cb + Rc ≤ R.cells) (hRs : sb + Rs ≤ R.slots) {C : eCode} (hC : codOk own cc C) {KS : List eK} (hKS : ∀ K ∈ KS, KMet l D ca K) {retB : eAn → eSt → Option eSV → Bool}
    (h0 : ∀ (a : eAn) (env : eEv) (lo : List (Nat × eSV)) (hp : eHp) (na nc ns pc : Nat), decode cc pc = .ok (.return_, 1) → retB a (env, lo, [], hp, na, nc, ns, pc) none = true → eG p l e R s m args below meth c Q D ca A nL cb sb r0 a0 env lo [] hp na nc ns pc)
    (h1 : ∀ (a : eAn) (env : eEv) (lo : List (Nat × eSV)) (hp : eHp) (na nc ns pc : Nat) (f : eLF), decode cc pc = .ok (.ireturn, 1) → retB a (env, lo, [.inl f], hp, na, nc, ns, pc) (some (.inl f)) = true → eG p l e R s m args below meth c Q D ca A nL cb sb r0 a0 env lo [.inl f] hp na nc ns pc)
    (h2 : ∀ (a : eAn) (env : eEv) (lo : List (Nat × eSV)) (hp : eHp) (na nc ns pc : Nat) (f : eLF), decode cc pc = .ok (.lreturn, 1) → retB a (env, lo, [.inr (.inl f)], hp, na, nc, ns, pc) (some (.inr (.inl f))) = true → eG p l e R s m args below meth c Q D ca A nL cb sb r0 a0 env lo [.inr (.inl f)] hp na nc ns pc)
    {rec : List eAn → eSt → Option (List eAn)} (hrec : ∀ a S a', rec a S = some a' → GS p l e R s m args below meth c Q D ca A nL cb sb r0 a0 S) {an an' : List eAn} {S : eSt} (h : stepR ini nL Rf Rl Rc Rs C KS retB rec an S = some an') : GS p l e R s m args below meth c Q D ca A nL cb sb r0 a0 S := by
  obtain ⟨env, lo, st, hp, na, nc, ns, pc⟩ := S
  show eG p l e R s m args below meth c Q D ca A nL cb sb r0 a0 env lo st hp na nc ns pc
  unfold stepR at h
  split at h
  · cases h
  · rename_i r hr
    obtain ⟨hd, hw⟩ := rowAt_ok hC hr
    obtain ⟨rpc, i, len, x, y, ps⟩ := r
    dsimp only at h hd hw
    have key : ∀ {L : List eSt} {a a' : List eAn}, runL rec a L = some a' → ∀ S ∈ L, GS p l e R s m args below meth c Q D ca A nL cb sb r0 a0 S := by
      intro L a a' hL S hS
      obtain ⟨b, b', hb⟩ := runL_ok hL S hS
      exact hrec _ _ _ hb
    split at h
    · rename_i L hL
      exact spq_ok hL (key h)
    · rename_i hsp
      clear hsp
      split at h
      · split at h
        · rename_i a an1
          cases hb : retB a (env, lo, [], hp, na, nc, ns, pc) none
          · rw [hb] at h; cases h
          · exact h0 a env lo hp na nc ns pc hd hb
        · cases h
      · split at h
        · rename_i a an1 f
          cases hb : retB a (env, lo, [.inl f], hp, na, nc, ns, pc) (some (.inl f))
          · rw [hb] at h; cases h
          · exact h1 a env lo hp na nc ns pc f hd hb
        · cases h
      · split at h
        · rename_i a an1 f
          cases hb : retB a (env, lo, [.inr (.inl f)], hp, na, nc, ns, pc) (some (.inr (.inl f)))
          · rw [hb] at h; cases h
          · exact h2 a env lo hp na nc ns pc f hd hb
        · cases h
      · split at h
        · rename_i a an1 i' st' hst
          split at h
          · rename_i k ci fs hf
            cases hb : Nat.beq ci (x / 1000) && Nat.beq (st.take (x % 100)).length (x % 100)
            · rw [hb] at h; cases h
            · rw [hb] at h
              rw [Bool.and_eq_true] at hb
              dsimp only [cond_true] at h
              split at h
              · rename_i L hL
                obtain ⟨K, ks, k1, k2, k3, k4, k5, k6, k7, k8, k9, k10, k11, k12, k13, k14⟩ := callK_ok hL
                obtain ⟨q, qc, q1, q2, q3, q4, q5, q6, q7, q9⟩ := hw
                have e1 := Nat.eq_of_beq_eq_true hb.1
                have hf' : hfd i' hp 0 = some (k, .inl (ci, fs)) := hf
                rw [e1] at hf'
                have e2 : st = st.take (x % 100) ++ .inr (.inr (some i')) :: st' := by
                  conv => lhs; rw [← List.take_append_drop (x % 100) st]
                  rw [show st.drop (x % 100) = .inr (.inr (some i')) :: st' from hst]
                rw [e2]
                have kk : ∀ P ∈ K.2.2.1, ∃ r, inst env hp na a.2.1 a.2.2 ks P = some r ∧ ∀ S, r = some S → eG p l e R s m args below meth c Q D ca A nL cb sb r0 a0 S.1 lo (S.2.1 ++ st') S.2.2.1 S.2.2.2 (nc + K.2.2.2.1) (ns + K.2.2.2.2.1) (pc + 3) := fun P hP => by
                  obtain ⟨r', r1, r2⟩ := instL_ok k14 P hP
                  exact ⟨r', r1, fun S hS => key h _ (r2 S hS)⟩
                rcases q4 with ⟨q4, q8⟩ | ⟨q4, q8⟩
                · exact g_callV X (hKS K k1) (by rw [k2]; exact q1) hd q7 q8 hf' q2 q3 q4 q5 q6 (Nat.eq_of_beq_eq_true hb.2) k3 ⟨by omega, by omega⟩ ⟨by omega, by omega⟩ k8 k9 k10 k11 k12 k13 kk
                · exact g_callU X (hKS K k1) (by rw [k2]; exact q1) hd q7 hf' q2 q3 q4 q8 q5 q6 (Nat.eq_of_beq_eq_true hb.2) k3 ⟨by omega, by omega⟩ ⟨by omega, by omega⟩ k8 k9 k10 k11 k12 k13 kk
              · cases h
          · cases h
        · cases h
      · rename_i idx
        cases hy : Nat.blt y 100000
        · rw [hy] at h
          dsimp only [cond_false] at h
          split at h
          · rename_i L hL
            exact stp_ok X hl hI hRc hRs hd hw hL (key h)
          · cases h
        · rw [hy] at h
          have hy' := blt_t hy
          dsimp only [cond_true] at h
          split at h
          · rename_i a an1
            cases hb : Nat.beq (st.take (x % 100)).length (x % 100)
            · rw [hb] at h; cases h
            · rw [hb] at h
              dsimp only [cond_true] at h
              split at h
              · rename_i L hL
                obtain ⟨K, ks, k1, k2, k3, k4, k5, k6, k7, k8, k9, k10, k11, k12, k13, k14⟩ := callK_ok hL
                rcases hw with ⟨z, _⟩ | ⟨z, _⟩ | ⟨z, _⟩ | ⟨z, _⟩ | ⟨_, q, q1, q2, q3, q4, q5, q6⟩ | z
                · omega
                · omega
                · omega
                · omega
                · rw [← List.take_append_drop (x % 100) st]
                  have kk : ∀ P ∈ K.2.2.1, ∃ r, inst env hp na a.2.1 a.2.2 ks P = some r ∧ ∀ S, r = some S → eG p l e R s m args below meth c Q D ca A nL cb sb r0 a0 S.1 lo (S.2.1 ++ st.drop (x % 100)) S.2.2.1 S.2.2.2 (nc + K.2.2.2.1) (ns + K.2.2.2.2.1) (pc + 3) := fun P hP => by
                    obtain ⟨r', r1, r2⟩ := instL_ok k14 P hP
                    exact ⟨r', r1, fun S hS => key h _ (r2 S hS)⟩
                  rcases q2 with q2 | q2
                  · exact g_callS X (hKS K k1) (by rw [k2]; exact q1) hd q2 q3 q4 q5 (Nat.eq_of_beq_eq_true hb) k3 ⟨by omega, by omega⟩ ⟨by omega, by omega⟩ k8 k9 k10 k11 k12 k13 kk
                  · exact g_callSN X (hKS K k1) (by rw [k2]; exact q1) hd q2 q3 q4 q5 (Nat.eq_of_beq_eq_true hb) k3 ⟨by omega, by omega⟩ ⟨by omega, by omega⟩ k8 k9 k10 k11 k12 k13 kk
                · omega
              · cases h
          · cases h
      · rename_i idx
        cases hy : Nat.blt y 100000
        · rw [hy] at h
          dsimp only [cond_false] at h
          split at h
          · rename_i L hL
            exact stp_ok X hl hI hRc hRs hd hw hL (key h)
          · cases h
        · rw [hy] at h
          have hy' := blt_t hy
          dsimp only [cond_true] at h
          split at h
          · rename_i a an1 i' st' hst
            cases hb : Nat.beq (st.take (x % 100)).length (x % 100) && spec (x / 1000) i' hp
            · rw [hb] at h; cases h
            · rw [hb] at h
              rw [Bool.and_eq_true] at hb
              dsimp only [cond_true] at h
              split at h
              · rename_i L hL
                obtain ⟨K, ks, k1, k2, k3, k4, k5, k6, k7, k8, k9, k10, k11, k12, k13, k14⟩ := callK_ok hL
                have e2 : st = st.take (x % 100) ++ .inr (.inr (some i')) :: st' := by
                  conv => lhs; rw [← List.take_append_drop (x % 100) st]
                  rw [show st.drop (x % 100) = .inr (.inr (some i')) :: st' from hst]
                rw [e2]
                have kk : ∀ P ∈ K.2.2.1, ∃ r, inst env hp na a.2.1 a.2.2 ks P = some r ∧ ∀ S, r = some S → eG p l e R s m args below meth c Q D ca A nL cb sb r0 a0 S.1 lo (S.2.1 ++ st') S.2.2.1 S.2.2.2 (nc + K.2.2.2.1) (ns + K.2.2.2.2.1) (pc + 3) := fun P hP => by
                  obtain ⟨r', r1, r2⟩ := instL_ok k14 P hP
                  exact ⟨r', r1, fun S hS => key h _ (r2 S hS)⟩
                rcases hw with ⟨z, _⟩ | ⟨_, q, q1, q2, q3, q4, q5, q6, q7, q8⟩ | ⟨_, q, qc, q1, q2, q3, q4, q5, q6, q7, q8, q9, q10, q11⟩
                · omega
                · rcases q2 with q2 | q2
                  · exact g_callI X (hKS K k1) (by rw [k2]; exact q1) hd q6 q7 q2 q3 q4 q5 (Nat.eq_of_beq_eq_true hb.1) k3 ⟨by omega, by omega⟩ ⟨by omega, by omega⟩ k8 k9 k10 k11 k12 k13 kk
                  · exact g_callIN X (hKS K k1) (by rw [k2]; exact q1) hd q6 q7 q2 q3 q4 q5 (Nat.eq_of_beq_eq_true hb.1) k3 ⟨by omega, by omega⟩ ⟨by omega, by omega⟩ k8 k9 k10 k11 k12 k13 kk
                · obtain ⟨j, fs, hf'⟩ := spec_ok hb.2 q9
                  exact g_callSU X (hKS K k1) (by rw [k2]; exact q1) hd q10 q6 hf' q2 q3 q7 q8 q4 q5 (Nat.eq_of_beq_eq_true hb.1) k3 ⟨by omega, by omega⟩ ⟨by omega, by omega⟩ k8 k9 k10 k11 k12 k13 kk
              · cases h
          · cases h
      · split at h
        · rename_i L hL
          exact stp_ok X hl hI hRc hRs hd hw hL (key h)
        · cases h
end
