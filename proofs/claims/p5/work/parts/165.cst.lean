noncomputable section
/-! rows that speak of constants -/
def cRow (own : String) (i : Instr) (x y : Nat) : Prop := match i with
  | .ldc idx => ∃ r, stS[x]? = some r ∧ r.1 = own ∧ r.2.1 = idx
  | .ldc_w idx => ∃ r, stS[x]? = some r ∧ r.1 = own ∧ r.2.1 = idx
  | .getstatic idx => (x = 10 ∧ Cond.fieldLink own idx "java/lang/Integer" "DigitOnes" "[B" ∈ gtbl) ∨ (x = 11 ∧ Cond.fieldLink own idx "java/lang/Integer" "DigitTens" "[B" ∈ gtbl) ∨ (x = 12 ∧ Cond.fieldLink own idx pcN "SIOOBE_FORMATTER" bfD ∈ gtbl)
  | .getfield idx => (x = 0 ∧ Cond.fieldLink own idx "java/lang/String" "value" "[B" ∈ gtbl) ∨ (x = 1 ∧ Cond.fieldLink own idx "java/lang/String" "coder" "B" ∈ gtbl)
  | .invokevirtual idx => ∃ q, mtab[x / 1000]? = some q ∧ q.1.cls = "java/lang/String" ∧ Cond.methodLink own idx q.1 ∈ gtbl ∧ Cond.instanceMethod q.1 ∈ gtbl ∧ Cond.selects q.1.cls q.1 q.1 ∈ gtbl ∧ Cond.initialized q.1.cls ∈ gtbl ∧ mdOk q.1 (x % 100) ∧ q.2.2.1 ≤ 40
  | .invokestatic idx => Cond.methodLink own idx arraycopyName ∈ gtbl
  | .arraylength => True
  | .baload => True
  | .ifnonnull _ => True
  | _ => False
def cst (i : Instr) (x : Nat) (env : eEv) (lo : List (Nat × eSV)) (st : List eSV) (hp : eHp) (na : eNa) (nc ns pc : Nat) : Option (List eSt) := match i with
  | .ldc _ => some [(env, lo, .inr (.inr (some x)) :: st, hp, na, nc, ns, pc + 2)]
  | .ldc_w _ => some [(env, lo, .inr (.inr (some x)) :: st, hp, na, nc, ns, pc + 3)]
  | .getstatic _ => bif Nat.beq x 12 then some [(env, lo, .inr (.inr none) :: st, hp, na, nc, ns, pc + 3), (env, lo, .inr (.inr (some 12)) :: st, hp, na, nc, ns, pc + 3)] else some [(env, lo, .inr (.inr (some x)) :: st, hp, na, nc, ns, pc + 3)]
  | .getfield _ => (match st with
    | .inr (.inr (some k)) :: st' => bif Nat.blt k 5 then (bif Nat.beq x 0 then some [(env, lo, .inr (.inr (some (5 + k))) :: st', hp, na, nc, ns, pc + 3)] else some [(env, lo, .inl (fc 0) :: st', hp, na, nc, ns, pc + 3)]) else none
    | _ => none)
  | .arraylength => (match st with
    | .inr (.inr (some j)) :: st' => bif Nat.ble 5 j then (match stB[j - 5]? with
      | some b => some [(env, lo, .inl (fc (b.length : Int)) :: st', hp, na, nc, ns, pc + 1)]
      | none => none) else none
    | _ => none)
  | .baload => (match st with
    | .inl f :: .inr (.inr (some j)) :: st' => bif Nat.ble 5 j then (match stB[j - 5]?, irg env f with
      | some b, some i => bif ((ile 0 i.1 || loF env na.2 f 0) && (ile (i.2 + 1) b.length || upF env na.2 f ((b.length : Int) - 1))) && bIn b 0 127 then some [((fr env 0 127).1, lo, .inl (fr env 0 127).2 :: st', hp, adF na [cbF (j - 5) f (fr env 0 127).2], nc, ns, pc + 1)] else none
      | _, _ => none) else none
    | _ => none)
  | .ifnonnull o => (match st, nat? ((pc : Int) + o) with
    | .inr (.inr (some _)) :: st', some t => some [(env, lo, st', hp, na, nc, ns, t)]
    | _, _ => none)
  | .invokestatic _ => (match st with
    | .inl f :: .inl fd :: .inr (.inr (some id)) :: .inl fs :: .inr (.inr (some is)) :: st' => bif cok8 st' then (match hfd id hp 0, irg env f, irg env fd, irg env fs with
      | some (kd, .inr (.inl (0, n1, sg1))), some i, some j, some z => bif sgB env sg1 then (bif Nat.blt is 13 then (bif Nat.ble 5 is then (match stB[is - 5]? with
          | some b => bif (ile 0 i.1 && ile 0 j.1 && ile 0 z.1 && ile (z.2 + i.2) b.length && ile (j.2 + i.2) n1 && bIn b (-128) 127) then some [(env, lo, st', hp.set kd (id, .inr (.inl (0, n1, [(n1, .inl (.inl (-128, 127)))]))), na, nc, ns, pc + 3)] else none
          | none => none) else none) else (match hfd is hp 0 with
          | some (_, .inr (.inl (0, n0, sg0))) => bif sgB env sg0 && (ile 0 i.1 && ile 0 j.1 && ile 0 z.1 && ile (z.2 + i.2) n0 && ile (j.2 + i.2) n1) then some [(env, lo, st', hp.set kd (id, .inr (.inl (0, n1, [(n1, .inl (.inl (-128, 127)))]))), na, nc, ns, pc + 3)] else none
          | _ => none)) else none
      | _, _, _, _ => none) else none
    | _ => none)
  | _ => none
section
variable {p : Program} {l : Launch} {e : Env} {R : Room} {s : State} {m : MethodId} {args : Array Value} {below : List Frame} {meth : Method} {c : Code} {Q : State → Prop} {D : va_G} {ca : Nat → ClassId} {A : Nat → Prop} {nL cb sb : Nat} {r0 : List Int} {a0 : List Nat} {own : String} {cc : ByteArray} {env : eEv} {lo : List (Nat × eSV)} {st : List eSV} {hp : eHp} {na : eNa} {nc ns pc : Nat}
set_option maxHeartbeats 1000000 in
theorem cst_ok (X : eCx p R s m args c D ca A nL own cc a0) (hl : libW) {i : Instr} {len x y : Nat} (hd : decode cc pc = .ok (i, ilen i len)) (hw : cRow own i x y) {L : List eSt} (h : cst i x env lo st hp na nc ns pc = some L) (kk : ∀ S ∈ L, GS p l e R s m args below meth c Q D ca A nL cb sb r0 a0 S) : eG p l e R s m args below meth c Q D ca A nL cb sb r0 a0 env lo st hp na nc ns pc := by
  unfold cst at h
  split at h
  · cases h
    obtain ⟨r, r1, r2, r3⟩ := hw
    exact g_ldcC X r1 r2 r3 hd (kk _ List.mem_cons_self)
  · cases h
    obtain ⟨r, r1, r2, r3⟩ := hw
    exact g_ldcwC X r1 r2 r3 hd (kk _ List.mem_cons_self)
  · rename_i idx
    have hw' : (x = 10 ∧ Cond.fieldLink own idx "java/lang/Integer" "DigitOnes" "[B" ∈ gtbl) ∨ (x = 11 ∧ Cond.fieldLink own idx "java/lang/Integer" "DigitTens" "[B" ∈ gtbl) ∨ (x = 12 ∧ Cond.fieldLink own idx pcN "SIOOBE_FORMATTER" bfD ∈ gtbl) := hw
    rcases hw' with ⟨rfl, w⟩ | ⟨rfl, w⟩ | ⟨rfl, w⟩
    · cases h
      exact g_getsR X (k := 10) (by decide) (c_sc X).2.2.1.1 w hd (kk _ List.mem_cons_self)
    · cases h
      exact g_getsR X (k := 11) (by decide) (c_sc X).2.2.1.2 w hd (kk _ List.mem_cons_self)
    · cases h
      rcases (c_sc X).2.2.2 with z | z
      · exact g_getsN X z w hd (kk _ List.mem_cons_self)
      · exact g_getsR X (k := 12) (by decide) z w hd (kk _ (List.mem_cons_of_mem _ List.mem_cons_self))
  · rename_i idx
    split at h
    · rename_i k st'
      cases hb : Nat.blt k 5
      · rw [hb] at h; cases h
      · rw [hb] at h
        have hk := blt_t hb
        obtain ⟨r, hr⟩ : ∃ r, stS[k]? = some r := ⟨_, List.getElem?_eq_getElem (l := stS) (by show k < 5; exact hk)⟩
        have hw' : (x = 0 ∧ Cond.fieldLink own idx "java/lang/String" "value" "[B" ∈ gtbl) ∨ (x = 1 ∧ Cond.fieldLink own idx "java/lang/String" "coder" "B" ∈ gtbl) := hw
        rcases hw' with ⟨rfl, w⟩ | ⟨rfl, w⟩
        · cases h
          exact g_getC X (sv := .inr (.inr (some (5 + k)))) (by omega) ((c_sc X).1 k r hr).2.2.2 w (fun ρ α hc => ⟨_, hc (5 + k) (by omega), by rw [show 105 + k = 100 + (5 + k) by omega]⟩) hd (kk _ List.mem_cons_self)
        · cases h
          exact g_getC X (sv := .inl (fc 0)) (by omega) ((c_sc X).1 k r hr).2.2.1 w (fun ρ α hc => ⟨0, fc_ok 0, rfl⟩) hd (kk _ List.mem_cons_self)
    · cases h
  · split at h
    · rename_i j st'
      cases hb : Nat.ble 5 j
      · rw [hb] at h; cases h
      · rw [hb] at h
        have hj := Nat.le_of_ble_eq_true hb
        dsimp only [cond_true] at h
        split at h
        · rename_i b hB
          cases h
          obtain ⟨k, rfl⟩ : ∃ k, j = 5 + k := ⟨j - 5, by omega⟩
          rw [show 5 + k - 5 = k by omega] at hB
          exact g_lenC X hB hd (kk _ List.mem_cons_self)
        · cases h
    · cases h
  · split at h
    · rename_i f j st'
      cases hb : Nat.ble 5 j
      · rw [hb] at h; cases h
      · rw [hb] at h
        have hj := Nat.le_of_ble_eq_true hb
        dsimp only [cond_true] at h
        split at h
        · rename_i b i hB hi
          cases hb2 : ((ile 0 i.1 || loF env na.2 f 0) && (ile (i.2 + 1) b.length || upF env na.2 f ((b.length : Int) - 1))) && bIn b 0 127
          · rw [hb2] at h; cases h
          · rw [hb2] at h
            cases h
            rw [Bool.and_eq_true] at hb2
            obtain ⟨k, rfl⟩ : ∃ k, j = 5 + k := ⟨j - 5, by omega⟩
            rw [show 5 + k - 5 = k by omega] at hB kk
            exact g_balC X hB hi hb2.1 hb2.2 ⟨by decide, by decide⟩ hd (kk _ List.mem_cons_self)
        · cases h
    · cases h
  · split at h
    · rename_i ht
      cases h
      exact g_ifnn X hd (nat?_ok ht) (kk _ List.mem_cons_self)
    · cases h
  · split at h
    · rename_i f fd id fs is st'
      cases hb : cok8 st'
      · rw [hb] at h; cases h
      · rw [hb] at h
        have hs8 := Nat.le_of_ble_eq_true hb
        dsimp only [cond_true] at h
        split at h
        · rename_i kd n1 sg1 i j z hdd hi hj hz
          cases hb1 : sgB env sg1
          · rw [hb1] at h; cases h
          · rw [hb1] at h
            dsimp only [cond_true] at h
            cases hb2 : Nat.blt is 13
            · rw [hb2] at h
              dsimp only [cond_false] at h
              split at h
              · rename_i ks n0 sg0 hss
                cases hb3 : sgB env sg0 && (ile 0 i.1 && ile 0 j.1 && ile 0 z.1 && ile (z.2 + i.2) n0 && ile (j.2 + i.2) n1)
                · rw [hb3] at h; cases h
                · rw [hb3] at h
                  cases h
                  rw [Bool.and_eq_true] at hb3
                  exact g_copyB X hd hw hl.2.2.2.2.1.1 hl.2.2.2.2.1.2.1 hl.2.2.2.2.1.2.2 hs8 hss hdd hb3.1 hb1 hi hj hz hb3.2 (kk _ List.mem_cons_self)
              · cases h
            · rw [hb2] at h
              dsimp only [cond_true] at h
              cases hb4 : Nat.ble 5 is
              · rw [hb4] at h; cases h
              · rw [hb4] at h
                have hj5 := Nat.le_of_ble_eq_true hb4
                dsimp only [cond_true] at h
                split at h
                · rename_i b hB
                  cases hb3 : (ile 0 i.1 && ile 0 j.1 && ile 0 z.1 && ile (z.2 + i.2) b.length && ile (j.2 + i.2) n1 && bIn b (-128) 127)
                  · rw [hb3] at h; cases h
                  · rw [hb3] at h
                    cases h
                    obtain ⟨k, rfl⟩ : ∃ k, is = 5 + k := ⟨is - 5, by omega⟩
                    rw [show 5 + k - 5 = k by omega] at hB
                    exact g_copyC X hd hw hl.2.2.2.2.1.1 hl.2.2.2.2.1.2.1 hl.2.2.2.2.1.2.2 hs8 hB hdd hb1 hi hj hz hb3 (kk _ List.mem_cons_self)
                · cases h
        · cases h
    · cases h
  · cases h
theorem eCx_mono {a1 : List Nat} (X : eCx p R s m args c D ca A nL own cc a0) (h : a0 <+: a1) : eCx p R s m args c D ca A nL own (id cc) a1 := by
  obtain ⟨x1, x2, x3, x4, x5, x6, x7, x8, x9, x10, x11, x12⟩ := X
  exact ⟨x1, x2, x3, x4, x5, x6, x7, x8, x9, x10, x11, cpx_mono h x12⟩
end
end
