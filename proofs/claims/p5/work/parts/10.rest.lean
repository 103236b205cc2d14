noncomputable section
/-! System.arraycopy, switches -/
def ecp (env : eEv) (n0 n1 : Nat) (sg0 sg1 : eSg) (f : eLF) : Option eSg := match irg env f with
  | some i => bif ile 0 i.1 && ile i.2 n0 && ile i.2 n1 then (bif ile n0 i.1 && Nat.beq n0 n1 then some sg0 else (match sgh env 0 (n0 - 1) 0 (sgX 0 (n0 - 1) 0 (cdX sg0)) none with
      | some q => (match sgj env 0 (n1 - 1) q 0 (sgX 0 (n1 - 1) 0 (cdX sg1)) with
        | some s => some (cdX s)
        | none => none)
      | none => none)) else none
  | none => none
theorem ecp_ok {env : eEv} {ρ : List Int} (hE : eOk env ρ) {n0 n1 : Nat} {sg0 sg1 sg' : eSg} {f : eLF} {x : Int} {F0' F1 : Nat → Int32} (hx : lfv ρ f x) (h0 : ∀ j, j < n0 → ∃ y, sga sg0 j = some y ∧ eli ρ y (F0' j)) (h1 : ∀ j, j < n1 → ∃ y, sga sg1 j = some y ∧ eli ρ y (F1 j)) (h : ecp env n0 n1 sg0 sg1 f = some sg') :
    ¬ Int32.ofInt x < 0 ∧ (Int32.ofInt x).toNatClampNeg ≤ n0 ∧ (Int32.ofInt x).toNatClampNeg ≤ n1 ∧ ∀ j, j < n1 → ∃ z, sga sg' j = some z ∧ eli ρ z (va_cpy F0' F1 0 0 (Int32.ofInt x).toNatClampNeg j) := by
  unfold ecp at h
  split at h
  · rename_i i hi
    obtain ⟨q1, q2⟩ := irg_ok hE hi hx
    have q3 := q1.1
    have q4 := q1.2
    cases hb : ile 0 i.1 && ile i.2 n0 && ile i.2 n1
    · rw [hb] at h; cases h
    · rw [hb] at h
      rw [Bool.and_eq_true, Bool.and_eq_true] at hb
      have g1 := ile_t hb.1.1
      have g2 := ile_t hb.1.2
      have g3 := ile_t hb.2
      have e := eclamp q2
      rw [e]
      refine ⟨by rw [Int32.lt_iff_toInt_lt, q2]; show ¬ x < 0; omega, by omega, by omega, ?_⟩
      dsimp only [cond_true] at h
      cases hb2 : ile n0 i.1 && Nat.beq n0 n1
      · rw [hb2] at h
        dsimp only [cond_false] at h
        split at h
        · rename_i q hq
          split at h
          · rename_i s hs
            cases h
            intro j hj
            obtain ⟨y, y1, y2⟩ := h1 j hj
            obtain ⟨z, z1, z2, z3⟩ := sgj_ok hE (sgX 0 (n1 - 1) 0 (cdX sg1)) 0 hs j ((sgX_at (cdX sg1) 0 _).trans ((sga_cX sg1 j).trans y1)) y2
            refine ⟨z, (sga_cX s j).trans z1, ?_⟩
            unfold va_cpy
            split
            · rename_i hc
              obtain ⟨u, u1, u2⟩ := h0 (0 + (j - 0)) (by omega)
              exact z3 (by omega) (by omega) _ (sgh_ok hE (sgX 0 (n0 - 1) 0 (cdX sg0)) 0 hq _ ((sgX_at (cdX sg0) 0 _).trans ((sga_cX sg0 _).trans u1)) u2 (by omega) (by omega))
            · exact z2
          · cases h
        · cases h
      · rw [hb2] at h
        cases h
        rw [Bool.and_eq_true] at hb2
        have k1 := ile_t hb2.1
        have k2 := Nat.eq_of_beq_eq_true hb2.2
        intro j hj
        unfold va_cpy
        rw [if_pos ⟨Nat.zero_le _, by omega⟩, Nat.zero_add, Nat.sub_zero]
        exact h0 j (by omega)
  · cases h
theorem ecp_cd {env : eEv} {ρ : List Int} (hE : eOk env ρ) {n0 n1 : Nat} {sg0 sg1 sg' : eSg} {f : eLF} {x : Int} {F0' F1 : Nat → Int32} (hx : lfv ρ f x) (h0 : cdO ρ sg0 n0 (fun j => (F0' j).toInt)) (h : ecp env n0 n1 sg0 sg1 f = some sg') :
    cdO ρ sg' n1 (fun j => (va_cpy F0' F1 0 0 (Int32.ofInt x).toNatClampNeg j).toInt) := by
  unfold ecp at h
  split at h
  · rename_i i hi
    obtain ⟨q1, q2⟩ := irg_ok hE hi hx
    have q3 := q1.1
    cases hb : ile 0 i.1 && ile i.2 n0 && ile i.2 n1
    · rw [hb] at h; cases h
    · rw [hb] at h
      dsimp only [cond_true] at h
      cases hb2 : ile n0 i.1 && Nat.beq n0 n1
      · rw [hb2] at h
        dsimp only [cond_false] at h
        split at h
        · split at h
          · cases h
            exact cdO_X _ _ _ _
          · cases h
        · cases h
      · rw [hb2] at h
        cases h
        rw [Bool.and_eq_true] at hb2
        have k1 := ile_t hb2.1
        have k2 := Nat.eq_of_beq_eq_true hb2.2
        have e := eclamp q2
        intro c o hc
        obtain ⟨z, z1, z2⟩ := h0 c o hc
        refine ⟨z, z1, fun j oj hj => ?_⟩
        show dcd j z = (va_cpy F0' F1 0 0 (Int32.ofInt x).toNatClampNeg j).toInt
        rw [e]
        unfold va_cpy
        rw [if_pos ⟨Nat.zero_le _, by omega⟩, Nat.zero_add, Nat.sub_zero]
        exact z2 j oj (by omega)
  · cases h
section
variable {p : Program} {l : Launch} {e : Env} {R : Room} {s : State} {m : MethodId} {args : Array Value} {below : List Frame} {meth : Method} {c : Code} {Q : State → Prop} {D : va_G} {ca : Nat → ClassId} {A : Nat → Prop} {nL cb sb : Nat} {r0 : List Int} {a0 : List Nat} {own : String} {cc : ByteArray} {env : eEv} {lo : List (Nat × eSV)} {st : List eSV} {hp : eHp} {na : eNa} {nc ns pc : Nat}
theorem nfw : nativeFrameWords "java/lang/System" "arraycopy" 5 = 7 := by decide
theorem g_copyi (X : eCx p R s m args c D ca A nL own cc a0) {idx is id ks kd n0 n1 : Nat} {sg0 sg1 sg' : eSg} {f : eLF} (hd : decode cc pc = .ok (.invokestatic idx, 3)) (hw : Cond.methodLink own idx arraycopyName ∈ gtbl) (hw1 : Cond.native arraycopyName ∈ gtbl) (hw2 : Cond.static arraycopyName ∈ gtbl) (hw3 : Cond.initialized "java/lang/System" ∈ gtbl) (hst : (st.map ecat).sum ≤ 8) (hs : hfd is hp 0 = some (ks, .inr (.inl (1, n0, sg0)))) (hdd : hfd id hp 0 = some (kd, .inr (.inl (1, n1, sg1)))) (h : ecp env n0 n1 sg0 sg1 f = some sg')
    (kk : eG p l e R s m args below meth c Q D ca A nL cb sb r0 a0 env lo st (hp.set kd (id, .inr (.inl (1, n1, sg')))) na nc ns (pc + 3)) : eG p l e R s m args below meth c Q D ca A nL cb sb r0 a0 env lo (.inl f :: .inl (fc 0) :: .inr (.inr (some id)) :: .inl (fc 0) :: .inr (.inr (some is)) :: st) hp na nc ns pc := by
  intro ρ α ls lvl stk ws H locs hh
  obtain ⟨x, stk1, rfl, hx, h1⟩ := rep_popI hh
  obtain ⟨y, stk2, rfl, hy, h2⟩ := rep_popI h1
  obtain ⟨a, stk3, rfl, ha, h3⟩ := rep_popR h2
  obtain ⟨z, stk4, rfl, hz, h4⟩ := rep_popI h3
  obtain ⟨b, stk5, rfl, hb, h5⟩ := rep_popR h4
  have e1 := fc_inv hy
  have e2 := fc_inv hz
  subst e1; subst e2
  obtain ⟨u, u1, Fs, rfl, u2⟩ := rep_cell h5 hs hb
  obtain ⟨u, v1, Fd, rfl, v2⟩ := rep_cell h5 hdd ha
  obtain ⟨q1, q2, q3, q4⟩ := ecp_ok h5.1 hx u2.1 v2.1 h
  have q5 := ecp_cd (F1 := Fd) h5.1 hx u2.2 h
  have e := sum_cat h5.2.2.2.2.1
  have hr := X.2.2.2.2.2.2.2.2.2.1
  refine va_copyi X.1 X.2.1 (by rw [X.2.2.1, h5.2.2.1.1]) X.2.2.2.1 (X.2.2.2.2.1 _ hw) (X.2.2.2.2.1 _ hw1) (X.2.2.2.2.1 _ hw2) (X.2.2.2.2.1 _ hw3) X.2.2.2.2.2.1 h5.2.2.2.2.2.2.1 h5.2.2.2.2.2.2.2.1 h5.2.2.2.2.2.2.2.2 ks kd 1 1 u1 v1 rfl rfl rfl (by decide) (by decide) q1 ?_ ?_ (fun _ _ => rfl) X.2.2.2.2.2.2.2.2.1 (by rw [nfw]; omega) hd (fun H1 locs1 gP gD gS => ?_)
  · show 0 + _ ≤ n0; rw [Nat.zero_add]; exact q2
  · show 0 + _ ≤ n1; rw [Nat.zero_add]; exact q3
  · exact kk ρ α ls lvl stk5 _ H1 locs1 (rep_set h5 hdd ha ⟨_, rfl, q4, q5⟩ gP gD gS)
theorem g_copyl (X : eCx p R s m args c D ca A nL own cc a0) {idx is id ks kd n0 n1 : Nat} {sg0 sg1 : eSg} {f : eLF} {i : Int × Int} (hd : decode cc pc = .ok (.invokestatic idx, 3)) (hw : Cond.methodLink own idx arraycopyName ∈ gtbl) (hw1 : Cond.native arraycopyName ∈ gtbl) (hw2 : Cond.static arraycopyName ∈ gtbl) (hw3 : Cond.initialized "java/lang/System" ∈ gtbl) (hst : (st.map ecat).sum ≤ 8) (hs : hfd is hp 0 = some (ks, .inr (.inr (.inl (n0, sg0))))) (hdd : hfd id hp 0 = some (kd, .inr (.inr (.inl (n1, sg1))))) (hi : irg env f = some i) (hb : (ile n0 i.1 && ile i.2 n0 && Nat.beq n0 n1) = true)
    (kk : eG p l e R s m args below meth c Q D ca A nL cb sb r0 a0 env lo st (hp.set kd (id, .inr (.inr (.inl (n1, sg0))))) na nc ns (pc + 3)) : eG p l e R s m args below meth c Q D ca A nL cb sb r0 a0 env lo (.inl f :: .inl (fc 0) :: .inr (.inr (some id)) :: .inl (fc 0) :: .inr (.inr (some is)) :: st) hp na nc ns pc := by
  intro ρ α ls lvl stk ws H locs hh
  obtain ⟨x, stk1, rfl, hx, h1⟩ := rep_popI hh
  obtain ⟨y, stk2, rfl, hy, h2⟩ := rep_popI h1
  obtain ⟨a, stk3, rfl, ha, h3⟩ := rep_popR h2
  obtain ⟨z, stk4, rfl, hz, h4⟩ := rep_popI h3
  obtain ⟨b, stk5, rfl, hb', h5⟩ := rep_popR h4
  have e1 := fc_inv hy
  have e2 := fc_inv hz
  subst e1; subst e2
  obtain ⟨u, u1, Fs, rfl, u2⟩ := rep_cell h5 hs hb'
  obtain ⟨u, v1, Fd, rfl, v2⟩ := rep_cell h5 hdd ha
  obtain ⟨q1, q2⟩ := irg_ok hh.1 hi hx
  have q3 := q1.1
  have q4 := q1.2
  rw [Bool.and_eq_true, Bool.and_eq_true] at hb
  have k1 := ile_t hb.1.1
  have k2 := ile_t hb.1.2
  have k3 := Nat.eq_of_beq_eq_true hb.2
  have e := sum_cat h5.2.2.2.2.1
  have hr := X.2.2.2.2.2.2.2.2.2.1
  have ec := eclamp q2
  refine va_copyl (ty := .long) X.1 X.2.1 (by rw [X.2.2.1, h5.2.2.1.1]) X.2.2.2.1 (X.2.2.2.2.1 _ hw) (X.2.2.2.2.1 _ hw1) (X.2.2.2.2.1 _ hw2) (X.2.2.2.2.1 _ hw3) X.2.2.2.2.2.1 h5.2.2.2.2.2.2.1 h5.2.2.2.2.2.2.2.1 h5.2.2.2.2.2.2.2.2 ks kd 2 2 u1 v1 rfl rfl rfl (by decide) (by decide) (by rw [Int32.lt_iff_toInt_lt, q2]; show ¬ x < 0; omega) ?_ ?_ (fun _ _ => rfl) X.2.2.2.2.2.2.2.2.1 (by rw [nfw]; omega) hd (fun H1 locs1 gP gD gS => ?_)
  · rw [ec]; show 0 + _ ≤ n0; omega
  · rw [ec]; show 0 + _ ≤ n1; omega
  · have eC : ∀ j, j < n1 → va_cpy Fs Fd (Int32.ofInt 0).toNatClampNeg (Int32.ofInt 0).toNatClampNeg (Int32.ofInt x).toNatClampNeg j = Fs j := fun j hj => by
      rw [ec]
      unfold va_cpy
      have e0 : (Int32.ofInt 0).toNatClampNeg = 0 := rfl
      rw [e0, if_pos ⟨Nat.zero_le _, by omega⟩, Nat.zero_add, Nat.sub_zero]
    refine kk ρ α ls lvl stk5 _ H1 locs1 (rep_set h5 hdd ha ⟨_, rfl, fun j hj => ?_, fun c0 o0 hc0 => ?_⟩ gP gD gS)
    · rw [eC j hj]
      exact u2.1 j (by have : j < n1 := hj; omega)
    · obtain ⟨z, z1, z2⟩ := u2.2 c0 o0 hc0
      refine ⟨z, z1, fun j oj hj => ?_⟩
      have e1 := eC j hj
      have e2 := z2 j oj (by have : j < n1 := hj; omega)
      exact e2.trans (congrArg Int64.toInt e1.symm)
/-- switches -/
def tsw (env : eEv) (f : eLF) (pc : Nat) : Int → List Int → List (eEv × Nat)
  | _, [] => []
  | v, o :: r => (match cEq env f (fc v) with
    | some e => (e, ((pc : Int) + o).toNat) :: tsw env f pc (v + 1) r
    | none => tsw env f pc (v + 1) r)
theorem tsw_ok {ρ : List Int} (hE : eOk env ρ) {f : eLF} {x : Int} (hx : lfv ρ f x) : ∀ (r : List Int) (v : Int) (j : Nat) {o : Int}, r[j]? = some o → (Int32.ofInt x).toInt = v + j → ∃ e', (e', ((pc : Int) + o).toNat) ∈ tsw env f pc v r ∧ eOk e' ρ
  | [], v, j, o, h, _ => by simp at h
  | o' :: r, v, 0, o, h, hv => by
    simp only [List.getElem?_cons_zero, Option.some.injEq] at h
    subst h
    have hv' : (Int32.ofInt x).toInt = v := by rw [hv]; simp
    obtain ⟨e', q1, q2⟩ := cEq_ok hE hx (fc_ok v) (by rw [hv', ← hv', Int32.ofInt_toInt])
    refine ⟨e', ?_, q2⟩
    unfold tsw
    rw [q1]
    exact List.mem_cons_self
  | o' :: r, v, j + 1, o, h, hv => by
    simp only [List.getElem?_cons_succ] at h
    obtain ⟨e', q1, q2⟩ := tsw_ok hE hx r (v + 1) j h (by rw [hv]; omega)
    refine ⟨e', ?_, q2⟩
    unfold tsw
    split
    · exact List.mem_cons_of_mem _ q1
    · exact q1
theorem g_tsw (X : eCx p R s m args c D ca A nL own cc a0) {dflt l_ h_ : Int} {offs : Array Int} {len : Nat} {f : eLF} (hd : decode cc pc = .ok (.tableswitch dflt l_ h_ offs, len)) (hsz : (h_ - l_ + 1).toNat = offs.toList.length) (hpos : offs.toList.all (fun o => ile 0 ((pc : Int) + o)) = true) (hpd : ile 0 ((pc : Int) + dflt) = true) (hlr : (Int32.ofInt l_).toInt = l_) (hhr : (Int32.ofInt h_).toInt = h_)
    (kin : ∀ q ∈ tsw env f pc l_ offs.toList, eG p l e R s m args below meth c Q D ca A nL cb sb r0 a0 q.1 lo st hp na nc ns q.2) (k1 : ∀ e', cLt env f (fc l_) = some e' → eG p l e R s m args below meth c Q D ca A nL cb sb r0 a0 e' lo st hp na nc ns ((pc : Int) + dflt).toNat) (k2 : ∀ e', cLt env (fc h_) f = some e' → eG p l e R s m args below meth c Q D ca A nL cb sb r0 a0 e' lo st hp na nc ns ((pc : Int) + dflt).toNat) : eG p l e R s m args below meth c Q D ca A nL cb sb r0 a0 env lo (.inl f :: st) hp na nc ns pc := by
  intro ρ α ls lvl stk ws H locs hh
  obtain ⟨x, stk1, rfl, hx, h1⟩ := rep_popI hh
  have hpd' := ile_t hpd
  by_cases c1 : (Int32.ofInt x).toInt < l_
  · obtain ⟨e', q1, q2⟩ := cLt_ok hh.1 hx (fc_ok l_) (by rw [hlr]; exact c1)
    exact lv_tableOut X.1 X.2.1 hd (Or.inl c1) (by omega) (k1 e' q1 ρ α ls lvl _ ws H locs (rep_env0 h1 q2))
  · by_cases c2 : h_ < (Int32.ofInt x).toInt
    · obtain ⟨e', q1, q2⟩ := cLt_ok hh.1 (fc_ok h_) hx (by rw [hhr]; exact c2)
      exact lv_tableOut X.1 X.2.1 hd (Or.inr c2) (by omega) (k2 e' q1 ρ α ls lvl _ ws H locs (rep_env0 h1 q2))
    · have hj : ((Int32.ofInt x).toInt - l_).toNat < offs.toList.length := by omega
      obtain ⟨o, ho⟩ : ∃ o, offs.toList[((Int32.ofInt x).toInt - l_).toNat]? = some o := ⟨_, List.getElem?_eq_getElem hj⟩
      obtain ⟨e', q1, q2⟩ := tsw_ok (pc := pc) hh.1 hx offs.toList l_ _ ho (by omega)
      have hp0 := ile_t (List.all_eq_true.mp hpos o (List.mem_of_getElem? ho))
      exact lv_tableIn X.1 X.2.1 hd c1 c2 (by rw [← Array.getElem?_toList]; exact ho) (by omega) (kin _ q1 ρ α ls lvl _ ws H locs (rep_env0 h1 q2))
def lsw (f : eLF) (pc : Nat) (dflt : Int) : eEv → List (Int × Int) → List (eEv × Nat)
  | env, [] => [(env, ((pc : Int) + dflt).toNat)]
  | env, q :: r => (match cEq env f (fc q.1), cNe env f (fc q.1) with
    | some e, some e2 => (e, ((pc : Int) + q.2).toNat) :: lsw f pc dflt e2 r
    | some e, none => [(e, ((pc : Int) + q.2).toNat)]
    | none, some e2 => lsw f pc dflt e2 r
    | none, none => [])
theorem lsw_ok {ρ : List Int} {f : eLF} {x : Int} (hx : lfv ρ f x) {dflt : Int} : ∀ (r : List (Int × Int)) {env : eEv}, eOk env ρ → (∀ q ∈ r, (Int32.ofInt q.1).toInt = q.1) → ∃ e', (e', ((pc : Int) + Op.lookupswitch.offset r dflt (Int32.ofInt x).toInt).toNat) ∈ lsw f pc dflt env r ∧ eOk e' ρ
  | [], env, hE, _ => ⟨env, List.mem_cons_self, hE⟩
  | q :: r, env, hE, hr => by
    rw [show q = (q.1, q.2) from rfl, Op.lookupswitch.offset_cons]
    have hq := hr q List.mem_cons_self
    by_cases c : q.1 = (Int32.ofInt x).toInt
    · rw [if_pos c]
      obtain ⟨e', q1, q2⟩ := cEq_ok hE hx (fc_ok q.1) (by rw [hq, c])
      refine ⟨e', ?_, q2⟩
      unfold lsw
      dsimp only
      rw [q1]
      split
      · rename_i h1 _; cases h1; exact List.mem_cons_self
      · rename_i h1 _; cases h1; exact List.mem_cons_self
      · rename_i h1 _; cases h1
      · rename_i h1 _; cases h1
    · rw [if_neg c]
      obtain ⟨e2, q1, q2⟩ := cNe_ok hE hx (fc_ok q.1) (by rw [hq]; exact fun z => c z.symm)
      obtain ⟨e', q3, q4⟩ := lsw_ok hx (dflt := dflt) r q2 (fun z hz => hr z (List.mem_cons_of_mem _ hz))
      refine ⟨e', ?_, q4⟩
      unfold lsw
      dsimp only
      rw [q1]
      split
      · rename_i h1 h2; cases h2; exact List.mem_cons_of_mem _ q3
      · rename_i h1 h2; cases h2
      · rename_i h1 h2; cases h2; exact q3
      · rename_i h1 h2; cases h2
def offsOk (pc : Nat) (dflt : Int) (ps : List (Int × Int)) : Bool := ile 0 ((pc : Int) + dflt) && ps.all (fun q => ile 0 ((pc : Int) + q.2) && ile (Int32.ofInt q.1).toInt q.1 && ile q.1 (Int32.ofInt q.1).toInt)
theorem offs_pos {pc : Nat} {dflt k : Int} : ∀ {ps : List (Int × Int)}, offsOk pc dflt ps = true → 0 ≤ (pc : Int) + Op.lookupswitch.offset ps dflt k
  | [], h => by
    unfold offsOk at h
    rw [Bool.and_eq_true] at h
    exact ile_t h.1
  | q :: r, h => by
    rw [show q = (q.1, q.2) from rfl, Op.lookupswitch.offset_cons]
    unfold offsOk at h
    rw [Bool.and_eq_true, List.all_cons, Bool.and_eq_true, Bool.and_eq_true, Bool.and_eq_true] at h
    split
    · exact ile_t h.2.1.1.1
    · exact offs_pos (ps := r) (by unfold offsOk; rw [Bool.and_eq_true]; exact ⟨h.1, h.2.2⟩)
theorem g_lsw (X : eCx p R s m args c D ca A nL own cc a0) {dflt : Int} {ps : Array (Int × Int)} {len : Nat} {f : eLF} (hd : decode cc pc = .ok (.lookupswitch dflt ps, len)) (hso : (ps.toList.zip (ps.toList.drop 1)).all (fun (a, next) => a.1 < next.1) = true) (hpo : offsOk pc dflt ps.toList = true) (kin : ∀ q ∈ lsw f pc dflt env ps.toList, eG p l e R s m args below meth c Q D ca A nL cb sb r0 a0 q.1 lo st hp na nc ns q.2) : eG p l e R s m args below meth c Q D ca A nL cb sb r0 a0 env lo (.inl f :: st) hp na nc ns pc := by
  intro ρ α ls lvl stk ws H locs hh
  obtain ⟨x, stk1, rfl, hx, h1⟩ := rep_popI hh
  have hr : ∀ q ∈ ps.toList, (Int32.ofInt q.1).toInt = q.1 := by
    intro q hq
    unfold offsOk at hpo
    rw [Bool.and_eq_true] at hpo
    have := List.all_eq_true.mp hpo.2 q hq
    rw [Bool.and_eq_true, Bool.and_eq_true] at this
    exact Int.le_antisymm (ile_t this.1.2) (ile_t this.2)
  obtain ⟨e', q1, q2⟩ := lsw_ok (pc := pc) (dflt := dflt) hx ps.toList hh.1 hr
  have := offs_pos (k := (Int32.ofInt x).toInt) hpo
  exact lv_lookup X.1 X.2.1 hd hso rfl (by omega) (kin _ q1 ρ α ls lvl _ ws H locs (rep_env0 h1 q2))
end
end
