noncomputable section
/-! constants: Strings, their bytes, tables of digits; byte copies; references returned -/
section
variable {p : Program} {l : Launch} {e : Env} {R : Room} {s : State} {m : MethodId} {args : Array Value} {below : List Frame} {meth : Method} {c : Code} {Q : State → Prop} {D : va_G} {ca : Nat → ClassId} {A : Nat → Prop} {nL cb sb : Nat} {r0 : List Int} {a0 : List Nat} {own : String} {cc : ByteArray} {env : eEv} {lo : List (Nat × eSV)} {st : List eSV} {hp : eHp} {na : eNa} {nc ns pc : Nat}
theorem c_at (X : eCx p R s m args c D ca A nL own cc a0) {k : Nat} (hk : k < 13) {ρ : List Int} {α : List Nat} {ls : Array Slot} {lvl : List (Nat × Value)} {stk : List Value} {ws : va_W} {H : Heap} {locs : List Loc} (h : eRep s D ca A nL r0 a0 env lo st hp na ρ α ls lvl stk ws H locs) : α[k]? = some (ca (100 + k)) := cpx_mono h.2.1.2.2 X.2.2.2.2.2.2.2.2.2.2.2 k hk
theorem c_sc (X : eCx p R s m args c D ca A nL own cc a0) : SC ca A s s.heap := X.2.2.2.2.2.2.2.2.2.2.1.2
theorem stS_lt {k : Nat} {r : String × Nat × String} (h : stS[k]? = some r) : k < 5 := (List.getElem?_eq_some_iff.mp h).1
theorem stB_lt {k : Nat} {b : List Int} (h : stB[k]? = some b) : k < 7 := (List.getElem?_eq_some_iff.mp h).1
theorem g_ldcC (X : eCx p R s m args c D ca A nL own cc a0) {idx k : Nat} {r : String × Nat × String} (hr : stS[k]? = some r) (ho : r.1 = own) (hi : r.2.1 = idx) (hd : decode cc pc = .ok (.ldc idx, 2)) (kk : eG p l e R s m args below meth c Q D ca A nL cb sb r0 a0 env lo (.inr (.inr (some k)) :: st) hp na nc ns (pc + 2)) : eG p l e R s m args below meth c Q D ca A nL cb sb r0 a0 env lo st hp na nc ns pc := by
  intro ρ α ls lvl stk ws H locs h
  subst ho; subst hi
  have hk := stS_lt hr
  exact va_ldcS X.1 X.2.1 X.2.2.2.1 ((c_sc X).1 k r hr).1 hd (kk ρ α ls lvl _ ws H locs (rep_push h ⟨_, c_at X (by omega) h, rfl⟩))
theorem va_ldcwS {H : Heap} {locs : List Loc} {cells slots : Nat} {ls : Array Slot} {rest : List Value} (hexec : p.tables.exec = Jvm.exec) (hb : c.code = cc) {own tx : String} {index q : Nat} (hown : s.vm.findClass own = some m.cls) (hZ : vk_R own index tx q s) (hdg : decode cc pc = .ok (.ldc_w index, 3))
    (k : W p l e R s m args below meth c H locs cells slots Q (F0 m (pc + 3) ls (.ref q :: rest))) : W p l e R s m args below meth c H locs cells slots Q (F0 m pc ls rest) := by
  intro T hT X
  obtain ⟨t, a1, b1⟩ := k T hT X
  exact ⟨t, X.ldcStringW hexec hown (text := tx) (a := q) hZ.1 hZ.2 (g := F0 m pc ls rest) rfl (by rw [hb]; exact hdg) t a1, b1⟩
theorem g_ldcwC (X : eCx p R s m args c D ca A nL own cc a0) {idx k : Nat} {r : String × Nat × String} (hr : stS[k]? = some r) (ho : r.1 = own) (hi : r.2.1 = idx) (hd : decode cc pc = .ok (.ldc_w idx, 3)) (kk : eG p l e R s m args below meth c Q D ca A nL cb sb r0 a0 env lo (.inr (.inr (some k)) :: st) hp na nc ns (pc + 3)) : eG p l e R s m args below meth c Q D ca A nL cb sb r0 a0 env lo st hp na nc ns pc := by
  intro ρ α ls lvl stk ws H locs h
  subst ho; subst hi
  have hk := stS_lt hr
  exact va_ldcwS X.1 X.2.1 X.2.2.2.1 ((c_sc X).1 k r hr).1 hd (kk ρ α ls lvl _ ws H locs (rep_push h ⟨_, c_at X (by omega) h, rfl⟩))
theorem g_getsR (X : eCx p R s m args c D ca A nL own cc a0) {C n d : String} {idx k : Nat} (hk : k < 13) (hZ : va_Z C n d (.ref (ca (100 + k))) A s s.heap) (hw : Cond.fieldLink own idx C n d ∈ gtbl) (hd : decode cc pc = .ok (.getstatic idx, 3)) (kk : eG p l e R s m args below meth c Q D ca A nL cb sb r0 a0 env lo (.inr (.inr (some k)) :: st) hp na nc ns (pc + 3)) : eG p l e R s m args below meth c Q D ca A nL cb sb r0 a0 env lo st hp na nc ns pc := by
  intro ρ α ls lvl stk ws H locs h
  exact va_gets X.1 X.2.1 hZ h.2.2.2.2.2.2.2.2 X.2.2.2.1 (X.2.2.2.2.1 _ hw) (fun _ q => q) hd (kk ρ α ls lvl _ ws H locs (rep_push h ⟨_, c_at X hk h, rfl⟩))
theorem g_getsN (X : eCx p R s m args c D ca A nL own cc a0) {C n d : String} {idx : Nat} (hZ : va_Z C n d .null A s s.heap) (hw : Cond.fieldLink own idx C n d ∈ gtbl) (hd : decode cc pc = .ok (.getstatic idx, 3)) (kk : eG p l e R s m args below meth c Q D ca A nL cb sb r0 a0 env lo (.inr (.inr none) :: st) hp na nc ns (pc + 3)) : eG p l e R s m args below meth c Q D ca A nL cb sb r0 a0 env lo st hp na nc ns pc := by
  intro ρ α ls lvl stk ws H locs h
  exact va_gets X.1 X.2.1 hZ h.2.2.2.2.2.2.2.2 X.2.2.2.1 (X.2.2.2.2.1 _ hw) (fun _ q => q) hd (kk ρ α ls lvl _ ws H locs (rep_push h rfl))
theorem g_getC (X : eCx p R s m args c D ca A nL own cc a0) {o n d : String} {v : Value} {sv : eSV} {idx k : Nat} (hk : k < 13) (hE : va_OF o n d v (ca (100 + k)) A s s.heap) (hw : Cond.fieldLink own idx o n d ∈ gtbl) (hv : ∀ (ρ : List Int) (α : List Nat), cpx ca α → vok ρ α sv v) (hd : decode cc pc = .ok (.getfield idx, 3)) (kk : eG p l e R s m args below meth c Q D ca A nL cb sb r0 a0 env lo (sv :: st) hp na nc ns (pc + 3)) : eG p l e R s m args below meth c Q D ca A nL cb sb r0 a0 env lo (.inr (.inr (some k)) :: st) hp na nc ns pc := by
  intro ρ α ls lvl stk ws H locs h
  obtain ⟨a, stk', rfl, h1, h2⟩ := rep_popR h
  have e := c_at X hk h2
  rw [h1] at e
  cases e
  exact vk_getf X.1 X.2.1 hE h2.2.2.2.2.2.2.2.2 X.2.2.2.1 (X.2.2.2.2.1 _ hw) (fun _ q => q) hd (kk ρ α ls lvl _ ws H locs (rep_push h2 (hv ρ α (cpx_mono h2.2.1.2.2 X.2.2.2.2.2.2.2.2.2.2.2))))
theorem g_lenC (X : eCx p R s m args c D ca A nL own cc a0) {k : Nat} {b : List Int} (hb : stB[k]? = some b) (hd : decode cc pc = .ok (.arraylength, 1)) (kk : eG p l e R s m args below meth c Q D ca A nL cb sb r0 a0 env lo (.inl (fc (b.length : Int)) :: st) hp na nc ns (pc + 1)) : eG p l e R s m args below meth c Q D ca A nL cb sb r0 a0 env lo (.inr (.inr (some (5 + k))) :: st) hp na nc ns pc := by
  intro ρ α ls lvl stk ws H locs h
  obtain ⟨a, stk', rfl, h1, h2⟩ := rep_popR h
  have hk := stB_lt hb
  have e := c_at X (k := 5 + k) (by omega) h2
  rw [h1] at e
  cases e
  have hT := (c_sc X).2.1 k b hb
  rw [show 105 + k = 100 + (5 + k) by omega] at hT
  exact va_tlen X.1 X.2.1 hT h2.2.2.2.2.2.2.2.2 rfl hd (kk ρ α ls lvl _ ws H locs (rep_push h2 ⟨(b.length : Int), fc_ok _, rfl⟩))
/-- which byte of a constant it was -/
def cbF (k : Nat) (f g : eLF) : eFa := (.inr 1000060, [fc (k : Int), f, g])
def bIn (b : List Int) (lo hi : Int) : Bool := b.all (fun z => ile lo z && ile z hi)
theorem bIn_ok {b : List Int} {lo hi : Int} (h : bIn b lo hi = true) {j : Nat} (hj : j < b.length) : ivr (lo, hi) (b.getD j 0) := by
  have h1 := List.all_eq_true.mp h (b.getD j 0) (by rw [List.getD_eq_getElem?_getD, List.getElem?_eq_getElem hj]; exact List.getElem_mem hj)
  rw [Bool.and_eq_true] at h1
  exact ⟨ile_t h1.1, ile_t h1.2⟩
theorem g_balC (X : eCx p R s m args c D ca A nL own cc a0) {k : Nat} {b : List Int} {f : eLF} {i : Int × Int} {lo_ hi_ : Int} (hb : stB[k]? = some b) (hi : irg env f = some i) (hx : ((ile 0 i.1 || loF env na.2 f 0) && (ile (i.2 + 1) b.length || upF env na.2 f ((b.length : Int) - 1))) = true) (hB : bIn b lo_ hi_ = true) (hlh : mnL ≤ lo_ ∧ hi_ ≤ mxL) (hd : decode cc pc = .ok (.baload, 1)) (kk : eG p l e R s m args below meth c Q D ca A nL cb sb r0 a0 (fr env lo_ hi_).1 lo (.inl (fr env lo_ hi_).2 :: st) hp (adF na [cbF k f (fr env lo_ hi_).2]) nc ns (pc + 1)) : eG p l e R s m args below meth c Q D ca A nL cb sb r0 a0 env lo (.inl f :: .inr (.inr (some (5 + k))) :: st) hp na nc ns pc := by
  intro ρ α ls lvl stk ws H locs h
  obtain ⟨x, stk1, rfl, hxx, h0⟩ := rep_popI h
  obtain ⟨a, stk', rfl, h1, h2⟩ := rep_popR h0
  have hk := stB_lt hb
  have e := c_at X (k := 5 + k) (by omega) h2
  rw [h1] at e
  cases e
  have hT := (c_sc X).2.1 k b hb
  rw [show 105 + k = 100 + (5 + k) by omega] at hT
  obtain ⟨y1, y2⟩ := irg_ok h.1 hi hxx
  rw [Bool.and_eq_true, Bool.or_eq_true, Bool.or_eq_true] at hx
  have y3 := y1.1
  have y4 := y1.2
  have z1 : 0 ≤ x := by
    rcases hx.1 with z | z
    · have := ile_t z; omega
    · exact loF_ok h.1 h.2.1.1.2 hxx z
  have z2 : x + 1 ≤ b.length := by
    rcases hx.2 with z | z
    · have := ile_t z; omega
    · have := upF_ok h.1 h.2.1.1.2 hxx z; omega
  have g1 : vp_in (Int32.ofInt x) b.length := vp_in_iff.mpr (by rw [y2]; omega)
  have g2 := eclamp y2
  have g3 : x.toNat < b.length := by omega
  obtain ⟨σ, s1, s2⟩ := fr_ok h.1 (bIn_ok hB g3) ⟨Int.le_trans hlh.1 (bIn_ok hB g3).1, Int.le_trans (bIn_ok hB g3).2 hlh.2⟩
  have hF : fOk (ρ ++ σ) [cbF k f (fr env lo_ hi_).2] := fun G hG => by
    rcases List.mem_cons.mp hG with rfl | hG
    · refine ⟨[(k : Int), x, b.getD x.toNat 0], ⟨fc_ok _, lfv_mono σ hxx, s2, trivial⟩, (bxS_t (t := 60)).mpr ?_⟩
      rw [PR3 (by decide)]
      show pCb (k : Int) x (b.getD x.toNat 0)
      intro e
      have ek : k = 0 := by omega
      subst ek
      have eb : some kwX = some b := hb
      cases eb
      exact ⟨z1, rfl⟩
    · cases hG
  exact va_tb X.1 X.2.1 hT h2.2.2.2.2.2.2.2.2 g1 rfl hd (kk (ρ ++ σ) α ls lvl _ ws H locs (rep_addFs (rep_push (rep_env h2 s1) ⟨_, s2, by rw [g2]⟩) hF))
/-- bytes in their range -/
def sgB (env : eEv) (sg : eSg) : Bool := sg.all (fun q => match q.2 with
  | .inl (.inl i) => ile (-128) i.1 && ile i.2 127
  | .inl (.inr (.inl f)) => (match irg env f with
    | some i => ile (-128) i.1 && ile i.2 127
    | none => false)
  | _ => false)
theorem sga_mem : ∀ {sg : eSg} {j : Nat} {x : eEl}, sga sg j = some x → ∃ q ∈ sg, ∃ k, pcA q.2 k = x
  | [], j, x, h => by cases h
  | q :: t, j, x, h => by
    rcases Nat.lt_or_ge j q.1 with g | g
    · have e1 : sga (q :: t) j = some (pcA q.2 j) := sga_lt g
      rw [e1] at h
      cases h
      exact ⟨q, List.mem_cons_self, j, rfl⟩
    · have e1 : sga (q :: t) j = sga t (j - q.1) := sga_ge g
      rw [e1] at h
      obtain ⟨q', h1, k, h2⟩ := sga_mem h
      exact ⟨q', List.mem_cons_of_mem _ h1, k, h2⟩
theorem sgB_ok {ρ : List Int} (hE : eOk env ρ) {sg : eSg} (h : sgB env sg = true) {n : Nat} {F : Nat → Int32} (hF : ∀ j, j < n → ∃ x, sga sg j = some x ∧ eli ρ x (F j)) {j : Nat} (hj : j < n) : ivr (-128, 127) (F j).toInt := by
  obtain ⟨x, h1, h2⟩ := hF j hj
  obtain ⟨q, h3, kq, rfl⟩ := sga_mem h1
  have h4 := List.all_eq_true.mp h q h3
  split at h4
  · rename_i i hi
    rw [hi] at h2
    replace h2 : ivr i (F j).toInt := h2
    rw [Bool.and_eq_true] at h4
    exact ⟨Int.le_trans (ile_t h4.1) h2.1, Int.le_trans h2.2 (ile_t h4.2)⟩
  · rename_i f hf
    rw [hf] at h2
    replace h2 : ∃ y, lfv ρ f y ∧ F j = Int32.ofInt y := h2
    split at h4
    · rename_i i hi
      obtain ⟨y, y1, y2⟩ := h2
      obtain ⟨z1, z2⟩ := irg_ok hE hi y1
      rw [Bool.and_eq_true] at h4
      rw [y2, z2]
      exact ⟨Int.le_trans (ile_t h4.1) z1.1, Int.le_trans z1.2 (ile_t h4.2)⟩
    · cases h4
  · cases h4
theorem fitsB {x : Int32} (h : ivr (-128, 127) x.toInt) : fits .byte (.int x) = true := by
  unfold fits
  have h1 := h.1
  have h2 := h.2
  have e1 : (-128 : Int32) ≤ x := by rw [Int32.le_iff_toInt_le]; exact h1
  have e2 : x ≤ (127 : Int32) := by rw [Int32.le_iff_toInt_le]; exact h2
  simp [e1, e2]
theorem cl0 {x : Int} {i : Int × Int} (h : ivr i x) (h0 : 0 ≤ i.1) (e : (Int32.ofInt x).toInt = x) : ¬ Int32.ofInt x < 0 := by
  rw [Int32.lt_iff_toInt_lt, e]
  have := h.1
  show ¬ x < 0
  omega
theorem sga_one {n j : Nat} {x : eEl} (hj : j < n) : sga [(n, .inl x)] j = some x := sga_lt1 hj
theorem cpyB {n : Nat} {f g : Nat → Int32} {a b c : Nat} (hf : ∀ j, a ≤ j → j < a + c → ivr (-128, 127) (f j).toInt) (hg : ∀ j, j < n → ivr (-128, 127) (g j).toInt) {ρ : List Int} : ∀ j, j < n → ∃ x, sga [(n, (.inl (.inl (-128, 127)) : ePc))] j = some x ∧ eli ρ x (va_cpy f g a b c j) := by
  intro j hj
  refine ⟨_, sga_one hj, ?_⟩
  show ivr (-128, 127) _
  unfold va_cpy
  split
  · rename_i hc
    exact hf _ (by omega) (by omega)
  · exact hg j hj
theorem g_copyC (X : eCx p R s m args c D ca A nL own cc a0) {idx k id kd n1 : Nat} {b : List Int} {sg1 : eSg} {f fd fs : eLF} {i j z : Int × Int} (hd : decode cc pc = .ok (.invokestatic idx, 3)) (hw : Cond.methodLink own idx arraycopyName ∈ gtbl) (hw1 : Cond.native arraycopyName ∈ gtbl) (hw2 : Cond.static arraycopyName ∈ gtbl) (hw3 : Cond.initialized "java/lang/System" ∈ gtbl) (hst : (st.map ecat).sum ≤ 8) (hb : stB[k]? = some b) (hdd : hfd id hp 0 = some (kd, .inr (.inl (0, n1, sg1)))) (hs1 : sgB env sg1 = true) (hi : irg env f = some i) (hj : irg env fd = some j) (hz : irg env fs = some z)
    (hq : (ile 0 i.1 && ile 0 j.1 && ile 0 z.1 && ile (z.2 + i.2) b.length && ile (j.2 + i.2) n1 && bIn b (-128) 127) = true) (kk : eG p l e R s m args below meth c Q D ca A nL cb sb r0 a0 env lo st (hp.set kd (id, .inr (.inl (0, n1, [(n1, .inl (.inl (-128, 127)))])))) na nc ns (pc + 3)) : eG p l e R s m args below meth c Q D ca A nL cb sb r0 a0 env lo (.inl f :: .inl fd :: .inr (.inr (some id)) :: .inl fs :: .inr (.inr (some (5 + k))) :: st) hp na nc ns pc := by
  intro ρ α ls lvl stk ws H locs hh
  obtain ⟨x, stk1, rfl, hx, h1⟩ := rep_popI hh
  obtain ⟨y, stk2, rfl, hy, h2⟩ := rep_popI h1
  obtain ⟨a, stk3, rfl, ha, h3⟩ := rep_popR h2
  obtain ⟨v, stk4, rfl, hv, h4⟩ := rep_popI h3
  obtain ⟨c0, stk5, rfl, hc, h5⟩ := rep_popR h4
  have hk := stB_lt hb
  have e := c_at X (k := 5 + k) (by omega) h5
  rw [hc] at e
  cases e
  have hT := (c_sc X).2.1 k b hb
  rw [show 105 + k = 100 + (5 + k) by omega] at hT
  obtain ⟨u, v1, Fd, rfl, v2⟩ := rep_cell h5 hdd ha
  obtain ⟨x1, x2⟩ := irg_ok h5.1 hi hx
  obtain ⟨y1, y2⟩ := irg_ok h5.1 hj hy
  obtain ⟨z1, z2⟩ := irg_ok h5.1 hz hv
  simp only [Bool.and_eq_true] at hq
  obtain ⟨⟨⟨⟨⟨q1, q2⟩, q3⟩, q4⟩, q5⟩, q6⟩ := hq
  have r1 := ile_t q1
  have r2 := ile_t q2
  have r3 := ile_t q3
  have r4 := ile_t q4
  have r5 := ile_t q5
  have w1 := x1.1
  have w2 := x1.2
  have w3 := y1.1
  have w4 := y1.2
  have w5 := z1.1
  have w6 := z1.2
  have e := sum_cat h5.2.2.2.2.1
  have hr := X.2.2.2.2.2.2.2.2.2.1
  have c1 := eclamp x2
  have c2 := eclamp y2
  have c3 := eclamp z2
  have hlt : ∀ j, j < b.length → ivr (-128, 127) (Int32.ofInt (b.getD j 0)).toInt := fun j hj => by
    have g := bIn_ok q6 hj
    have g1 := g.1
    have g2 := g.2
    have e3 : (Int32.ofInt (b.getD j 0)).toInt = b.getD j 0 := Int32.toInt_ofInt_of_le (by simp only [] at g1; omega) (by simp only [] at g2; omega)
    rw [e3]
    exact g
  refine vk_copyt X.1 X.2.1 (by rw [X.2.2.1, h5.2.2.1.1]) X.2.2.2.1 (X.2.2.2.2.1 _ hw) (X.2.2.2.2.1 _ hw1) (X.2.2.2.2.1 _ hw2) (X.2.2.2.2.1 _ hw3) X.2.2.2.2.2.1 h5.2.2.2.2.2.2.1 h5.2.2.2.2.2.2.2.1 h5.2.2.2.2.2.2.2.2 hT kd 0 v1 rfl (cl0 z1 r3 z2) (cl0 y1 r2 y2) (cl0 x1 r1 x2) ?_ ?_ ?_ X.2.2.2.2.2.2.2.2.1 (by rw [nfw]; omega) hd (fun H1 locs1 gP gD gS => ?_)
  · show _ + _ ≤ b.length; rw [c1, c3]; omega
  · show _ + _ ≤ n1; rw [c1, c2]; omega
  · intro t ht
    rw [c1] at ht
    exact fitsB (hlt _ (by rw [c3]; omega))
  · refine kk ρ α ls lvl stk5 _ H1 locs1 (rep_set h5 hdd ha ⟨_, rfl, ?_, cdO_none (cdG_inl _ _ _)⟩ gP gD gS)
    refine cpyB (fun j h6 h7 => hlt j ?_) (fun j h6 => sgB_ok h5.1 hs1 v2.1 h6)
    rw [c1, c3] at h7
    omega
theorem g_copyB (X : eCx p R s m args c D ca A nL own cc a0) {idx is id ks kd n0 n1 : Nat} {sg0 sg1 : eSg} {f fd fs : eLF} {i j z : Int × Int} (hd : decode cc pc = .ok (.invokestatic idx, 3)) (hw : Cond.methodLink own idx arraycopyName ∈ gtbl) (hw1 : Cond.native arraycopyName ∈ gtbl) (hw2 : Cond.static arraycopyName ∈ gtbl) (hw3 : Cond.initialized "java/lang/System" ∈ gtbl) (hst : (st.map ecat).sum ≤ 8) (hss : hfd is hp 0 = some (ks, .inr (.inl (0, n0, sg0)))) (hdd : hfd id hp 0 = some (kd, .inr (.inl (0, n1, sg1)))) (hs0 : sgB env sg0 = true) (hs1 : sgB env sg1 = true) (hi : irg env f = some i) (hj : irg env fd = some j) (hz : irg env fs = some z)
    (hq : (ile 0 i.1 && ile 0 j.1 && ile 0 z.1 && ile (z.2 + i.2) n0 && ile (j.2 + i.2) n1) = true) (kk : eG p l e R s m args below meth c Q D ca A nL cb sb r0 a0 env lo st (hp.set kd (id, .inr (.inl (0, n1, [(n1, .inl (.inl (-128, 127)))])))) na nc ns (pc + 3)) : eG p l e R s m args below meth c Q D ca A nL cb sb r0 a0 env lo (.inl f :: .inl fd :: .inr (.inr (some id)) :: .inl fs :: .inr (.inr (some is)) :: st) hp na nc ns pc := by
  intro ρ α ls lvl stk ws H locs hh
  obtain ⟨x, stk1, rfl, hx, h1⟩ := rep_popI hh
  obtain ⟨y, stk2, rfl, hy, h2⟩ := rep_popI h1
  obtain ⟨a, stk3, rfl, ha, h3⟩ := rep_popR h2
  obtain ⟨v, stk4, rfl, hv, h4⟩ := rep_popI h3
  obtain ⟨b, stk5, rfl, hb, h5⟩ := rep_popR h4
  obtain ⟨u, u1, Fs, rfl, u2⟩ := rep_cell h5 hss hb
  obtain ⟨u, v1, Fd, rfl, v2⟩ := rep_cell h5 hdd ha
  obtain ⟨x1, x2⟩ := irg_ok h5.1 hi hx
  obtain ⟨y1, y2⟩ := irg_ok h5.1 hj hy
  obtain ⟨z1, z2⟩ := irg_ok h5.1 hz hv
  simp only [Bool.and_eq_true] at hq
  obtain ⟨⟨⟨⟨q1, q2⟩, q3⟩, q4⟩, q5⟩ := hq
  have r1 := ile_t q1
  have r2 := ile_t q2
  have r3 := ile_t q3
  have r4 := ile_t q4
  have r5 := ile_t q5
  have w1 := x1.1
  have w2 := x1.2
  have w3 := y1.1
  have w4 := y1.2
  have w5 := z1.1
  have w6 := z1.2
  have e := sum_cat h5.2.2.2.2.1
  have hr := X.2.2.2.2.2.2.2.2.2.1
  have c1 := eclamp x2
  have c2 := eclamp y2
  have c3 := eclamp z2
  refine va_copyi X.1 X.2.1 (by rw [X.2.2.1, h5.2.2.1.1]) X.2.2.2.1 (X.2.2.2.2.1 _ hw) (X.2.2.2.2.1 _ hw1) (X.2.2.2.2.1 _ hw2) (X.2.2.2.2.1 _ hw3) X.2.2.2.2.2.1 h5.2.2.2.2.2.2.1 h5.2.2.2.2.2.2.2.1 h5.2.2.2.2.2.2.2.2 ks kd 0 0 u1 v1 rfl rfl rfl (cl0 z1 r3 z2) (cl0 y1 r2 y2) (cl0 x1 r1 x2) ?_ ?_ ?_ X.2.2.2.2.2.2.2.2.1 (by rw [nfw]; omega) hd (fun H1 locs1 gP gD gS => ?_)
  · show _ + _ ≤ n0; rw [c1, c3]; omega
  · show _ + _ ≤ n1; rw [c1, c2]; omega
  · intro t ht
    rw [c1] at ht
    exact fitsB (sgB_ok h5.1 hs0 u2.1 (show _ < n0 by rw [c3]; omega))
  · refine kk ρ α ls lvl stk5 _ H1 locs1 (rep_set h5 hdd ha ⟨_, rfl, ?_, cdO_none (cdG_inl _ _ _)⟩ gP gD gS)
    refine cpyB (fun j h6 h7 => sgB_ok h5.1 hs0 u2.1 ?_) (fun j h6 => sgB_ok h5.1 hs1 v2.1 h6)
    show j < n0
    rw [c1, c3] at h7
    omega
theorem g_ifnn (X : eCx p R s m args c D ca A nL own cc a0) {o : Int} {i t : Nat} (hd : decode cc pc = .ok (.ifnonnull o, 3)) (ht : (pc : Int) + o = (t : Int)) (kk : eG p l e R s m args below meth c Q D ca A nL cb sb r0 a0 env lo st hp na nc ns t) : eG p l e R s m args below meth c Q D ca A nL cb sb r0 a0 env lo (.inr (.inr (some i)) :: st) hp na nc ns pc := by
  intro ρ α ls lvl stk ws H locs h
  obtain ⟨a, stk', rfl, h1, h2⟩ := rep_popR h
  exact lv_ifnonnull X.1 X.2.1 hd ht (kk ρ α ls lvl _ ws H locs h2)
theorem g_callC (X : eCx p R s m args c D ca A nL own cc a0) {K : eK} {q : MethodName × ByteArray × Nat × Option FieldType} {idx i n : Nat} {as' : List eSV} {τ : List eTi} {θ ks : List Nat} (hK : KMet l D ca K) (hq : mtab[K.1]? = some q) (hd : decode cc pc = .ok (.invokevirtual idx, 3))
    (hcn : q.1.cls = "java/lang/String") (hi5 : i < 5) (hw1 : Cond.methodLink own idx q.1 ∈ gtbl) (hw2 : Cond.instanceMethod q.1 ∈ gtbl) (hw3 : Cond.selects q.1.cls q.1 q.1 ∈ gtbl) (hw4 : Cond.initialized q.1.cls ∈ gtbl) (hmd : mdOk q.1 n) (hn : as'.length = n) (hst : (st.map ecat).sum ≤ 8)
    (hR : K.2.2.2.2.2 + 1 ≤ R.frames ∧ 8 + (q.2.2.1 + 11) + 60 * K.2.2.2.2.2 ≤ R.locals) (hC : cb + nc + K.2.2.2.1 ≤ R.cells ∧ sb + ns + K.2.2.2.2.1 ≤ R.slots)
    (hm1 : mtE env na.2 τ K.2.1.1 = true) (hm2 : mtA na.1 θ = true) (hm3 : θ.length = K.2.1.2.2.2.1) (hm4 : vsmt τ θ (as' ++ [(Sum.inr (Sum.inr (some i)) : eSV)]).reverse K.2.1.2.1 = true) (hm5 : hmt env τ θ hp K.2.1.2.2.1 = some ks) (hm6 : va_nd ks = true) {hs : List (List Nat)} (hm7 : fmt env na.2 τ hs K.2.1.2.2.2.2 = true)
    (kk : ∀ P ∈ K.2.2.1, ∃ r, inst env hp na τ θ ks P = some r ∧ ∀ S, r = some S → eG p l e R s m args below meth c Q D ca A nL cb sb r0 a0 S.1 lo (S.2.1 ++ st) S.2.2.1 S.2.2.2 (nc + K.2.2.2.1) (ns + K.2.2.2.2.1) (pc + 3)) : eG p l e R s m args below meth c Q D ca A nL cb sb r0 a0 env lo (as' ++ .inr (.inr (some i)) :: st) hp na nc ns pc := by
  have e0 : as' ++ (Sum.inr (Sum.inr (some i)) : eSV) :: st = (as' ++ [(Sum.inr (Sum.inr (some i)) : eSV)]) ++ st := by simp
  rw [e0]
  refine g_core X.2.2.2.2.2.2.2.1 X.2.2.2.2.2.2.2.2.2.2.2 hm1 hm2 hm3 hm4 hm5 hm6 hm7 (fun ρ ρT α αT ls lvl av rest ws wc H locs hrep hrest har hE ha hav hh hDc hPc hFc hcp => ?_) kk
  obtain ⟨x1, x2, e1, h1, h2⟩ := R2.appI har
  obtain ⟨b, t, rfl, ⟨b', hb1, rfl⟩, ht⟩ := R2.cons_inv h2
  rw [R2.nil_inv ht] at e1
  have e2 : av = .ref b' :: x1.reverse := by
    have := congrArg List.reverse e1
    simpa using this
  subst e2
  have hM := hK q hq ρT αT wc H.size _ hE ha hav hh hDc hcp
  have eb := c_at X (k := i) (by omega) hrep
  rw [hb1] at eb
  cases eb
  obtain ⟨r, hr⟩ : ∃ r, stS[i]? = some r := ⟨_, List.getElem?_eq_getElem (l := stS) (by show i < 5; exact hi5)⟩
  have hO := (((c_sc X).1 i r hr).2.1).kept hrep.2.2.2.2.2.2.2.2.2.1
  have hG : GoodIn gtbl (wsV own idx "java/lang/String" q.1 (.code q.1 q.2.1 q.2.2.1 q.2.2.2 :: gtbl)) := goodG (fun w hw => by
    rcases List.mem_append.mp hw with hw | hw
    · simp only [List.mem_cons, List.not_mem_nil, or_false] at hw
      rcases hw with rfl | rfl | rfl | rfl
      · exact hw1
      · exact hw2
      · rw [← hcn]; exact hw3
      · rw [← hcn]; exact hw4
    · rcases List.mem_cons.mp hw with rfl | hw
      · exact mtab_in hq
      · exact hw)
  refine va_runV (As := x1.reverse) (rest := rest) ⟨X.1, X.2.1, X.2.2.1, X.2.2.2.1, X.2.2.2.2.1⟩ hM (cwV n X.2.2.2.2.1 hG rfl rfl rfl ⟨hcn, hmd⟩ hR) ⟨PcK_blind, ?_, pre_ok X hPc hrep.2.2.2.2.2.2.2.2 hFc⟩ rfl ?_ hrep.2.2.1.1 ?_ ?_ hd hC
  · obtain ⟨cell, o1, o2, o3, _⟩ := hO
    exact ⟨cell, o1, o2, o3⟩
  · rw [List.length_reverse, ← R2.len h1, hn]
  · show (Value.ref _ :: x1.reverse).reverse ++ rest = x1.reverse.reverse ++ .ref _ :: rest
    simp
  · exact lv_room (by rw [sum_cat hrest]; exact hst)
theorem g_aret (X : eCx p R s m args c D ca A nL own cc a0) {ρ0 : List Int} {α0 : List Nat} {K : eK} {ws0 : va_W} (hA0 : A = va_A ws0 s.heap.size) (hQ : Q = MQ below (QK D ca K ρ0 α0 ws0 s.heap.size) args s K.2.2.2.1 K.2.2.2.2.1 (va_A ws0 s.heap.size)) (hlocks : meth.locks = false) {rt : FieldType} (hr : meth.sig.returnType = some rt) (hrt : (∃ n, rt = .object n) ∨ ∃ t, rt = .array t) (hp0 : ρ0 <+: r0) (hq0 : α0 <+: a0) (hr0 : ρ0.length = K.2.1.1.1) (ha0 : α0.length = K.2.1.2.2.2.1) {an : Nat × List eTi × List Nat × List (List Nat)} {i : Nat} (hd : decode cc pc = .ok (.areturn, 1)) (hc : cb + nc ≤ K.2.2.2.1) (hs : sb + ns ≤ K.2.2.2.2.1) (hm : rmt K env hp na an (some (.inr (.inr (some i)))) = true) : eG p l e R s m args below meth c Q D ca A nL cb sb r0 a0 env lo [.inr (.inr (some i))] hp na nc ns pc := by
  intro ρ α ls lvl stk ws H locs h
  subst hA0; subst hQ
  obtain ⟨w, stk', rfl, hv, h2⟩ := rep_pop h
  have e := R2.nil_inv h2.2.2.2.2.1
  subst e
  obtain ⟨x, hx, rfl⟩ := id hv
  refine W.widen hc hs ?_
  exact W.aret X.1 X.2.1 hr hrt (Or.inr ⟨_, rfl⟩) (fun t ht _ => rmt_ok h hp0 hq0 hr0 ha0 hm hv t ht) h.2.2.2.2.2.2.2.2.2.2 hd hlocks
theorem g_idivF (X : eCx p R s m args c D ca A nL own cc a0) {f : eLF} {d0 : Int} {r : eEv × eLF} {i q : Int × Int} (hd : decode cc pc = .ok (.idiv, 1)) (h : ibin 3 env f (fc d0) = some r) (hi : irg env f = some i) (hj : irg env (fc d0) = some (d0, d0)) (hq : irg r.1 r.2 = some q) (h0 : ile 0 i.1 = true) (h1 : ile 1 d0 = true)
    (k : eG p l e R s m args below meth c Q D ca A nL cb sb r0 a0 r.1 lo (.inl r.2 :: st) hp (na.1, na.2 ++ [(Sum.inl [[(0, d0 - 1)]], [fsub f (fsc d0 r.2)])]) nc ns (pc + 1)) : eG p l e R s m args below meth c Q D ca A nL cb sb r0 a0 env lo (.inl (fc d0) :: .inl f :: st) hp na nc ns pc := by
  intro ρ α ls lvl stk ws H locs hh
  obtain ⟨y, stk1, rfl, hy, h2⟩ := rep_popI hh
  obtain ⟨x, stk2, rfl, hx, h3⟩ := rep_popI h2
  obtain ⟨⟨σ, z, q1, q2, q3⟩, q4⟩ := ibin_ok 3 h3.1 hx hy h
  refine lv_idiv X.1 X.2.1 hd (q4 (Or.inl rfl)) ?_
  obtain ⟨a1, a2⟩ := irg_ok hh.1 hi hx
  obtain ⟨b1, b2⟩ := irg_ok hh.1 hj hy
  obtain ⟨c1, c2⟩ := irg_ok q1 hq q2
  have e0 := ile_t h0
  have e1 := ile_t h1
  have a3 := a1.1
  have ey : y = d0 := fc_inv hy
  subst ey
  obtain ⟨n, hn, en, n2⟩ := nI_ex (x := Int32.ofInt x) (by rw [a2]; omega)
  obtain ⟨d, hd', ed, d2⟩ := nI_ex (x := Int32.ofInt y) (by rw [b2]; omega)
  have hd0 : 0 < d := by omega
  have ez : z = ((n / d : Nat) : Int) := by
    have : Int32.ofInt z = nI (n / d) := by
      rw [q3, en, ed]
      exact pk_div hn hd0 hd'
    rw [← c2, this, nI_toInt (Nat.lt_of_le_of_lt (Nat.div_le_self n d) hn)]
  have hm : n % d < d := Nat.mod_lt n hd0
  have hdm : d * (n / d) + n % d = n := Nat.div_add_mod n d
  have ex : x = (n : Int) := by omega
  have eyd : y = (d : Int) := by omega
  have hval : x - y * z = ((n % d : Nat) : Int) := by
    rw [ex, eyd, ez]
    have : ((d * (n / d) + n % d : Nat) : Int) = (n : Int) := by rw [hdm]
    push_cast at this ⊢
    omega
  have hr := rep_fact (i := (0, y - 1)) (rep_push (v := .inl r.2) (w := .int (Int32.ofInt z)) (rep_env h3 q1) ⟨z, q2, rfl⟩) (fsub_ok (lfv_mono σ hx) (fsc_ok (k := y) q2)) (by
    rw [hval]
    exact ⟨by show (0 : Int) ≤ _; omega, by show _ ≤ y - 1; omega⟩)
  have := k (ρ ++ σ) α ls lvl _ ws H locs hr
  rw [q3] at this
  exact this
theorem g_idivN (X : eCx p R s m args c D ca A nL own cc a0) {f : eLF} {d0 : Int} {r : eEv × eLF} {i q : Int × Int} (hd : decode cc pc = .ok (.idiv, 1)) (h : ibin 3 env f (fc d0) = some r) (hi : irg env f = some i) (hj : irg env (fc d0) = some (d0, d0)) (hq : irg r.1 r.2 = some q) (h0 : ile i.2 0 = true) (h1 : ile 1 d0 = true)
    (k : eG p l e R s m args below meth c Q D ca A nL cb sb r0 a0 r.1 lo (.inl r.2 :: st) hp (na.1, na.2 ++ [(Sum.inl [[(1 - d0, 0)]], [fsub f (fsc d0 r.2)])]) nc ns (pc + 1)) : eG p l e R s m args below meth c Q D ca A nL cb sb r0 a0 env lo (.inl (fc d0) :: .inl f :: st) hp na nc ns pc := by
  intro ρ α ls lvl stk ws H locs hh
  obtain ⟨y, stk1, rfl, hy, h2⟩ := rep_popI hh
  obtain ⟨x, stk2, rfl, hx, h3⟩ := rep_popI h2
  obtain ⟨⟨σ, z, q1, q2, q3⟩, q4⟩ := ibin_ok 3 h3.1 hx hy h
  refine lv_idiv X.1 X.2.1 hd (q4 (Or.inl rfl)) ?_
  obtain ⟨a1, a2⟩ := irg_ok hh.1 hi hx
  obtain ⟨b1, b2⟩ := irg_ok hh.1 hj hy
  obtain ⟨c1, c2⟩ := irg_ok q1 hq q2
  have e0 := ile_t h0
  have e1 := ile_t h1
  have a3 := a1.2
  have ey : y = d0 := fc_inv hy
  subst ey
  have q5 : (Int32.ofInt z).toInt = (Int32.ofInt x / Int32.ofInt y).toInt := by rw [q3]; rfl
  rw [c2, i32_div (by rw [b2]; omega), a2, b2] at q5
  obtain ⟨a, ha, ea⟩ : ∃ a : Int, 0 ≤ a ∧ x = -a := ⟨-x, by omega, by omega⟩
  rw [ea, Int.neg_tdiv, Int.tdiv_eq_ediv_of_nonneg ha] at q5
  have hm := Int.emod_nonneg a (b := y) (by omega)
  have hm2 := Int.emod_lt_of_pos a (b := y) (by omega)
  have hdm := Int.mul_ediv_add_emod a y
  have hval : x - y * z = -(a % y) := by
    rw [q5, ea, Int.mul_neg]
    omega
  have hr := rep_fact (i := (1 - y, 0)) (rep_push (v := .inl r.2) (w := .int (Int32.ofInt z)) (rep_env h3 q1) ⟨z, q2, rfl⟩) (fsub_ok (lfv_mono σ hx) (fsc_ok (k := y) q2)) (by
    rw [hval]
    exact ⟨by show 1 - y ≤ _; omega, by show _ ≤ (0 : Int); omega⟩)
  have := k (ρ ++ σ) α ls lvl _ ws H locs hr
  rw [q3] at this
  exact this
end
end
