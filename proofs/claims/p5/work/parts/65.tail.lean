/-! THE CLAIM OUT OF ONE WALK OF THE LAW'S BODY. Your part is whole_start (and what it stands on); all else here is the same for every law, but numbers. -/
def R_law : String := "DrownedRoomsLaw"
def lw_P (b : Addr) (xs : List Int32) (args : Array Value) (s : State) : Prop := args = #[.ref b] ∧ s.IntsAt b xs ∧ xs.length ≤ 3072 ∧ (Jvm.Cond.and given_1 narrow_1).before args s = true
def lw_Q (_ : Array Value) (s : State) (o : Outcome) (t : State) : Prop := o = .returned (some (.int 1)) ∧ Framed s o t [] 601024 7293034
def lw_Z (below : List Frame) (a : Array Value) (s : State) : State → Prop := fun t => ∃ o, t.status = .running ∧ Ended t below o ∧ lw_Q a s o t
/-- the law's own end, with 1 on the stack, nothing written that was there before, its room as the claim has it -/
theorem lw_ret {p : Program} {l : Launch} {e : Env} {s : State} {m : MethodId} {below : List Frame} {meth : Method} {c : Code} {b : Nat} (hx : p.tables.exec = Jvm.exec) (hb : c.code = code) (hr : meth.sig.returnType = ret) (hlocks : meth.locks = false) {pc : Nat} {H : Heap} {ls : Array Slot} (hdg : decode code pc = .ok (.ireturn, 1)) : W p l e room_1 s m #[Value.ref b] below meth c H [] 601024 7293034 (lw_Z below #[Value.ref b] s) (F0 m pc ls [.int 1]) := by
  intro T hT X
  obtain ⟨fs, hret, hrun, hended, hW, hframe⟩ := X.leave (v := some (.int 1)) (hlocks := hlocks) (fun h => by rw [hr] at h; cases h)
  have hmeth' : T.vm.method? m = some meth := X.method'
  refine ⟨T.setFrames fs, ?_, .returned (some (.int 1)), hrun, hended, rfl, ⟨_, rfl⟩, hW, hframe⟩
  jvm_step X.here [X.here.top, hx, hb, hdg, hmeth', hr, ret, narrow_b1]
  (try refine ⟨rfl, ?_⟩); (try refine ⟨rfl, ?_⟩)
  first | (intro acts; rw [hret _ acts rfl rfl rfl]) | rw [hret _ _ rfl rfl rfl]
  exact Steps.refl _
/-- what holds at the law's entry: the machine, the code, the tables' words (any of lw_tbl by 'hts w (by decide +kernel)'), the script of L ints xs at the cell b, what the Statement gives of the start (any of its parts by flat_of_before) -/
def lw_At (p : Program) (s : State) (m : MethodId) (meth : Method) (c : Code) (b L : Nat) (xs : Nat → Int32) : Prop :=
  p.tables.exec = Jvm.exec ∧ c.code = code ∧ meth.sig.returnType = ret ∧ c.maxLocals = 7 ∧ s.vm.findClass R_law = some m.cls ∧ (∀ w ∈ lw_tbl, w.before #[Value.ref b] s = true) ∧ va_X b L xs s s.heap ∧ b < s.heap.size ∧ meth.locks = false ∧ (Jvm.Cond.and given_1 narrow_1).before #[Value.ref b] s = true
-- ===== YOUR PART BEGINS =====
def cA (ca : Nat → ClassId) (b : Nat) : List Nat := [ca 100, ca 101, ca 102, ca 103, ca 104, ca 105, ca 106, ca 107, ca 108, ca 109, ca 110, ca 111, ca 112, b]
theorem cA_px (ca : Nat → ClassId) (b : Nat) : cpx ca (cA ca b) := fun k hk => by
  rcases (show k = 0 ∨ k = 1 ∨ k = 2 ∨ k = 3 ∨ k = 4 ∨ k = 5 ∨ k = 6 ∨ k = 7 ∨ k = 8 ∨ k = 9 ∨ k = 10 ∨ k = 11 ∨ k = 12 by omega) with rfl | rfl | rfl | rfl | rfl | rfl | rfl | rfl | rfl | rfl | rfl | rfl | rfl <;> rfl
/-- YOUR PART: from the entry, for every script of at most 3072 ints, the law comes to its end with true -/
theorem whole_start {p : Program} {e : Env} {s : State} {m : MethodId} {below : List Frame} {meth : Method} {c : Code} (l : Launch) (hst : l.stackTraces = false) {b L : Nat} {xs : Nat → Int32} (hL : L ≤ 3072) (C0 : lw_At p s m meth c b L xs) : W p l e room_1 s m #[Value.ref b] below meth c s.heap [] 0 0 (lw_Z below #[Value.ref b] s) (entryFrame m ([Value.ref b] : List Value).toArray 7) := by
  obtain ⟨hx, hb, hr, hml, hown, hts, hX, hbl, hlocks, hgv⟩ := id C0
  have hA : ∀ a : Nat, a < s.heap.size → ¬ (fun q : Nat => s.heap.size ≤ q) a := fun a h => Nat.not_le.mpr h
  have hbA : ¬ (fun q : Nat => s.heap.size ≤ q) b := Nat.not_le.mpr hbl
  obtain ⟨D, ca0, hK0⟩ := st_K hts
  obtain ⟨ca, hca, hSC⟩ := st_C hA hts hgv ca0
  have hK : va_K D vwCl (tys0 ca) s := by rw [hca]; exact hK0
  have hZ : ZW ca (fun q : Nat => s.heap.size ≤ q) s s.heap := ⟨st_Z hA hts hgv, hSC⟩
  have X : eCx p room_1 s m #[Value.ref b] c D ca (fun q : Nat => s.heap.size ≤ q) 7 "DrownedRoomsLaw" code (cA ca b) := ⟨hx, hb, hml, hown, fun w hw => hts w (gt_in hw), hK, st_X hts, fun _ h => h, by decide, by decide, hZ, cA_px ca b⟩
  have hret : ∀ (cb sb : Nat) (r1 : List Int) (a1 : List Nat), cb ≤ 193 + 18 * 3072 → sb ≤ 6242 + 1120 * 3072 → ∀ (a : eAn) (env : eEv) (lo : List (Nat × eSV)) (hp : eHp) (na : eNa) (nc ns pc : Nat) (f : eLF), decode code pc = .ok (.ireturn, 1) → lawB 18 1120 a (env, lo, [.inl f], hp, na, nc, ns, pc) (some (.inl f)) = true → eG p l e room_1 s m #[Value.ref b] below meth c (lw_Z below #[Value.ref b] s) D ca (fun q : Nat => s.heap.size ≤ q) 7 cb sb r1 a1 env lo [.inl f] hp na nc ns pc := by
    intro cb sb r1 a1 hcb hsb a env lo hp na nc ns pc f hd hq
    unfold lawB at hq
    simp only [Bool.and_eq_true] at hq
    obtain ⟨⟨q1, q2⟩, q3⟩ := hq
    have e1 := fbeq_t q1
    subst e1
    intro ρ α ls lvl stk ws H locs hh
    obtain ⟨y, stk', rfl, hy, h2⟩ := rep_popI hh
    have e2 := R2.nil_inv h2.2.2.2.2.1
    subst e2
    have e3 := fc_inv hy
    subst e3
    have q4 : nc ≤ 18 := Nat.le_of_ble_eq_true q2
    have q5 : ns ≤ 1120 := Nat.le_of_ble_eq_true q3
    refine va_forget (fun z hz => h2.2.2.2.2.2.2.2.2.2.2 z hz) (W.widen (k := 601024) (n := 7293034) ?_ ?_ (lw_ret hx hb hr hlocks hd))
    · omega
    · omega
  have hL0 : lfv ((L : Int) :: xs6 xs 0) lLf (L : Int) := by
    show lev ((L : Int) :: xs6 xs 0) [(0, 1)] = some ((L : Int) - 0)
    rw [lev_mk (q := (0, 1)) (x := (L : Int)) (y := 0) rfl rfl]
    congr 1
    show 1 * _ + 0 = _ - 0
    omega
  have hMe : lfv ((L : Int) :: xs6 xs 0) lMe ((L : Int) + 1) := fpl_ok 1 hL0
  obtain ⟨an', hrun⟩ := Option.isSome_iff_exists.mp law_e
  have hstF : ∀ rec : eRc, (∀ an S an', rec an S = some an' → GS p l e room_1 s m #[Value.ref b] below meth c (lw_Z below #[Value.ref b] s) D ca (fun q : Nat => s.heap.size ≤ q) 7 0 0 ((L : Int) :: xs6 xs 0) (cA ca b) S) → ∀ an S an', lstep2 7 46 2760 193 6242 C_law lKS lKW lLf (fc 0) 1 (fun _ _ _ => false) rec an S = some an' → GS p l e room_1 s m #[Value.ref b] below meth c (lw_Z below #[Value.ref b] s) D ca (fun q : Nat => s.heap.size ≤ q) 7 0 0 ((L : Int) :: xs6 xs 0) (cA ca b) S := fun rec hrec =>
    lstep2_ok X hlib (by decide) (by decide) (by decide) (by decide) C_law_ok lKS_ok (lKW_ok hst) (i := 0) hX hbl hbA rfl hL0 (fc_ok 0)
      (fun k hk _ => by
        show ((L : Int) :: xs6 xs 0)[1 + k]? = _
        rw [Nat.add_comm 1 k]
        exact xs6_get xs 0 k hk)
      (fun a env lo hp na nc ns pc hd hq => by cases hq) (fun a env lo hp na nc ns pc f hd hq => by cases hq) ⟨fun a env lo hp na nc ns pc f hd hq => (by cases hq), fun a env lo hp na nc ns pc i hd hq => (by cases hq)⟩ rec hrec
  have G := runF_ok hstF (fun a' S' hc => cut_ok (ρ0 := [(L : Int)]) (α0 := cA ca b) ⟨xs6 xs 0, rfl⟩ (List.prefix_refl _) rfl rfl (fun μ hμ => by cases hμ; exact ⟨_, hMe⟩) hc (fun T hT ρ1 α1 ls1 lvl1 stk1 ws1 H1 locs1 hh hm => by
    rcases List.mem_cons.mp hT with rfl | hT
    · obtain ⟨y, y1, y2⟩ := hm _ _ rfl hMe
      have w := law_loop3 X (Rf := 46) (Rl := 2760) (Mc := 18) (Ms := 1120) (c0 := 193) (s0 := 6242) (by decide) (by decide) (by decide) (by decide) C_law_ok lKS_ok (lKW_ok hst) hX hbl hbA rfl rfl hL lO lZ hret (y.toNat + 1) lT_0 List.mem_cons_self ρ1 α1 ls1 lvl1 stk1 ws1 H1 locs1 hh y y1 (by omega) (by omega)
      exact W.widen (by show 0 + 193 ≤ 193 + _; omega) (by show 0 + 6242 ≤ 6242 + _; omega) w
    · cases hT)) _ _ _ _ hrun
  have hl := lv_entry ([.ref b]) (n := 7) (Nat.le_of_ble_eq_true rfl)
  rw [lg_entry_eq]
  exact G ((L : Int) :: xs6 xs 0) (cA ca b) _ _ [] [] s.heap [] ⟨efu_ok (E := (1, epk [(0, 3072)])) (ρ := [(L : Int)]) ⟨rfl, epk_ok [(0, 3072)] [(L : Int)] (fun x hx => by have h := List.mem_singleton.mp hx; rw [h]; exact ⟨by show (-9223372036854775808 : Int) ≤ _; omega, by show _ ≤ (9223372036854775807 : Int); omega⟩) ⟨⟨Int.natCast_nonneg L, by show (L : Int) ≤ 3072; omega⟩, trivial⟩⟩ xs 0, ⟨⟨rfl, fun F hF => by cases hF⟩, List.prefix_refl _, List.prefix_refl _⟩, hl, ⟨⟨rfl, ⟨b, rfl, rfl⟩⟩, trivial⟩, trivial, trivial, fun k q h => by simp at h, ⟨fun i j p q h => by simp at h, fun k q h => by simp at h⟩, va_S.rf⟩
-- ===== YOUR PART ENDS =====
set_option maxHeartbeats 4000000 in
theorem lw_walk (l : Launch) (hst : l.stackTraces = false) (b : Addr) (xs : List Int32) : MetFree l x (headSpec (Jvm.Cond.code x code maxLocals ret :: tables_1) room_1) (lw_P b xs) (fun _ _ _ _ _ => True) lw_Q := by
  refine MetFree.of_bodyS (code := code) (maxLocals := maxLocals) (ret := ret) (by decide) ?_ ?_
  · intro args s m h hn
    obtain ⟨meth, c, h1, h2, h3, h4, h5, h6, -, -⟩ := Cond.code_spec hn (atoms_spec (ws := Jvm.Cond.code x code maxLocals ret :: tables_1) h _ List.mem_cons_self)
    exact ⟨meth, c, h1, h2, h3, h4, h5, h6⟩
  · intro p e s m args below meth c s₁ B hml0 hP _
    obtain ⟨rfl, hx, hbd, hgv⟩ := hP
    obtain ⟨scr, harrAt, hlist, hof, hsmall⟩ := hx
    obtain ⟨hcb, hkn, -, -⟩ := State.arrayAt?_spec harrAt
    have hown : s.vm.findClass R_law = some m.cls := findClass_of_methodNamed B.named
    have hts0 : ∀ c ∈ (Jvm.Cond.code x code maxLocals ret :: tables_1), c.before #[Value.ref b] s = true := atoms_spec (ws := Jvm.Cond.code x code maxLocals ret :: tables_1) B.pre
    have hts : ∀ w ∈ lw_tbl, w.before #[Value.ref b] s = true := lw_hts (fun w hw => hts0 w (List.mem_cons_of_mem _ hw))
    have hml : c.maxLocals = 7 := B.maxLocals_eq (hts0 _ List.mem_cons_self)
    have X₀ : Stand p l e room_1 s m #[Value.ref b] below meth c s₁ [] 0 0 := Stand.of_body B
    have hh0 : s₁.heap = s.heap := by rw [B.state]; rfl
    have hsz : scr.slots.size = xs.length := by rw [← Array.length_toList, hlist, List.length_map]
    have hval : ∀ j : Nat, j < xs.length → scr.slots[j]? = some (.int (xs.getD j 0)) := fun j hj => by
      rw [← Array.getElem?_toList, hlist]
      simp [hj]
    have hbl : b < s.heap.size := (Array.getElem?_eq_some_iff.mp hcb).1
    have hX : va_X b xs.length (fun j => xs.getD j 0) s s.heap := ⟨scr, hcb, hof, hkn, hsz, hval⟩
    have K : W p l e room_1 s m #[Value.ref b] below meth c s₁.heap [] 0 0 (lw_Z below #[Value.ref b] s) (entryFrame m ([Value.ref b] : List Value).toArray 7) := by
      rw [hh0]
      exact whole_start l hst hbd ⟨B.exec, B.bytes, B.returns, hml, hown, hts, hX, hbl, B.notSynchronized, hgv⟩
    obtain ⟨t, a1, o, b1, b2, b3⟩ := K s₁ rfl X₀
    exact ⟨t, o, a1, b1, b2, b3⟩
theorem lw_pre_spec {args : Array Value} {s : State} (h : (Jvm.Cond.and given_1 narrow_1).before args s = true) (hr : rest_1_c.before args s = true) : ∃ (b : Addr) (xs : List Int32), lw_P b xs args s := by
  have hs := flat_of_before _ h
  have hq := flat_of_before _ hr
  have hc : (Cond.count 1).before args s = true := hs _ (by decide +kernel)
  have harr : (Cond.arrayOf (.arg 0) .int).before args s = true := hs _ (by decide +kernel)
  have hle : (Cond.le (.length (.arg 0)) (.int 3072)).before args s = true := hs _ (by decide +kernel)
  have hlen : (Cond.isInt (.length (.arg 0))).before args s = true := hq _ (by decide +kernel)
  have hall : (Cond.all (.arg 0) (.isInt (.elem (.arg 0) (.index 0)))).before args s = true := hq _ (by decide +kernel)
  obtain ⟨b, xs, hb, hx⟩ := State.ints_of_pre rfl harr hlen hall
  have hsm : xs.length < 2 ^ 31 := hx.choose_spec.2.2.2
  have hev : (Term.length (.arg 0)).eval args s none [] s = some (.int xs.length.toInt32) := hx.length_eval hb
  have hv := Cond.le_ints hev (show (Term.int 3072).eval args s none [] s = some (.int 3072) from rfl)
  have hd : xs.length.toInt32 ≤ 3072 := by
    simpa [Cond.before, Cond.holds, hv] using hle
  have hN : xs.length ≤ 3072 := (Int32.ofNat_le_ofNat hsm (by decide)).mp (show Int32.ofNat xs.length ≤ Int32.ofNat 3072 from hd)
  exact ⟨b, xs, Cond.one_arg hc (show args[0]? = some (.ref b) from hb), hx, hN, h⟩
theorem lw_comes (l : Launch) (hst : l.stackTraces = false) : Comes l x (Jvm.Cond.code x code maxLocals ret :: tables_1) room_1 (fun tb e args s => Calls_1 tb e args s ∧ rest_1 tb e args s ∧ Pre_1 tb e args s)
    (fun _ _ args s o t => lw_Q args s o t) := by
  intro p e ha hc hk s m args below hf hfit hheap happ hpre
  obtain ⟨b, xs, hP⟩ := lw_pre_spec hpre.2.2 hpre.2.1
  obtain ⟨k, o, h1, h2, h3, hQ⟩ := lw_walk l hst b xs p e ha hc hk s m args below hf ((Spec.applies_iff_loose hf).mp happ).1 hP trivial
  exact ⟨k, o, h1, h2, h3, hQ⟩
theorem lw_frame {s t : State} {o : Outcome} {args : Array Value} (h : Framed s o t [] 601024 7293034) :
    Framed s o t (fieldLocs frame_1_writes args s ++ arrayLocs frame_1_arrays args s ++ staticLocs frame_1_statics s) 601024 7293034 := h
theorem lw_limb (L : Cond) (hL : ∀ (args : Array Value) (s t : State), L.after args s (.returned (some (.int 1))) t = true) :
    ArmFor flags0 classFile x code maxLocals ret World_1 tables_1 room_1 Calls_1 rest_1 Pre_1
      (fun tb e a s o t => postC L tb e a s o t ∧ Framed s o t (fieldLocs frame_1_writes a s ++ arrayLocs frame_1_arrays a s ++ staticLocs frame_1_statics s) 601024 7293034) := by
  intro l hfl _ _ p e ha hc hk s m args below hf hfit hheap happ hpre
  obtain ⟨k, o, h1, h2, h3, rfl, hF⟩ := lw_comes l (by unfold Launch.stackTraces; rw [hfl]; decide) p e ha hc hk s m args below hf hfit hheap happ hpre
  exact ⟨k, _, h1, h2, h3, hL args s _, lw_frame hF⟩
theorem i_vc : Claimed_1_1 ∧ Claimed_1_2 := ⟨lw_limb limb_1_1 (fun args s t => by simp [limb_1_1, Cond.after, Cond.holds, Cond.value]), lw_limb limb_1_2 (fun args s t => Cond.after_iff.mpr (by
  first | (rw [show limb_1_2 = Cond.eq .result (.int 1) from rfl, Cond.eq_ints (x := 1) (y := 1) rfl rfl]; simp; done) | (simp [limb_1_2, Cond.value, Term.eval]; done)))⟩
