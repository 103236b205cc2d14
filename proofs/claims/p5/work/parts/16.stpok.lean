noncomputable section
/-! the step is sound -/
section
variable {p : Program} {l : Launch} {e : Env} {R : Room} {s : State} {m : MethodId} {args : Array Value} {below : List Frame} {meth : Method} {c : Code} {Q : State → Prop} {D : va_G} {ca : Nat → ClassId} {A : Nat → Prop} {nL cb sb : Nat} {r0 : List Int} {a0 : List Nat} {own : String} {cc : ByteArray} {env : eEv} {lo : List (Nat × eSV)} {st : List eSV} {hp : eHp} {na : eNa} {nc ns pc : Nat}
set_option maxHeartbeats 4000000 in
theorem stp_ok (X : eCx p R s m args c D ca A nL own cc a0) (hl : libW) {ini : Bool} (hI : ini = true → meth.name = "<init>") {Rc Rs : Nat} (hRc : cb + Rc ≤ R.cells) (hRs : sb + Rs ≤ R.slots) {i : Instr} {len x y : Nat} (hd : decode cc pc = .ok (i, ilen i len)) (hw : rowW own i x y) {L : List eSt} (h : stp ini nL Rc Rs i x y env lo st hp na nc ns pc = some L) (kk : ∀ S ∈ L, GS p l e R s m args below meth c Q D ca A nL cb sb r0 a0 S) : eG p l e R s m args below meth c Q D ca A nL cb sb r0 a0 env lo st hp na nc ns pc := by
  unfold stp at h
  split at h
  · cases h; exact g_iconst X hd (kk _ List.mem_cons_self)
  · cases h; exact g_bipush X hd (kk _ List.mem_cons_self)
  · cases h; exact g_sipush X hd (kk _ List.mem_cons_self)
  · cases h; exact g_lconst X hd (kk _ List.mem_cons_self)
  · cases h; exact g_ldc X hw hd (kk _ List.mem_cons_self)
  · cases h; exact g_ldc2 X hw hd (kk _ List.mem_cons_self)
  · cases h; exact g_ldcw X hw hd (kk _ List.mem_cons_self)
  · split at h
    · rename_i z hz
      cases h
      obtain ⟨z', e1, e2⟩ := hw
      cases hz.symm.trans e1
      exact g_gets X (List.mem_of_getElem? hz) e2 hd (kk _ List.mem_cons_self)
    · cases h
  · split at h
    · split at h
      · rename_i r hr; cases h; exact g_ineg X hd hr (kk _ List.mem_cons_self)
      · cases h
    · cases h
  · obtain ⟨w, q0, q1, q2, q3, q4⟩ := sLd_ok h kk
    obtain ⟨f, rfl⟩ := q2 rfl
    exact g_iload_n X hd q0 q1
  · obtain ⟨w, q0, q1, q2, q3, q4⟩ := sLd_ok h kk
    obtain ⟨f, rfl⟩ := q2 rfl
    exact g_iload X hd q0 q1
  · obtain ⟨w, q0, q1, q2, q3, q4⟩ := sLd_ok h kk
    obtain ⟨f, rfl⟩ := q3 rfl
    exact g_lload_n X hd q0 q1
  · obtain ⟨w, q0, q1, q2, q3, q4⟩ := sLd_ok h kk
    obtain ⟨f, rfl⟩ := q3 rfl
    exact g_lload X hd q0 q1
  · obtain ⟨w, q0, q1, q2, q3, q4⟩ := sLd_ok h kk
    obtain ⟨f, rfl⟩ := q4 rfl
    exact g_aload_n X hd q0 q1
  · obtain ⟨w, q0, q1, q2, q3, q4⟩ := sLd_ok h kk
    obtain ⟨f, rfl⟩ := q4 rfl
    exact g_aload X hd q0 q1
  · obtain ⟨f, st', rfl, q1, q2⟩ := sSt0_ok h kk
    exact g_istore_n X hd q1 q2
  · obtain ⟨f, st', rfl, q1, q2⟩ := sSt0_ok h kk
    exact g_istore X hd q1 q2
  · obtain ⟨f, st', rfl, q1, q2⟩ := sSt1_ok h kk
    exact g_lstore_n X hd q1 q2
  · obtain ⟨f, st', rfl, q1, q2⟩ := sSt1_ok h kk
    exact g_lstore X hd q1 q2
  · obtain ⟨f, st', rfl, q1, q2⟩ := sSt2_ok h kk
    exact g_astore_n X hd q1 q2
  · obtain ⟨f, st', rfl, q1, q2⟩ := sSt2_ok h kk
    exact g_astore X hd q1 q2
  · split at h
    · rename_i f hf
      split at h
      · rename_i r hr
        cases hb : Nat.blt _ nL
        · rw [hb] at h; cases h
        · rw [hb] at h; cases h; exact g_iinc X hd hf (blt_t hb) hr (kk _ List.mem_cons_self)
      · cases h
    · cases h
  · obtain ⟨f, g, st', r, rfl, q1, q2⟩ := sBin_ok h kk
    exact g_iadd X hd q1 q2
  · obtain ⟨f, g, st', r, rfl, q1, q2⟩ := sBin_ok h kk
    exact g_isub X hd q1 q2
  · obtain ⟨f, g, st', r, rfl, q1, q2⟩ := sBin_ok h kk
    exact g_imul X hd q1 q2
  · obtain ⟨f, g, st', r, rfl, q1, q2⟩ := sBin_ok h kk
    exact g_idiv X hd q1 q2
  · obtain ⟨f, g, st', r, rfl, q1, q2⟩ := sBin_ok h kk
    exact g_irem X hd q1 q2
  · obtain ⟨f, g, st', r, rfl, q1, q2⟩ := sBin_ok h kk
    exact g_iand X hd q1 q2
  · obtain ⟨f, g, st', r, rfl, q1, q2⟩ := sBin_ok h kk
    exact g_ior X hd q1 q2
  · obtain ⟨f, g, st', r, rfl, q1, q2⟩ := sBin_ok h kk
    exact g_ixor X hd q1 q2
  · obtain ⟨f, g, st', r, rfl, q1, q2⟩ := sBin_ok h kk
    exact g_ishl X hd q1 q2
  · obtain ⟨f, g, st', r, rfl, q1, q2⟩ := sBin_ok h kk
    exact g_ishr X hd q1 q2
  · obtain ⟨f, g, st', r, rfl, q1, q2⟩ := sBin_ok h kk
    exact g_iushr X hd q1 q2
  · obtain ⟨f, g, st', r, rfl, q1, q2⟩ := sBinL_ok h kk
    exact g_lbin X rfl hd q1 q2
  · obtain ⟨f, g, st', r, rfl, q1, q2⟩ := sBinL_ok h kk
    exact g_lbin X rfl hd q1 q2
  · obtain ⟨f, g, st', r, rfl, q1, q2⟩ := sBinL_ok h kk
    exact g_lbin X rfl hd q1 q2
  · obtain ⟨f, g, st', r, rfl, q1, q2⟩ := sBinL_ok h kk
    exact g_lbin X rfl hd q1 q2
  · obtain ⟨f, g, st', r, rfl, q1, q2⟩ := sBinL_ok h kk
    exact g_lbin X rfl hd q1 q2
  · obtain ⟨f, g, st', r, rfl, q1, q2⟩ := sBinL_ok h kk
    exact g_lbin X rfl hd q1 q2
  · obtain ⟨f, g, st', r, rfl, q1, q2⟩ := sBinL_ok h kk
    exact g_lbin X rfl hd q1 q2
  · obtain ⟨f, g, st', r, rfl, q1, q2⟩ := sBinL_ok h kk
    exact g_lbin X rfl hd q1 q2
  · split at h
    · cases h; exact g_lshX X (Or.inl hd) (kk _ List.mem_cons_self)
    · cases h
  · split at h
    · cases h; exact g_lshX X (Or.inr (Or.inl hd)) (kk _ List.mem_cons_self)
    · cases h
  · split at h
    · rename_i g f st'
      cases h
      refine g_lcmp X hd (fun e' q => kk (e', lo, .inl (fc (-1)) :: st', hp, na, nc, ns, pc + 1) ?_) (fun e' q => kk (e', lo, .inl (fc 0) :: st', hp, na, nc, ns, pc + 1) ?_) (fun e' q => kk (e', lo, .inl (fc 1) :: st', hp, na, nc, ns, pc + 1) ?_)
      · exact List.mem_append_left _ (List.mem_append_left _ (opl_mem (f := fun e => (e, lo, .inl (fc (-1)) :: st', hp, na, nc, ns, pc + 1)) q))
      · exact List.mem_append_left _ (List.mem_append_right _ (opl_mem (f := fun e => (e, lo, .inl (fc 0) :: st', hp, na, nc, ns, pc + 1)) q))
      · exact List.mem_append_right _ (opl_mem (f := fun e => (e, lo, .inl (fc 1) :: st', hp, na, nc, ns, pc + 1)) q)
    · cases h
  · split at h
    · split at h
      · rename_i i hi; cases h; exact g_i2l X hd hi (kk _ List.mem_cons_self)
      · cases h
    · cases h
  · split at h
    · cases h; exact g_l2i X hd (kk _ List.mem_cons_self)
    · cases h
  · split at h
    · split at h
      · rename_i r hr; cases h; exact g_i2b X hd hr (kk _ List.mem_cons_self)
      · cases h
    · cases h
  · split at h
    · split at h
      · rename_i r hr; cases h; exact g_i2c X hd hr (kk _ List.mem_cons_self)
      · cases h
    · cases h
  · split at h
    · rename_i v st'
      cases hb : c1 v
      · rw [hb] at h; cases h
      · rw [hb] at h; cases h; exact g_dup X hd (Nat.eq_of_beq_eq_true hb) (kk _ List.mem_cons_self)
    · cases h
  · split at h
    · rename_i v st'
      cases hb : c1 v
      · rw [hb] at h; cases h
      · rw [hb] at h; cases h; exact g_pop X hd (Nat.eq_of_beq_eq_true hb) (kk _ List.mem_cons_self)
    · cases h
  · split at h
    · rename_i v u st'
      cases hb : c1 v && c1 u
      · rw [hb] at h; cases h
      · rw [hb] at h; cases h
        rw [Bool.and_eq_true] at hb
        exact g_dup_x1 X hd (Nat.eq_of_beq_eq_true hb.1) (Nat.eq_of_beq_eq_true hb.2) (kk _ List.mem_cons_self)
    · cases h
  · split at h
    · rename_i v u st'
      cases hb : c1 v && c1 u
      · rw [hb] at h; cases h
      · rw [hb] at h; cases h
        rw [Bool.and_eq_true] at hb
        exact g_dup2 X hd (Nat.eq_of_beq_eq_true hb.1) (Nat.eq_of_beq_eq_true hb.2) (kk _ List.mem_cons_self)
    · cases h
  · split at h
    · rename_i t ht; cases h; exact g_goto X hd (nat?_ok ht) (kk _ List.mem_cons_self)
    · cases h
  · split at h
    · rename_i st' t ht
      cases h
      refine g_icmp X hd (nat?_ok ht) (fun e' q => kk (e', lo, st', hp, na, nc, ns, t) ?_) (fun e' q => kk (e', lo, st', hp, na, nc, ns, pc + 3) ?_)
      · exact List.mem_append_left _ (opl_mem (f := fun e => (e, lo, st', hp, na, nc, ns, t)) q)
      · exact List.mem_append_right _ (opl_mem (f := fun e => (e, lo, st', hp, na, nc, ns, pc + 3)) q)
    · cases h
  · split at h
    · rename_i st' t ht
      cases h
      refine g_if X hd (nat?_ok ht) (fun e' q => kk (e', lo, st', hp, na, nc, ns, t) ?_) (fun e' q => kk (e', lo, st', hp, na, nc, ns, pc + 3) ?_)
      · exact List.mem_append_left _ (opl_mem (f := fun e => (e, lo, st', hp, na, nc, ns, t)) q)
      · exact List.mem_append_right _ (opl_mem (f := fun e => (e, lo, st', hp, na, nc, ns, pc + 3)) q)
    · cases h
  · split at h
    · rename_i d a b offs _ f st'
      cases hb : Nat.beq (b - a + 1).toNat offs.toList.length && offs.toList.all (fun o => ile 0 ((pc : Int) + o)) && ile 0 ((pc : Int) + d) && ieq (Int32.ofInt a).toInt a && ieq (Int32.ofInt b).toInt b
      · rw [hb] at h; cases h
      · rw [hb] at h
        cases h
        rw [Bool.and_eq_true, Bool.and_eq_true, Bool.and_eq_true, Bool.and_eq_true] at hb
        obtain ⟨⟨⟨⟨b1, b2⟩, b3⟩, b4⟩, b5⟩ := hb
        refine g_tsw X hd (Nat.eq_of_beq_eq_true b1) b2 b3 (ieq_t b4) (ieq_t b5) (fun q hq => kk (q.1, lo, st', hp, na, nc, ns, q.2) ?_) (fun e' q => kk (e', lo, st', hp, na, nc, ns, ((pc : Int) + d).toNat) ?_) (fun e' q => kk (e', lo, st', hp, na, nc, ns, ((pc : Int) + d).toNat) ?_)
        · exact List.mem_append_left _ (List.mem_append_left _ (List.mem_map.mpr ⟨q, hq, rfl⟩))
        · exact List.mem_append_left _ (List.mem_append_right _ (opl_mem (f := fun e => (e, lo, st', hp, na, nc, ns, ((pc : Int) + d).toNat)) q))
        · exact List.mem_append_right _ (opl_mem (f := fun e => (e, lo, st', hp, na, nc, ns, ((pc : Int) + d).toNat)) q)
    · cases h
  · split at h
    · rename_i d ps _ f st'
      cases hb : (ps.toList.zip (ps.toList.drop 1)).all (fun (a, next) => a.1 < next.1) && offsOk pc d ps.toList
      · rw [hb] at h; cases h
      · rw [hb] at h
        cases h
        rw [Bool.and_eq_true] at hb
        exact g_lsw X hd hb.1 hb.2 (fun q hq => kk (q.1, lo, st', hp, na, nc, ns, q.2) (List.mem_map.mpr ⟨q, hq, rfl⟩))
    · cases h
  · obtain ⟨q, hc, hk, hww⟩ := hw
    split at h
    · split at h
      · rename_i k ci fs hf
        split at h
        · rename_i v hv
          cases hb : Nat.beq ci x
          · rw [hb] at h; cases h
          · rw [hb] at h; cases h
            rw [Nat.eq_of_beq_eq_true hb] at hf
            exact g_get X hd hc hk hww hf hv (kk _ List.mem_cons_self)
        · cases h
      · cases h
    · cases h
  · obtain ⟨q, hc, hk, hww, hown⟩ := hw
    split at h
    · rename_i v j st'
      split at h
      · rename_i k ci fs hf
        rw [hc] at h
        dsimp only at h
        cases hb : Nat.beq ci x && pok (clTy x y) env v && Nat.blt y fs.length && (bif (q.2.1 y).2.2.2 then ini else true)
        · rw [hb] at h; cases h
        · rw [hb] at h; cases h
          rw [Bool.and_eq_true, Bool.and_eq_true, Bool.and_eq_true] at hb
          obtain ⟨⟨⟨b1, b2⟩, b3⟩, b4⟩ := hb
          have e := Nat.eq_of_beq_eq_true b1
          subst e
          cases hfin : (q.2.1 y).2.2.2
          · exact g_put X hd hc hk hww hfin b2 (blt_t b3) hf (kk _ List.mem_cons_self)
          · rw [hfin] at b4
            exact g_putF X (hI b4) hd hc hk hww hfin (hown hfin) b2 (blt_t b3) hf (kk _ List.mem_cons_self)
      · cases h
    · cases h
  · obtain ⟨q, hc, w1, w2, w3⟩ := hw
    rw [hc] at h
    dsimp only at h
    cases hb : (List.range q.2.2).all (fun j => plainTy (clTy x j)) && Nat.ble (nc + 1) Rc && Nat.ble (ns + q.2.2) Rs
    · rw [hb] at h; cases h
    · rw [hb] at h; cases h
      rw [Bool.and_eq_true, Bool.and_eq_true] at hb
      have b1 := Nat.le_of_ble_eq_true hb.1.2
      have b2 := Nat.le_of_ble_eq_true hb.2
      exact g_new X hd hc w1 w2 w3 hb.1.1 (by omega) (by omega) (kk _ List.mem_cons_self)
  · split at h
    · rename_i n st'
      cases hb : Nat.blt n 100000 && Nat.ble (nc + 1) Rc && Nat.ble (ns + n) Rs
      · rw [hb] at h; cases h
      · rw [hb] at h
        rw [Bool.and_eq_true, Bool.and_eq_true] at hb
        have b0 := blt_t hb.1.1
        have b1 := Nat.le_of_ble_eq_true hb.1.2
        have b2 := Nat.le_of_ble_eq_true hb.2
        dsimp only [cond_true] at h
        split at h
        · cases h; exact g_newa (t := 0) X hd rfl rfl (fun C z => by cases z) rfl hw b0 (by decide) (by omega) (by omega) (kk _ List.mem_cons_self)
        · cases h; exact g_newa (t := 1) X hd rfl rfl (fun C z => by cases z) rfl hw b0 (by decide) (by omega) (by omega) (kk _ List.mem_cons_self)
        · cases h; exact g_newa (t := 3) X hd rfl rfl (fun C z => by cases z) rfl hw b0 (by decide) (by omega) (by omega) (kk _ List.mem_cons_self)
        · cases h; exact g_newaL X hd hw b0 (by omega) (by omega) (kk _ List.mem_cons_self)
        · cases h
    · cases h
  · split at h
    · rename_i n st'
      cases hb : Nat.blt n 100000 && Nat.ble (nc + 1) Rc && Nat.ble (ns + n) Rs
      · rw [hb] at h; cases h
      · rw [hb] at h
        cases h
        rw [Bool.and_eq_true, Bool.and_eq_true] at hb
        have b0 := blt_t hb.1.1
        have b1 := Nat.le_of_ble_eq_true hb.1.2
        have b2 := Nat.le_of_ble_eq_true hb.2
        rcases hw with ⟨rfl, w1, w2⟩ | ⟨rfl, w1, w2⟩
        · exact g_newq (t := 4) X hd rfl w1 w2 b0 (by omega) (by omega) (kk _ List.mem_cons_self)
        · exact g_newq (t := 5) X hd rfl w1 w2 b0 (by omega) (by omega) (kk _ List.mem_cons_self)
    · cases h
  · split at h
    · split at h
      · rename_i hf
        split at h
        · rename_i r hr; cases h; exact g_iaload X hd hf hr (kk _ List.mem_cons_self)
        · cases h
      · cases h
    · cases h
  · split at h
    · split at h
      · rename_i hf
        split at h
        · rename_i r hr; cases h; exact g_baload X hd hf hr (kk _ List.mem_cons_self)
        · cases h
      · rename_i hf
        split at h
        · rename_i r hr; cases h; exact g_zaload X hd hf hr (kk _ List.mem_cons_self)
        · cases h
      · cases h
    · cases h
  · split at h
    · split at h
      · rename_i hf
        split at h
        · rename_i r hr; cases h; exact g_laload X hd hf hr (kk _ List.mem_cons_self)
        · cases h
      · cases h
    · cases h
  · split at h
    · rename_i f j st'
      split at h
      · rename_i k t n sg i hf hi
        cases hb : (Nat.beq t 4 || Nat.beq t 5) && (ile 0 i.1 && ile (i.2 + 1) n)
        · rw [hb] at h; cases h
        · rw [hb] at h
          rw [Bool.and_eq_true] at hb
          dsimp only [cond_true] at h
          obtain ⟨C, hC⟩ : ∃ C, (tys0 ca)[t]? = some (ca t, .object C) := by
            have := hb.1
            rw [Bool.or_eq_true] at this
            rcases this with z | z
            · rw [Nat.eq_of_beq_eq_true z]; exact ⟨_, rfl⟩
            · rw [Nat.eq_of_beq_eq_true z]; exact ⟨_, rfl⟩
          cases hb2 : ile i.2 i.1
          · rw [hb2] at h
            cases h
            refine g_split hi (fun v v1 v2 e' q => kk (e', lo, .inl f :: .inr (.inr (some j)) :: st', hp, na, nc, ns, pc) ?_)
            exact spl_mem (mk := fun e => (e, lo, .inl f :: .inr (.inr (some j)) :: st', hp, na, nc, ns, pc)) _ v1 (by omega) q
          · rw [hb2] at h
            dsimp only [cond_true] at h
            split at h
            · rename_i v hv; cases h; exact g_aaload X hd hC hf hi hb.2 hb2 hv (kk _ List.mem_cons_self)
            · cases h
      · cases h
    · cases h
  · split at h
    · split at h
      · rename_i hf
        split at h
        · rename_i r hr; cases h; exact g_iastore X hd hf hr (kk _ List.mem_cons_self)
        · cases h
      · cases h
    · cases h
  · split at h
    · split at h
      · rename_i hf
        split at h
        · rename_i r hr
          split at h
          · rename_i sg' hs; cases h; exact g_bastore X hd hf hr hs (kk _ List.mem_cons_self)
          · cases h
        · cases h
      · rename_i g _ _ _ _ _ _ _ hf
        cases hb : nrz env g
        · rw [hb] at h; cases h
        · rw [hb] at h
          dsimp only [cond_true] at h
          split at h
          · rename_i sg' hs; cases h; exact g_zastore X hd hf hb hs (kk _ List.mem_cons_self)
          · cases h
      · cases h
    · cases h
  · split at h
    · rename_i g f j st'
      split at h
      · rename_i k n sg i hf hi
        cases hb : ile 0 i.1 && ile (i.2 + 1) n
        · rw [hb] at h; cases h
        · rw [hb] at h
          dsimp only [cond_true] at h
          cases hb2 : ile i.2 i.1
          · rw [hb2] at h; cases h
            exact g_lastoreX X hd hf hi hb (kk _ List.mem_cons_self)
          · rw [hb2] at h; cases h
            exact g_lastore X hd hf hi hb hb2 (kk _ List.mem_cons_self)
      · cases h
    · cases h
  · split at h
    · rename_i o f j st'
      split at h
      · rename_i k t n sg ko ci fs i hf ho hi
        cases hb : ((Nat.beq t 4 && Nat.beq ci 4) || (Nat.beq t 5 && Nat.beq ci 5)) && (ile 0 i.1 && ile (i.2 + 1) n) && ile i.2 i.1
        · rw [hb] at h; cases h
        · rw [hb] at h; cases h
          rw [Bool.and_eq_true, Bool.and_eq_true] at hb
          have b1 := hb.1.1
          rw [Bool.or_eq_true, Bool.and_eq_true, Bool.and_eq_true] at b1
          rcases b1 with ⟨z1, z2⟩ | ⟨z1, z2⟩
          · have e1 := Nat.eq_of_beq_eq_true z1
            have e2 := Nat.eq_of_beq_eq_true z2
            subst e1; subst e2
            exact g_aastore X hd (show vwCl[4]? = some (RX3, TX3, 4) from rfl) rfl hf ho hi hb.1.2 hb.2 (kk _ List.mem_cons_self)
          · have e1 := Nat.eq_of_beq_eq_true z1
            have e2 := Nat.eq_of_beq_eq_true z2
            subst e1; subst e2
            exact g_aastore X hd (show vwCl[5]? = some (RX4, TX4, 11) from rfl) rfl hf ho hi hb.1.2 hb.2 (kk _ List.mem_cons_self)
      · cases h
    · cases h
  · split at h
    · split at h
      · rename_i k t n sg hf
        cases hb : Nat.blt t 6 && Nat.blt n 100000
        · rw [hb] at h; cases h
        · rw [hb] at h; cases h
          rw [Bool.and_eq_true] at hb
          exact g_alen X hd (blt_t hb.1) hf (blt_t hb.2) (kk _ List.mem_cons_self)
      · cases h
    · cases h
  · split at h
    · rename_i j st'
      cases hb : Nat.beq y 100004 && cok8 st'
      · rw [hb] at h; cases h
      · rw [hb] at h; cases h
        rw [Bool.and_eq_true] at hb
        have e := Nat.eq_of_beq_eq_true hb.1
        rcases hw with ⟨_, w1⟩ | ⟨w0, _⟩ | ⟨w0, _⟩
        · exact g_objI X hd w1 hl.2.2.2.2.2.1 hl.2.2.2.2.2.2 (Nat.le_of_ble_eq_true hb.2) (kk _ List.mem_cons_self)
        · omega
        · omega
    · cases h
  · rename_i idx
    cases hb0 : Nat.ble nc Rc && Nat.ble ns Rs
    · rw [hb0] at h; cases h
    · rw [hb0] at h
      rw [Bool.and_eq_true] at hb0
      have c1 := Nat.le_of_ble_eq_true hb0.1
      have c2 := Nat.le_of_ble_eq_true hb0.2
      dsimp only [cond_true] at h
      cases e0 : Nat.beq y 100000
      · rw [e0] at h
        dsimp only [cond_false] at h
        cases e1 : Nat.beq y 100001
        · rw [e1] at h
          dsimp only [cond_false] at h
          cases e2 : Nat.beq y 100002
          · rw [e2] at h
            dsimp only [cond_false] at h
            cases e3 : Nat.beq y 100003
            · rw [e3] at h; cases h
            · rw [e3] at h
              have ey := Nat.eq_of_beq_eq_true e3
              have w1 : Cond.methodLink own idx arraycopyName ∈ gtbl := by
                rcases hw with ⟨z, _⟩ | ⟨z, _⟩ | ⟨z, _⟩ | ⟨_, z⟩ | ⟨z, _⟩ | z
                · omega
                · omega
                · omega
                · exact z
                · omega
                · omega
              dsimp only [cond_true] at h
              split at h
              · rename_i f jd js st'
                cases hb : cok8 st'
                · rw [hb] at h; cases h
                · rw [hb] at h
                  dsimp only [cond_true] at h
                  split at h
                  · rename_i hs hd'
                    split at h
                    · rename_i sg' hr; cases h; exact g_copyi X hd w1 hl.2.2.2.2.1.1 hl.2.2.2.2.1.2.1 hl.2.2.2.2.1.2.2 (Nat.le_of_ble_eq_true hb) hs hd' hr (kk _ List.mem_cons_self)
                    · cases h
                  · rename_i n0 sg0 _ n1 sg1 hs hd'
                    split at h
                    · rename_i i hi
                      cases hb3 : ile n0 i.1 && ile i.2 n0 && Nat.beq n0 n1
                      · rw [hb3] at h; cases h
                      · rw [hb3] at h; cases h; exact g_copyl X hd w1 hl.2.2.2.2.1.1 hl.2.2.2.2.1.2.1 hl.2.2.2.2.1.2.2 (Nat.le_of_ble_eq_true hb) hs hd' hi hb3 (kk _ List.mem_cons_self)
                    · cases h
                  · cases h
              · cases h
          · rw [e2] at h
            have ey := Nat.eq_of_beq_eq_true e2
            have w1 : Cond.methodLink own idx Lib.Math.abs.name ∈ gtbl := by
              rcases hw with ⟨z, _⟩ | ⟨z, _⟩ | ⟨_, z⟩ | ⟨z, _⟩ | ⟨z, _⟩ | z
              · omega
              · omega
              · exact z
              · omega
              · omega
              · omega
            dsimp only [cond_true] at h
            split at h
            · rename_i f st'
              split at h
              · rename_i r hr
                cases hb : cok8 st'
                · rw [hb] at h; cases h
                · rw [hb] at h; cases h; exact g_abs X hd w1 hl.2.2.1.1 hl.2.2.2.1 hl.2.2.1.2 (Nat.le_of_ble_eq_true hb) (by omega) (by omega) hr (kk _ List.mem_cons_self)
              · cases h
            · cases h
        · rw [e1] at h
          have ey := Nat.eq_of_beq_eq_true e1
          have w1 : Cond.methodLink own idx Lib.Math.min.name ∈ gtbl := by
            rcases hw with ⟨z, _⟩ | ⟨_, z⟩ | ⟨z, _⟩ | ⟨z, _⟩ | ⟨z, _⟩ | z
            · omega
            · exact z
            · omega
            · omega
            · omega
            · omega
          dsimp only [cond_true] at h
          split at h
          · rename_i g f st'
            cases hb : cok8 st'
            · rw [hb] at h; cases h
            · rw [hb] at h
              dsimp only [cond_true] at h
              obtain ⟨f', g', st'', r, e9, q1, q2⟩ := sBin_ok h kk
              cases e9
              exact g_min X hd w1 hl.2.1.1 hl.2.2.2.1 hl.2.1.2 (Nat.le_of_ble_eq_true hb) (by omega) (by omega) q1 q2
          · cases h
      · rw [e0] at h
        have ey := Nat.eq_of_beq_eq_true e0
        have w1 : Cond.methodLink own idx Lib.Math.max.name ∈ gtbl := by
          rcases hw with ⟨_, z⟩ | ⟨z, _⟩ | ⟨z, _⟩ | ⟨z, _⟩ | ⟨z, _⟩ | z
          · exact z
          · omega
          · omega
          · omega
          · omega
          · omega
        dsimp only [cond_true] at h
        split at h
        · rename_i g f st'
          cases hb : cok8 st'
          · rw [hb] at h; cases h
          · rw [hb] at h
            dsimp only [cond_true] at h
            obtain ⟨f', g', st'', r, e9, q1, q2⟩ := sBin_ok h kk
            cases e9
            exact g_max X hd w1 hl.1.1 hl.2.2.2.1 hl.1.2 (Nat.le_of_ble_eq_true hb) (by omega) (by omega) q1 q2
        · cases h
  · cases h
end
end
