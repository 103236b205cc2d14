noncomputable section
/-! instructions that tell facts -/
def cpI (o : Nat) (x y : Int) : Prop := match o with
  | 0 => x = y
  | 1 => ¬ x = y
  | 2 => x < y
  | 3 => y ≤ x
  | 4 => y < x
  | _ => x ≤ y
theorem cc_i (o : Nat) {x y : Int} (hx : (Int32.ofInt x).toInt = x) (hy : (Int32.ofInt y).toInt = y) : ccP o (Int32.ofInt x) (Int32.ofInt y) ↔ cpI o x y := by
  have e0 : Int32.ofInt x = Int32.ofInt y ↔ x = y := by
    refine ⟨fun h => ?_, fun h => by rw [h]⟩
    rw [← hx, ← hy, h]
  have e1 : Int32.ofInt x < Int32.ofInt y ↔ x < y := by rw [Int32.lt_iff_toInt_lt, hx, hy]
  have e2 : Int32.ofInt y < Int32.ofInt x ↔ y < x := by rw [Int32.lt_iff_toInt_lt, hx, hy]
  have e3 : Int32.ofInt x ≤ Int32.ofInt y ↔ x ≤ y := by rw [Int32.le_iff_toInt_le, hx, hy]
  have e4 : Int32.ofInt y ≤ Int32.ofInt x ↔ y ≤ x := by rw [Int32.le_iff_toInt_le, hx, hy]
  match o with
  | 0 => exact e0
  | 1 => exact not_congr e0
  | 2 => exact e1
  | 3 => exact e4
  | 4 => exact e2
  | n + 5 => exact e3
def xL (d : eLF) : eFa := (Sum.inl [[(-4294967296, -1)]], [d])
def xE (d : eLF) : eFa := (Sum.inl [[(-4294967296, 0)]], [d])
def x0 (d : eLF) : eFa := (Sum.inl [[(0, 0)]], [d])
def xJ (d : eLF) : eFa := (Sum.inl [[(-18446744073709551616, -1)]], [d])
def ad1 (na : eNa) (F : eFa) : eNa := (na.1, na.2 ++ [F])
def icm (k : Jvm.ClassFile.Cond) (env : eEv) (f g : eLF) (lo : List (Nat × eSV)) (st : List eSV) (hp : eHp) (na : eNa) (nc ns t u : Nat) : List eSt := match k with
  | .eq => opl (refLe env (fpl (fsub f g) 1)) (fun e => (e, lo, st, hp, ad1 na (xL (fsub f g)), nc, ns, u)) ++ opl (cEq env f g) (fun e => (e, lo, st, hp, ad1 (ad1 na (x0 (fsub f g))) (x0 (fsc (-1) (fsub f g))), nc, ns, t)) ++ opl (refLe env (fpl (fsc (-1) (fsub f g)) 1)) (fun e => (e, lo, st, hp, ad1 na (xL (fsc (-1) (fsub f g))), nc, ns, u))
  | .ne => opl (refLe env (fpl (fsub f g) 1)) (fun e => (e, lo, st, hp, ad1 na (xL (fsub f g)), nc, ns, t)) ++ opl (cEq env f g) (fun e => (e, lo, st, hp, ad1 (ad1 na (x0 (fsub f g))) (x0 (fsc (-1) (fsub f g))), nc, ns, u)) ++ opl (refLe env (fpl (fsc (-1) (fsub f g)) 1)) (fun e => (e, lo, st, hp, ad1 na (xL (fsc (-1) (fsub f g))), nc, ns, t))
  | .lt => opl (refLe env (fpl (fsub f g) 1)) (fun e => (e, lo, st, hp, ad1 na (xL (fsub f g)), nc, ns, t)) ++ opl (refLe env (fsc (-1) (fsub f g))) (fun e => (e, lo, st, hp, ad1 na (xE (fsc (-1) (fsub f g))), nc, ns, u))
  | .ge => opl (refLe env (fpl (fsub f g) 1)) (fun e => (e, lo, st, hp, ad1 na (xL (fsub f g)), nc, ns, u)) ++ opl (refLe env (fsc (-1) (fsub f g))) (fun e => (e, lo, st, hp, ad1 na (xE (fsc (-1) (fsub f g))), nc, ns, t))
  | .gt => opl (refLe env (fsub f g)) (fun e => (e, lo, st, hp, ad1 na (xE (fsub f g)), nc, ns, u)) ++ opl (refLe env (fpl (fsc (-1) (fsub f g)) 1)) (fun e => (e, lo, st, hp, ad1 na (xL (fsc (-1) (fsub f g))), nc, ns, t))
  | .le => opl (refLe env (fsub f g)) (fun e => (e, lo, st, hp, ad1 na (xE (fsub f g)), nc, ns, t)) ++ opl (refLe env (fpl (fsc (-1) (fsub f g)) 1)) (fun e => (e, lo, st, hp, ad1 na (xL (fsc (-1) (fsub f g))), nc, ns, u))
/-- a form that is a multiple of 32 -/
def m32 (f : eLF) : Bool := ieq (f.2 % 32) 0 && f.1.all (fun q => ieq (q.2 % 32) 0)
theorem m32_ok {ρ : List Int} {f : eLF} {x : Int} (h : m32 f = true) (hx : lfv ρ f x) : x % 32 = 0 := by
  unfold m32 at h
  rw [Bool.and_eq_true] at h
  have h1 := ieq_t h.1
  have key : ∀ (t : List (Nat × Int)) (z : Int), t.all (fun q => ieq (q.2 % 32) 0) = true → lev ρ t = some z → z % 32 = 0 := by
    intro t
    induction t with
    | nil => intro z _ hz; cases hz; rfl
    | cons q t ih =>
      intro z ha hz
      rw [List.all_cons, Bool.and_eq_true] at ha
      obtain ⟨a, b, e1, e2, rfl⟩ := lev_cons hz
      have i1 := ih b ha.2 e2
      have i2 := ieq_t ha.1
      obtain ⟨w, hw⟩ : ∃ w, q.2 = 32 * w := ⟨q.2 / 32, by omega⟩
      rw [hw, Int.mul_assoc]
      generalize w * a = u
      omega
  have h2 := key f.1 (x - f.2) h.2 hx
  omega
def i64n (x : Int) : Prop := 0 ≤ x ∧ x ≤ 9223372036854775807
theorem bv64 {x : Int} (h : i64n x) : (Int64.ofInt x).toBitVec.toNat = x.toNat := by
  unfold i64n at h
  show (BitVec.ofInt 64 x).toNat = x.toNat
  rw [BitVec.toNat_ofInt]
  congr 1
  exact Int.emod_eq_of_lt h.1 (by show x < 18446744073709551616; omega)
theorem lshl5 {x : Int} (h0 : 0 ≤ x) (h1 : 32 * x ≤ 9223372036854775807) : Int64.ofInt x <<< (Int32.toInt64 (Int32.ofInt 5) &&& 63) = Int64.ofInt (32 * x) := by
  apply Int64.toBitVec_inj.mp
  apply BitVec.eq_of_toNat_eq
  show ((Int64.ofInt x).toBitVec <<< 5).toNat = _
  rw [BitVec.toNat_shiftLeft, bv64 ⟨h0, by omega⟩, bv64 ⟨by omega, h1⟩, Nat.shiftLeft_eq]
  omega
theorem lor5 {x y : Int} (h0 : 0 ≤ x) (hm : x % 32 = 0) (h1 : x + y ≤ 9223372036854775807) (hy : 0 ≤ y) (hy2 : y < 32) : Int64.ofInt x ||| Int64.ofInt y = Int64.ofInt (x + y) := by
  apply Int64.toBitVec_inj.mp
  apply BitVec.eq_of_toNat_eq
  rw [Int64.toBitVec_or, BitVec.toNat_or, bv64 ⟨h0, by omega⟩, bv64 ⟨hy, by omega⟩, bv64 ⟨by omega, h1⟩]
  have e := Nat.two_pow_add_eq_or_of_lt (i := 5) (b := y.toNat) (by omega) (x.toNat / 32)
  have e2 : 2 ^ 5 * (x.toNat / 32) = x.toNat := by omega
  rw [e2] at e
  rw [← e]
  omega
def jn (env : eEv) (f : eLF) : Bool := match jrg env f with
  | some i => ile 0 i.1
  | none => false
theorem jn_ok {env : eEv} {ρ : List Int} (hE : eOk env ρ) {f : eLF} {x : Int} (h : jn env f = true) (hx : lfv ρ f x) : 0 ≤ x ∧ x ≤ 9223372036854775807 := by
  unfold jn at h
  split at h
  · rename_i i hi
    obtain ⟨q1, q2⟩ := jrg_ok hE hi hx
    have q3 := (Int64.ofInt x).toInt_lt
    rw [q2] at q3
    exact ⟨Int.le_trans (ile_t h) q1.1, by omega⟩
  · cases h
def j31 (env : eEv) (f : eLF) : Bool := match jrg env f with
  | some i => ile 0 i.1 && ile i.2 31
  | none => false
theorem j31_ok {env : eEv} {ρ : List Int} (hE : eOk env ρ) {f : eLF} {x : Int} (h : j31 env f = true) (hx : lfv ρ f x) : 0 ≤ x ∧ x < 32 := by
  unfold j31 at h
  split at h
  · rename_i i hi
    obtain ⟨q1, q2⟩ := jrg_ok hE hi hx
    rw [Bool.and_eq_true] at h
    have h1 := ile_t h.1
    have h2 := ile_t h.2
    have q3 := q1.1
    have q4 := q1.2
    exact ⟨by omega, by omega⟩
  · cases h
def fOp (o : Nat) (z x y : eLF) : eFa := (Sum.inr (1000040 + o), [z, x, y])
def fI2b (z x : eLF) : eFa := (Sum.inr 1000052, [z, x])
/-- a binary instruction of ints that is remembered -/
def bop (o : Nat) (env : eEv) (lo : List (Nat × eSV)) (st : List eSV) (hp : eHp) (na : eNa) (nc ns pc : Nat) : Option (List eSt) := match st with
  | .inl g :: .inl f :: st' => (match ibin o env f g with
    | some r => (match irg r.1 r.2 with
      | some _ => some [(r.1, lo, .inl r.2 :: st', hp, ad1 na (fOp o r.2 f g), nc, ns, pc + 1)]
      | none => none)
    | none => none)
  | _ => none
/-- a long array with a number -/
def cdL (env : eEv) (n : Nat) (sg : eSg) (f g : eLF) (i : Int × Int) : Option (eEv × eSg × List eFa) := match cdG sg with
  | some (c, 0) => bq (Nat.ble n 4096) (match jrg env g with
      | some _ => some ((Nat.add env.1 1, dcat env.2 (Nat.mul 2 env.1) 0), cdN env.1 0 (bif ile i.2 i.1 then sgs (cdX sg) i.1.toNat (.inr (.inr (.inl g))) else [(n, .inl (.inl (mnL, mxL)))]), [fUpd env.1 c f g])
      | none => none) none
  | _ => none
def cst3 (i : Instr) (env : eEv) (lo : List (Nat × eSV)) (st : List eSV) (hp : eHp) (na : eNa) (nc ns pc : Nat) : Option (List eSt) := match i with
  | .if_icmp k o => (match st, nat? ((pc : Int) + o) with
    | .inl g :: .inl f :: st', some t => (match irg env f, irg env g with
      | some _, some _ => some (icm k env f g lo st' hp na nc ns t (pc + 3))
      | _, _ => none)
    | _, _ => none)
  | .lcmp => (match st with
    | .inr (.inl g) :: .inr (.inl f) :: st' => (match jrg env f, jrg env g with
      | some _, some _ => some (opl (kLt env f g) (fun e => (e, lo, .inl (fc (-1)) :: st', hp, ad1 na (xJ (fsub f g)), nc, ns, pc + 1)) ++ opl (kEq env f g) (fun e => (e, lo, .inl (fc 0) :: st', rpH f g hp, ad1 (ad1 na (x0 (fsub f g))) (x0 (fsc (-1) (fsub f g))), nc, ns, pc + 1)) ++ opl (kLt env g f) (fun e => (e, lo, .inl (fc 1) :: st', hp, ad1 na (xJ (fsc (-1) (fsub f g))), nc, ns, pc + 1)))
      | _, _ => none)
    | _ => none)
  | .iand => bop 5 env lo st hp na nc ns pc
  | .ior => bop 6 env lo st hp na nc ns pc
  | .ishl => bop 8 env lo st hp na nc ns pc
  | .ishr => bop 9 env lo st hp na nc ns pc
  | .iushr => bop 10 env lo st hp na nc ns pc
  | .i2b => (match st with
    | .inl f :: st' => (match nrb env f with
      | some r => (match irg r.1 r.2 with
        | some _ => some [(r.1, lo, .inl r.2 :: st', hp, ad1 na (fI2b r.2 f), nc, ns, pc + 1)]
        | none => none)
      | none => none)
    | _ => none)
  | .lshl => (match st with
    | .inl g :: .inr (.inl f) :: st' => bif fbeq g (fc 5) && jn env f && (jrg env (fsc 32 f)).isSome then some [(env, lo, .inr (.inl (fsc 32 f)) :: st', hp, na, nc, ns, pc + 1)] else some [((fr env mnL mxL).1, lo, .inr (.inl (fr env mnL mxL).2) :: st', hp, na, nc, ns, pc + 1)]
    | _ => none)
  | .lor => (match st with
    | .inr (.inl g) :: .inr (.inl f) :: st' => bif jn env f && j31 env g && m32 f && (jrg env (fadd f g)).isSome then some [(env, lo, .inr (.inl (fadd f g)) :: st', hp, na, nc, ns, pc + 1)] else some [((fr env mnL mxL).1, lo, .inr (.inl (fr env mnL mxL).2) :: st', hp, na, nc, ns, pc + 1)]
    | _ => none)
  | .laload => (match st with
    | .inl f :: .inr (.inr (some j)) :: st' => (match hfd j hp 0 with
      | some (_, .inr (.inr (.inl (n, sg)))) => (match aldL env n (cdX sg) f with
        | some r => (match (match cdG sg with
            | some c0 => bq (oBe env f c0.2) (some c0.1) none
            | none => none) with
          | none => some [(r.1, lo, .inr (.inl r.2) :: st', hp, na, nc, ns, pc + 1)]
          | some c => (match fdD c f na.2 with
            | some g => some [(env, lo, .inr (.inl g) :: st', hp, na, nc, ns, pc + 1)]
            | none => (match jrg r.1 r.2 with
              | some _ => some [(r.1, lo, .inr (.inl r.2) :: st', hp, ad1 na (fDec r.2 c f), nc, ns, pc + 1)]
              | none => none)))
        | none => none)
      | _ => none)
    | _ => none)
  | .lastore => (match st with
    | .inr (.inl g) :: .inl f :: .inr (.inr (some j)) :: st' => (match hfd j hp 0, irg env f with
      | some (k, .inr (.inr (.inl (n, sg)))), some i => bif ile 0 i.1 && ile (i.2 + 1) n then (match cdL env n sg f g i with
          | some q => some [(q.1, lo, st', hp.set k (j, .inr (.inr (.inl (n, q.2.1)))), adF na q.2.2, nc, ns, pc + 1)]
          | none => some [(env, lo, st', hp.set k (j, .inr (.inr (.inl (n, bif ile i.2 i.1 then cdX (sgs (cdX sg) i.1.toNat (.inr (.inr (.inl g)))) else [(n, .inl (.inl (mnL, mxL)))])))), na, nc, ns, pc + 1)]) else none
      | _, _ => none)
    | _ => none)
  | _ => none
section
variable {p : Program} {l : Launch} {e : Env} {R : Room} {s : State} {m : MethodId} {args : Array Value} {below : List Frame} {meth : Method} {c : Code} {Q : State → Prop} {D : va_G} {ca : Nat → ClassId} {A : Nat → Prop} {nL cb sb : Nat} {r0 : List Int} {a0 : List Nat} {own : String} {cc : ByteArray} {env : eEv} {lo : List (Nat × eSV)} {st : List eSV} {hp : eHp} {na : eNa} {nc ns pc : Nat}
theorem rep_ad1 {ρ : List Int} {α : List Nat} {ls : Array Slot} {lvl : List (Nat × Value)} {stk : List Value} {ws : va_W} {H : Heap} {locs : List Loc} {F : eFa} (h : eRep s D ca A nL r0 a0 env lo st hp na ρ α ls lvl stk ws H locs) (hF : bxOk ρ F) : eRep s D ca A nL r0 a0 env lo st hp (ad1 na F) ρ α ls lvl stk ws H locs :=
  rep_addFs (fs := [F]) h (fun G hG => by
    rcases List.mem_cons.mp hG with rfl | hG
    · exact hF
    · cases hG)
theorem sg_ok {ρ : List Int} {i : Int × Int} {f : eLF} {x : Int} (hx : lfv ρ f x) (hi : ivr i x) : bxOk ρ (Sum.inl [[i]], [f]) := ⟨[x], ⟨hx, trivial⟩, (bxS_b rfl).mpr ⟨[i], List.mem_cons_self, ⟨hi, trivial⟩⟩⟩
theorem g_ic (o : Nat) {f g : eLF} {tgt : Nat} {i j : Int × Int} (hi : irg env f = some i) (hj : irg env g = some j) (row : ∀ (x y : Int32) (H : Heap) (locs : List Loc) (ls : Array Slot) (rest : List Value), (ccP o x y → W p l e R s m args below meth c H locs (cb + nc) (sb + ns) Q (F0 m tgt ls rest)) → (¬ ccP o x y → W p l e R s m args below meth c H locs (cb + nc) (sb + ns) Q (F0 m (pc + 3) ls rest)) → W p l e R s m args below meth c H locs (cb + nc) (sb + ns) Q (F0 m pc ls (.int y :: .int x :: rest)))
    (kt : ∀ (ρ : List Int) (α : List Nat) (ls : Array Slot) (lvl : List (Nat × Value)) (stk : List Value) (ws : va_W) (H : Heap) (locs : List Loc) (x y : Int), eRep s D ca A nL r0 a0 env lo st hp na ρ α ls lvl stk ws H locs → lfv ρ f x → lfv ρ g y → -2147483648 ≤ x → x ≤ 2147483647 → -2147483648 ≤ y → y ≤ 2147483647 → (Int32.ofInt x).toInt = (Int32.ofInt y).toInt ∨ x ≠ y → cpI o x y → W p l e R s m args below meth c H locs (cb + nc) (sb + ns) Q (F0 m tgt ls stk))
    (kf : ∀ (ρ : List Int) (α : List Nat) (ls : Array Slot) (lvl : List (Nat × Value)) (stk : List Value) (ws : va_W) (H : Heap) (locs : List Loc) (x y : Int), eRep s D ca A nL r0 a0 env lo st hp na ρ α ls lvl stk ws H locs → lfv ρ f x → lfv ρ g y → -2147483648 ≤ x → x ≤ 2147483647 → -2147483648 ≤ y → y ≤ 2147483647 → (Int32.ofInt x).toInt = (Int32.ofInt y).toInt ∨ x ≠ y → ¬ cpI o x y → W p l e R s m args below meth c H locs (cb + nc) (sb + ns) Q (F0 m (pc + 3) ls stk)) : eG p l e R s m args below meth c Q D ca A nL cb sb r0 a0 env lo (.inl g :: .inl f :: st) hp na nc ns pc := by
  intro ρ α ls lvl stk ws H locs hh
  obtain ⟨y, stk1, rfl, hy, h1⟩ := rep_popI hh
  obtain ⟨x, stk2, rfl, hx, h2⟩ := rep_popI h1
  have ex := (irg_ok hh.1 hi hx).2
  have ey := (irg_ok hh.1 hj hy).2
  have a1 := (Int32.ofInt x).le_toInt
  have a2 := (Int32.ofInt x).toInt_lt
  have a3 := (Int32.ofInt y).le_toInt
  have a4 := (Int32.ofInt y).toInt_lt
  rw [ex] at a1 a2
  rw [ey] at a3 a4
  have eq : (Int32.ofInt x).toInt = (Int32.ofInt y).toInt ∨ x ≠ y := by
    by_cases e : x = y
    · exact Or.inl (by rw [e])
    · exact Or.inr e
  exact row _ _ H locs ls stk2 (fun q => kt ρ α ls lvl stk2 ws H locs x y h2 hx hy (by omega) (by omega) (by omega) (by omega) eq ((cc_i o ex ey).mp q)) (fun q => kf ρ α ls lvl stk2 ws H locs x y h2 hx hy (by omega) (by omega) (by omega) (by omega) eq (fun q' => q ((cc_i o ex ey).mpr q')))
theorem g_icX (X : eCx p R s m args c D ca A nL own cc a0) {k : Jvm.ClassFile.Cond} {off : Int} {f g : eLF} {tgt : Nat} {i j : Int × Int} (hi : irg env f = some i) (hj : irg env g = some j) (hd : decode cc pc = .ok (.if_icmp k off, 3)) (ht : (pc : Int) + off = (tgt : Int))
    (kt : ∀ (ρ : List Int) (α : List Nat) (ls : Array Slot) (lvl : List (Nat × Value)) (stk : List Value) (ws : va_W) (H : Heap) (locs : List Loc) (x y : Int), eRep s D ca A nL r0 a0 env lo st hp na ρ α ls lvl stk ws H locs → lfv ρ f x → lfv ρ g y → -2147483648 ≤ x → x ≤ 2147483647 → -2147483648 ≤ y → y ≤ 2147483647 → (Int32.ofInt x).toInt = (Int32.ofInt y).toInt ∨ x ≠ y → cpI (cno k) x y → W p l e R s m args below meth c H locs (cb + nc) (sb + ns) Q (F0 m tgt ls stk))
    (kf : ∀ (ρ : List Int) (α : List Nat) (ls : Array Slot) (lvl : List (Nat × Value)) (stk : List Value) (ws : va_W) (H : Heap) (locs : List Loc) (x y : Int), eRep s D ca A nL r0 a0 env lo st hp na ρ α ls lvl stk ws H locs → lfv ρ f x → lfv ρ g y → -2147483648 ≤ x → x ≤ 2147483647 → -2147483648 ≤ y → y ≤ 2147483647 → (Int32.ofInt x).toInt = (Int32.ofInt y).toInt ∨ x ≠ y → ¬ cpI (cno k) x y → W p l e R s m args below meth c H locs (cb + nc) (sb + ns) Q (F0 m (pc + 3) ls stk)) : eG p l e R s m args below meth c Q D ca A nL cb sb r0 a0 env lo (.inl g :: .inl f :: st) hp na nc ns pc := by
  cases k with
  | eq => exact g_ic 0 hi hj (fun x y H locs ls rest a b => lv_icmp_eq X.1 X.2.1 hd ht a b) kt kf
  | ne => exact g_ic 1 hi hj (fun x y H locs ls rest a b => lv_icmp_ne X.1 X.2.1 hd ht a (fun q => b (fun n => n q))) kt kf
  | lt => exact g_ic 2 hi hj (fun x y H locs ls rest a b => lv_icmp_lt X.1 X.2.1 hd ht a b) kt kf
  | ge => exact g_ic 3 hi hj (fun x y H locs ls rest a b => lv_icmp_ge X.1 X.2.1 hd ht a b) kt kf
  | gt => exact g_ic 4 hi hj (fun x y H locs ls rest a b => lv_icmp_gt X.1 X.2.1 hd ht a b) kt kf
  | le => exact g_ic 5 hi hj (fun x y H locs ls rest a b => lv_icmp_le X.1 X.2.1 hd ht a b) kt kf
/-- below, alike, above, each with its facts -/
theorem w_lt {f g : eLF} {u : Nat} (k : ∀ e', refLe env (fpl (fsub f g) 1) = some e' → eG p l e R s m args below meth c Q D ca A nL cb sb r0 a0 e' lo st hp (ad1 na (xL (fsub f g))) nc ns u) {ρ : List Int} {α : List Nat} {ls : Array Slot} {lvl : List (Nat × Value)} {stk : List Value} {ws : va_W} {H : Heap} {locs : List Loc} {x y : Int} (h : eRep s D ca A nL r0 a0 env lo st hp na ρ α ls lvl stk ws H locs) (hx : lfv ρ f x) (hy : lfv ρ g y) (h1 : -2147483648 ≤ x) (h2 : x ≤ 2147483647) (h3 : -2147483648 ≤ y) (h4 : y ≤ 2147483647) (hl : x < y) : W p l e R s m args below meth c H locs (cb + nc) (sb + ns) Q (F0 m u ls stk) := by
  have hd := fsub_ok hx hy
  obtain ⟨e', q1, q2⟩ := refLe_ok h.1 (fpl_ok 1 hd) (by omega)
  exact k e' q1 ρ α ls lvl stk ws H locs (rep_ad1 (rep_env0 h q2) (sg_ok hd ⟨by show (-4294967296 : Int) ≤ _; omega, by show _ ≤ (-1 : Int); omega⟩))
theorem w_le {f g : eLF} {u : Nat} (k : ∀ e', refLe env (fsub f g) = some e' → eG p l e R s m args below meth c Q D ca A nL cb sb r0 a0 e' lo st hp (ad1 na (xE (fsub f g))) nc ns u) {ρ : List Int} {α : List Nat} {ls : Array Slot} {lvl : List (Nat × Value)} {stk : List Value} {ws : va_W} {H : Heap} {locs : List Loc} {x y : Int} (h : eRep s D ca A nL r0 a0 env lo st hp na ρ α ls lvl stk ws H locs) (hx : lfv ρ f x) (hy : lfv ρ g y) (h1 : -2147483648 ≤ x) (h2 : x ≤ 2147483647) (h3 : -2147483648 ≤ y) (h4 : y ≤ 2147483647) (hl : x ≤ y) : W p l e R s m args below meth c H locs (cb + nc) (sb + ns) Q (F0 m u ls stk) := by
  have hd := fsub_ok hx hy
  obtain ⟨e', q1, q2⟩ := refLe_ok h.1 hd (by omega)
  exact k e' q1 ρ α ls lvl stk ws H locs (rep_ad1 (rep_env0 h q2) (sg_ok hd ⟨by show (-4294967296 : Int) ≤ _; omega, by show _ ≤ (0 : Int); omega⟩))
theorem w_gt {f g : eLF} {u : Nat} (k : ∀ e', refLe env (fpl (fsc (-1) (fsub f g)) 1) = some e' → eG p l e R s m args below meth c Q D ca A nL cb sb r0 a0 e' lo st hp (ad1 na (xL (fsc (-1) (fsub f g)))) nc ns u) {ρ : List Int} {α : List Nat} {ls : Array Slot} {lvl : List (Nat × Value)} {stk : List Value} {ws : va_W} {H : Heap} {locs : List Loc} {x y : Int} (h : eRep s D ca A nL r0 a0 env lo st hp na ρ α ls lvl stk ws H locs) (hx : lfv ρ f x) (hy : lfv ρ g y) (h1 : -2147483648 ≤ x) (h2 : x ≤ 2147483647) (h3 : -2147483648 ≤ y) (h4 : y ≤ 2147483647) (hl : y < x) : W p l e R s m args below meth c H locs (cb + nc) (sb + ns) Q (F0 m u ls stk) := by
  have hd := fsc_ok (k := -1) (fsub_ok hx hy)
  obtain ⟨e', q1, q2⟩ := refLe_ok h.1 (fpl_ok 1 hd) (by omega)
  exact k e' q1 ρ α ls lvl stk ws H locs (rep_ad1 (rep_env0 h q2) (sg_ok hd ⟨by show (-4294967296 : Int) ≤ _; omega, by show _ ≤ (-1 : Int); omega⟩))
theorem w_ge {f g : eLF} {u : Nat} (k : ∀ e', refLe env (fsc (-1) (fsub f g)) = some e' → eG p l e R s m args below meth c Q D ca A nL cb sb r0 a0 e' lo st hp (ad1 na (xE (fsc (-1) (fsub f g)))) nc ns u) {ρ : List Int} {α : List Nat} {ls : Array Slot} {lvl : List (Nat × Value)} {stk : List Value} {ws : va_W} {H : Heap} {locs : List Loc} {x y : Int} (h : eRep s D ca A nL r0 a0 env lo st hp na ρ α ls lvl stk ws H locs) (hx : lfv ρ f x) (hy : lfv ρ g y) (h1 : -2147483648 ≤ x) (h2 : x ≤ 2147483647) (h3 : -2147483648 ≤ y) (h4 : y ≤ 2147483647) (hl : y ≤ x) : W p l e R s m args below meth c H locs (cb + nc) (sb + ns) Q (F0 m u ls stk) := by
  have hd := fsc_ok (k := -1) (fsub_ok hx hy)
  obtain ⟨e', q1, q2⟩ := refLe_ok h.1 hd (by omega)
  exact k e' q1 ρ α ls lvl stk ws H locs (rep_ad1 (rep_env0 h q2) (sg_ok hd ⟨by show (-4294967296 : Int) ≤ _; omega, by show _ ≤ (0 : Int); omega⟩))
theorem w_eq {f g : eLF} {u : Nat} (k : ∀ e', cEq env f g = some e' → eG p l e R s m args below meth c Q D ca A nL cb sb r0 a0 e' lo st hp (ad1 (ad1 na (x0 (fsub f g))) (x0 (fsc (-1) (fsub f g)))) nc ns u) {ρ : List Int} {α : List Nat} {ls : Array Slot} {lvl : List (Nat × Value)} {stk : List Value} {ws : va_W} {H : Heap} {locs : List Loc} {x y : Int} (h : eRep s D ca A nL r0 a0 env lo st hp na ρ α ls lvl stk ws H locs) (hx : lfv ρ f x) (hy : lfv ρ g y) (he : x = y) : W p l e R s m args below meth c H locs (cb + nc) (sb + ns) Q (F0 m u ls stk) := by
  have hd := fsub_ok hx hy
  have hd2 := fsc_ok (k := -1) hd
  obtain ⟨e', q1, q2⟩ := cEq_ok h.1 hx hy (by rw [he])
  exact k e' q1 ρ α ls lvl stk ws H locs (rep_ad1 (rep_ad1 (rep_env0 h q2) (sg_ok hd ⟨by show (0 : Int) ≤ _; omega, by show _ ≤ (0 : Int); omega⟩)) (sg_ok hd2 ⟨by show (0 : Int) ≤ _; omega, by show _ ≤ (0 : Int); omega⟩))
theorem icm_ok (X : eCx p R s m args c D ca A nL own cc a0) {k : Jvm.ClassFile.Cond} {off : Int} {f g : eLF} {tgt : Nat} {i j : Int × Int} (hi : irg env f = some i) (hj : irg env g = some j) (hd : decode cc pc = .ok (.if_icmp k off, 3)) (ht : (pc : Int) + off = (tgt : Int)) (kk : ∀ S ∈ icm k env f g lo st hp na nc ns tgt (pc + 3), GS p l e R s m args below meth c Q D ca A nL cb sb r0 a0 S) : eG p l e R s m args below meth c Q D ca A nL cb sb r0 a0 env lo (.inl g :: .inl f :: st) hp na nc ns pc := by
  have mem1 : ∀ {a b : List eSt} {S : eSt}, S ∈ a → S ∈ a ++ b := fun h => List.mem_append.mpr (Or.inl h)
  have mem2 : ∀ {a b : List eSt} {S : eSt}, S ∈ b → S ∈ a ++ b := fun h => List.mem_append.mpr (Or.inr h)
  cases k with
  | eq =>
    refine g_icX X hi hj hd ht (fun ρ α ls lvl stk ws H locs x y h hx hy h1 h2 h3 h4 _ hc => ?_) (fun ρ α ls lvl stk ws H locs x y h hx hy h1 h2 h3 h4 _ hc => ?_)
    · exact w_eq (fun e' q => kk _ (mem1 (mem2 (opl_mem q)))) h hx hy hc
    · have hc : ¬ x = y := hc
      rcases Int.lt_or_gt_of_ne hc with z | z
      · exact w_lt (fun e' q => kk _ (mem1 (mem1 (opl_mem q)))) h hx hy h1 h2 h3 h4 z
      · exact w_gt (fun e' q => kk _ (mem2 (opl_mem q))) h hx hy h1 h2 h3 h4 z
  | ne =>
    refine g_icX X hi hj hd ht (fun ρ α ls lvl stk ws H locs x y h hx hy h1 h2 h3 h4 _ hc => ?_) (fun ρ α ls lvl stk ws H locs x y h hx hy h1 h2 h3 h4 _ hc => ?_)
    · have hc : ¬ x = y := hc
      rcases Int.lt_or_gt_of_ne hc with z | z
      · exact w_lt (fun e' q => kk _ (mem1 (mem1 (opl_mem q)))) h hx hy h1 h2 h3 h4 z
      · exact w_gt (fun e' q => kk _ (mem2 (opl_mem q))) h hx hy h1 h2 h3 h4 z
    · have hc : ¬ ¬ x = y := hc
      exact w_eq (fun e' q => kk _ (mem1 (mem2 (opl_mem q)))) h hx hy (Decidable.not_not.mp hc)
  | lt =>
    refine g_icX X hi hj hd ht (fun ρ α ls lvl stk ws H locs x y h hx hy h1 h2 h3 h4 _ hc => ?_) (fun ρ α ls lvl stk ws H locs x y h hx hy h1 h2 h3 h4 _ hc => ?_)
    · exact w_lt (fun e' q => kk _ (mem1 (opl_mem q))) h hx hy h1 h2 h3 h4 hc
    · have hc : ¬ x < y := hc
      exact w_ge (fun e' q => kk _ (mem2 (opl_mem q))) h hx hy h1 h2 h3 h4 (by omega)
  | ge =>
    refine g_icX X hi hj hd ht (fun ρ α ls lvl stk ws H locs x y h hx hy h1 h2 h3 h4 _ hc => ?_) (fun ρ α ls lvl stk ws H locs x y h hx hy h1 h2 h3 h4 _ hc => ?_)
    · exact w_ge (fun e' q => kk _ (mem2 (opl_mem q))) h hx hy h1 h2 h3 h4 hc
    · have hc : ¬ y ≤ x := hc
      exact w_lt (fun e' q => kk _ (mem1 (opl_mem q))) h hx hy h1 h2 h3 h4 (by omega)
  | gt =>
    refine g_icX X hi hj hd ht (fun ρ α ls lvl stk ws H locs x y h hx hy h1 h2 h3 h4 _ hc => ?_) (fun ρ α ls lvl stk ws H locs x y h hx hy h1 h2 h3 h4 _ hc => ?_)
    · exact w_gt (fun e' q => kk _ (mem2 (opl_mem q))) h hx hy h1 h2 h3 h4 hc
    · have hc : ¬ y < x := hc
      exact w_le (fun e' q => kk _ (mem1 (opl_mem q))) h hx hy h1 h2 h3 h4 (by omega)
  | le =>
    refine g_icX X hi hj hd ht (fun ρ α ls lvl stk ws H locs x y h hx hy h1 h2 h3 h4 _ hc => ?_) (fun ρ α ls lvl stk ws H locs x y h hx hy h1 h2 h3 h4 _ hc => ?_)
    · exact w_le (fun e' q => kk _ (mem1 (opl_mem q))) h hx hy h1 h2 h3 h4 hc
    · have hc : ¬ x ≤ y := hc
      exact w_gt (fun e' q => kk _ (mem2 (opl_mem q))) h hx hy h1 h2 h3 h4 (by omega)
theorem op_ok {o : Nat} {r : eEv × eLF} {f g : eLF} {ρ σ : List Int} {x y z : Int} (ho : 40 + o < 51) (hq : (Int32.ofInt z).toInt = z) (h1 : lfv (ρ ++ σ) r.2 z) (hx : lfv ρ f x) (hy : lfv ρ g y) (h3 : Int32.ofInt z = ibf o (Int32.ofInt x) (Int32.ofInt y)) (hP : PR (40 + o) [z, x, y]) : bxOk (ρ ++ σ) (fOp o r.2 f g) := by
  refine ⟨[z, x, y], ⟨h1, lfv_mono σ hx, lfv_mono σ hy, trivial⟩, ?_⟩
  have e : (1000040 + o) = 1000000 + (40 + o) := by omega
  show bxS (Sum.inr (1000040 + o)) [z, x, y]
  rw [e]
  exact bxS_t.mpr hP
theorem bop_ok {o : Nat} {L : List eSt} (ho : 40 + o < 51) (hP : ∀ z x y : Int, (Int32.ofInt z).toInt = z → Int32.ofInt z = ibf o (Int32.ofInt x) (Int32.ofInt y) → PR (40 + o) [z, x, y]) (row : ∀ (x y : Int32) (H : Heap) (locs : List Loc) (ls : Array Slot) (rest : List Value), W p l e R s m args below meth c H locs (cb + nc) (sb + ns) Q (F0 m (pc + 1) ls (.int (ibf o x y) :: rest)) → W p l e R s m args below meth c H locs (cb + nc) (sb + ns) Q (F0 m pc ls (.int y :: .int x :: rest))) (h : bop o env lo st hp na nc ns pc = some L) (kk : ∀ S ∈ L, GS p l e R s m args below meth c Q D ca A nL cb sb r0 a0 S) : eG p l e R s m args below meth c Q D ca A nL cb sb r0 a0 env lo st hp na nc ns pc := by
  unfold bop at h
  split at h
  · rename_i g f st'
    split at h
    · rename_i r hr
      split at h
      · rename_i i hi
        cases h
        have k := kk _ List.mem_cons_self
        intro ρ α ls lvl stk ws H locs hh
        obtain ⟨y, stk1, rfl, hy, h1⟩ := rep_popI hh
        obtain ⟨x, stk2, rfl, hx, h2⟩ := rep_popI h1
        obtain ⟨⟨σ, z, q1, q2, q3⟩, q4⟩ := ibin_ok o h2.1 hx hy hr
        have ez := (irg_ok q1 hi q2).2
        refine row _ _ H locs ls stk2 ?_
        rw [← q3]
        exact k (ρ ++ σ) α ls lvl _ ws H locs (rep_ad1 (rep_push (rep_env h2 q1) ⟨z, q2, rfl⟩) (op_ok ho ez q2 hx hy q3 (hP z x y ez q3)))
      · cases h
    · cases h
  · cases h
theorem sg8_i {x : Int} : (Int32.ofInt x).toInt8.toInt32.toInt = sg8 x := by
  rw [Int8.toInt_toInt32, Int32.toInt_toInt8, Int32.toInt_ofInt]
  show Int.bmod (Int.bmod x 4294967296) 256 = sg8 x
  rw [Int.bmod_bmod_of_dvd (by decide : (256 : Nat) ∣ 4294967296), Int.bmod_def]
  unfold sg8
  split <;> omega
theorem sg8_s {x : Int} (h : -128 ≤ x) (h2 : x ≤ 127) : sg8 x = x := by unfold sg8; omega
theorem g_lcmp3 (X : eCx p R s m args c D ca A nL own cc a0) {f g : eLF} {i j : Int × Int} (hi : jrg env f = some i) (hj : jrg env g = some j) (hd : decode cc pc = .ok (.lcmp, 1)) (k1 : ∀ e', kLt env f g = some e' → eG p l e R s m args below meth c Q D ca A nL cb sb r0 a0 e' lo (.inl (fc (-1)) :: st) hp (ad1 na (xJ (fsub f g))) nc ns (pc + 1)) (k2 : ∀ e', kEq env f g = some e' → eG p l e R s m args below meth c Q D ca A nL cb sb r0 a0 e' lo (.inl (fc 0) :: st) (rpH f g hp) (ad1 (ad1 na (x0 (fsub f g))) (x0 (fsc (-1) (fsub f g)))) nc ns (pc + 1)) (k3 : ∀ e', kLt env g f = some e' → eG p l e R s m args below meth c Q D ca A nL cb sb r0 a0 e' lo (.inl (fc 1) :: st) hp (ad1 na (xJ (fsc (-1) (fsub f g)))) nc ns (pc + 1)) : eG p l e R s m args below meth c Q D ca A nL cb sb r0 a0 env lo (.inr (.inl g) :: .inr (.inl f) :: st) hp na nc ns pc := by
  intro ρ α ls lvl stk ws H locs hh
  obtain ⟨y, stk1, rfl, hy, h1⟩ := rep_popL hh
  obtain ⟨x, stk2, rfl, hx, h2⟩ := rep_popL h1
  have ex := (jrg_ok hh.1 hi hx).2
  have ey := (jrg_ok hh.1 hj hy).2
  have a1 := (Int64.ofInt x).le_toInt
  have a2 := (Int64.ofInt x).toInt_lt
  have a3 := (Int64.ofInt y).le_toInt
  have a4 := (Int64.ofInt y).toInt_lt
  rw [ex] at a1 a2
  rw [ey] at a3 a4
  have hdd := fsub_ok hx hy
  have hdn := fsc_ok (k := -1) hdd
  refine W.lcmp X.1 X.2.1 hd ?_
  unfold lg_cmp
  by_cases c1 : Int64.ofInt x > Int64.ofInt y
  · rw [if_pos c1]
    have c1' := Int64.lt_iff_toInt_lt.mp c1
    obtain ⟨e', q1, q2⟩ := kLt_ok h2.1 hy hx c1'
    rw [ex, ey] at c1'
    exact k3 e' q1 ρ α ls lvl _ ws H locs (rep_ad1 (rep_push (rep_env0 h2 q2) ⟨1, fc_ok 1, rfl⟩) (sg_ok hdn ⟨by show (-18446744073709551616 : Int) ≤ _; omega, by show _ ≤ (-1 : Int); omega⟩))
  · rw [if_neg c1]
    by_cases c2 : Int64.ofInt x = Int64.ofInt y
    · rw [if_pos c2]
      have e2 : x = y := by rw [← ex, ← ey, c2]
      obtain ⟨e', q1, q2⟩ := kEq_ok h2.1 hx hy (by rw [c2])
      have hr := rep_ad1 (F := x0 (fsc (-1) (fsub f g))) (rep_ad1 (F := x0 (fsub f g)) (rep_push (v := .inl (fc 0)) (w := .int 0) (rep_env0 h2 q2) ⟨0, fc_ok 0, rfl⟩) (sg_ok hdd ⟨by show (0 : Int) ≤ _; omega, by show _ ≤ (0 : Int); omega⟩)) (sg_ok hdn ⟨by show (0 : Int) ≤ _; omega, by show _ ≤ (0 : Int); omega⟩)
      obtain ⟨g1, g2, g3, g4, g5, g6, g7⟩ := hr
      exact k2 e' q1 ρ α ls lvl _ ws H locs ⟨g1, g2, g3, g4, g5, rpH_ok hx hy c2 g6, g7⟩
    · rw [if_neg c2]
      have c3 : (Int64.ofInt x).toInt < (Int64.ofInt y).toInt := by
        have n1 : ¬ (Int64.ofInt y).toInt < (Int64.ofInt x).toInt := fun q => c1 (Int64.lt_iff_toInt_lt.mpr q)
        have n2 : ¬ (Int64.ofInt x).toInt = (Int64.ofInt y).toInt := fun q => c2 (Int64.toInt_inj.mp q)
        omega
      obtain ⟨e', q1, q2⟩ := kLt_ok h2.1 hx hy c3
      rw [ex, ey] at c3
      exact k1 e' q1 ρ α ls lvl _ ws H locs (rep_ad1 (rep_push (rep_env0 h2 q2) ⟨-1, fc_ok (-1), rfl⟩) (sg_ok hdd ⟨by show (-18446744073709551616 : Int) ≤ _; omega, by show _ ≤ (-1 : Int); omega⟩))
theorem aldL_ok {ρ : List Int} (hE : eOk env ρ) {n : Nat} {sg : eSg} {f : eLF} {r : eEv × eLF} {x : Int} (hx : lfv ρ f x) {F : Nat → Int64} (hF : ∀ j, j < n → ∃ y, sga sg j = some y ∧ ell ρ y (F j)) (h : aldL env n sg f = some r) : vp_in (Int32.ofInt x) n ∧ (Int32.ofInt x).toNatClampNeg = x.toNat ∧ x.toNat < n ∧ 0 ≤ x ∧ ∃ σ z, eOk r.1 (ρ ++ σ) ∧ lfv (ρ ++ σ) r.2 z ∧ Int64.ofInt z = F x.toNat := by
  unfold aldL at h
  split at h
  · rename_i i' hi
    cases hb : ile 0 i'.1 && ile (i'.2 + 1) n
    · rw [hb] at h; cases h
    · rw [hb] at h
      obtain ⟨g1, g2, g3, g4, g5, g6, g7⟩ := ald_in hE hx hi hb
      refine ⟨g1, g2, g3, g4, ?_⟩
      obtain ⟨y, y1, y2⟩ := hF _ g3
      dsimp only [cond_true] at h
      cases hb2 : ile i'.2 i'.1
      · rw [hb2] at h
        cases h
        obtain ⟨σ, s1, s2⟩ := fr_ok hE (fullL (F x.toNat)) (fullL _)
        exact ⟨σ, _, s1, s2, Int64.ofInt_toInt _⟩
      · rw [hb2] at h
        have := ile_t hb2
        have e : i'.1 = x := by omega
        rw [e, y1] at h
        dsimp only [cond_true] at h
        split at h
        · rename_i g hg
          cases hg
          cases h
          obtain ⟨z, z1, z2⟩ := y2
          exact ⟨[], z, by rw [List.append_nil]; exact hE, by rw [List.append_nil]; exact z1, z2.symm⟩
        · rename_i q hq
          cases hq
          cases h
          obtain ⟨σ, s1, s2⟩ := fr_ok hE y2 (fullL _)
          exact ⟨σ, _, s1, s2, Int64.ofInt_toInt _⟩
        · cases h
  · cases h
theorem cdL_ok {ρ : List Int} (hE : eOk env ρ) {n : Nat} {sg : eSg} {f g : eLF} {x y : Int} {i : Int × Int} {F : Nat → Int64} (hx : lfv ρ f x) (hi : irg env f = some i) (h0 : 0 ≤ x) (hn : x.toNat < n) (hy : lfv ρ g y) (hF : ∀ j, j < n → ∃ z, sga sg j = some z ∧ ell ρ z (F j)) (hc : cdO ρ sg n (fun j => (F j).toInt)) {q : eEv × eSg × List eFa} (h : cdL env n sg f g i = some q) :
    ∃ σ, eOk q.1 (ρ ++ σ) ∧ ((∀ j, j < n → ∃ z, sga q.2.1 j = some z ∧ ell (ρ ++ σ) z (vp_updL F x.toNat (Int64.ofInt y) j)) ∧ cdO (ρ ++ σ) q.2.1 n (fun j => (vp_updL F x.toNat (Int64.ofInt y) j).toInt)) ∧ fOk (ρ ++ σ) q.2.2 := by
  unfold cdL at h
  split at h
  · rename_i c0 hcc
    cases hb : Nat.ble n 4096
    · rw [hb] at h; cases h
    · rw [hb, bq_t] at h
      split at h
      · rename_i j0 hj0
        cases h
        have hn2 := Nat.le_of_ble_eq_true hb
        obtain ⟨z, z1, z2⟩ := hc c0 0 hcc
        have ey := (jrg_ok hE hj0 hy).2
        have hb64 : b64 y := by
          have a1 := (Int64.ofInt y).le_toInt
          have a2 := (Int64.ofInt y).toInt_lt
          rw [ey] at a1 a2
          unfold b64
          omega
        have hnew := new_get hE (ucd z x.toNat y)
        refine ⟨[ucd z x.toNat y], eOk_new hE _, ⟨fun j hj => ?_, ?_⟩, fun G hG => ?_⟩
        · show ∃ z', sga (cdN env.1 0 (bif ile i.2 i.1 then sgs (cdX sg) i.1.toNat (.inr (.inr (.inl g))) else [(n, .inl (.inl (mnL, mxL)))])) j = some z' ∧ _
          rw [sga_cN]
          cases hb2 : ile i.2 i.1
          · exact ⟨.inl (mnL, mxL), sga_lt1 hj, fullL _⟩
          · have := ile_t hb2
            have e1 := (irg_ok hE hi hx).1.1
            have e2 := (irg_ok hE hi hx).1.2
            have e0 : i.1 = x := by omega
            rw [e0]
            show ∃ z', sga (sgs (cdX sg) x.toNat (.inr (.inr (.inl g)))) j = some z' ∧ _
            obtain ⟨u0, u1, u2⟩ := hF _ hn
            by_cases e : j = x.toNat
            · rw [e, pk_uLs]
              exact ⟨_, sgs_at (cdX sg) _ _ ((sga_cX sg _).trans u1), y, lfv_mono _ hy, rfl⟩
            · rw [pk_uLn e]
              obtain ⟨v0, v1, v2⟩ := hF j hj
              exact ⟨v0, by rw [sgs_ne (cdX sg) _ _ e, sga_cX]; exact v1, ell_mono _ v2⟩
        · refine cdO_N (by decide) hnew (fun j oj hj => ?_)
          show dcd j (ucd z x.toNat y) = (vp_updL F x.toNat (Int64.ofInt y) j).toInt
          by_cases e : j = x.toNat
          · rw [e, pk_uLs, ey]
            exact dcd_us hb64 (by omega)
          · rw [pk_uLn e, dcd_un hb64 (by omega) e]
            exact z2 j (Nat.zero_le j) hj
        · rcases List.mem_cons.mp hG with rfl | hG
          · refine ⟨[ucd z x.toNat y, z, x, y], ⟨lfv_v2 hnew, lfv_v2 (getE_mono _ z1), lfv_mono _ hx, lfv_mono _ hy, trivial⟩, (bxS_t (t := 2)).mpr ?_⟩
            show pUpd (ucd z x.toNat y) z x y
            exact ⟨h0, by omega, hb64, rfl⟩
          · cases hG
      · cases h
  · cases h
theorem g_lsh3 (X : eCx p R s m args c D ca A nL own cc a0) {g f : eLF} (hd : decode cc pc = .ok (.lshl, 1)) (hb : (fbeq g (fc 5) && jn env f && (jrg env (fsc 32 f)).isSome) = true) (k : eG p l e R s m args below meth c Q D ca A nL cb sb r0 a0 env lo (.inr (.inl (fsc 32 f)) :: st) hp na nc ns (pc + 1)) : eG p l e R s m args below meth c Q D ca A nL cb sb r0 a0 env lo (.inl g :: .inr (.inl f) :: st) hp na nc ns pc := by
  rw [Bool.and_eq_true, Bool.and_eq_true] at hb
  obtain ⟨⟨b1, b2⟩, b3⟩ := hb
  have e := fbeq_t b1
  subst e
  intro ρ α ls lvl stk ws H locs hh
  obtain ⟨y, stk1, rfl, hy, h1⟩ := rep_popI hh
  obtain ⟨x, stk2, rfl, hx, h2⟩ := rep_popL h1
  have ey : y = 5 := fc_inv hy
  subst ey
  have q0 := (jn_ok hh.1 b2 hx).1
  obtain ⟨i, hi⟩ := Option.isSome_iff_exists.mp b3
  have q1 := (jrg_ok hh.1 hi (fsc_ok (k := 32) hx)).2
  have q2 := (Int64.ofInt (32 * x)).toInt_lt
  rw [q1] at q2
  exact lv_lshl X.1 X.2.1 hd (lshl5 q0 (by omega)) (k ρ α ls lvl _ ws H locs (rep_push h2 ⟨32 * x, fsc_ok hx, rfl⟩))
theorem g_lor3 (X : eCx p R s m args c D ca A nL own cc a0) {g f : eLF} (hd : decode cc pc = .ok (.lor, 1)) (hb : (jn env f && j31 env g && m32 f && (jrg env (fadd f g)).isSome) = true) (k : eG p l e R s m args below meth c Q D ca A nL cb sb r0 a0 env lo (.inr (.inl (fadd f g)) :: st) hp na nc ns (pc + 1)) : eG p l e R s m args below meth c Q D ca A nL cb sb r0 a0 env lo (.inr (.inl g) :: .inr (.inl f) :: st) hp na nc ns pc := by
  rw [Bool.and_eq_true, Bool.and_eq_true, Bool.and_eq_true] at hb
  obtain ⟨⟨⟨b1, b2⟩, b3⟩, b4⟩ := hb
  intro ρ α ls lvl stk ws H locs hh
  obtain ⟨y, stk1, rfl, hy, h1⟩ := rep_popL hh
  obtain ⟨x, stk2, rfl, hx, h2⟩ := rep_popL h1
  have q0 := (jn_ok hh.1 b1 hx).1
  have q3 := j31_ok hh.1 b2 hy
  have q4 := m32_ok b3 hx
  obtain ⟨i, hi⟩ := Option.isSome_iff_exists.mp b4
  have q1 := (jrg_ok hh.1 hi (fadd_ok hx hy)).2
  have q2 := (Int64.ofInt (x + y)).toInt_lt
  rw [q1] at q2
  refine lv_lor X.1 X.2.1 hd ?_
  rw [lor5 q0 q4 (by omega) q3.1 q3.2]
  exact k ρ α ls lvl _ ws H locs (rep_push h2 ⟨x + y, fadd_ok hx hy, rfl⟩)
theorem g_lorX (X : eCx p R s m args c D ca A nL own cc a0) {g f : eLF} (hd : decode cc pc = .ok (.lor, 1)) (k : eG p l e R s m args below meth c Q D ca A nL cb sb r0 a0 (fr env mnL mxL).1 lo (.inr (.inl (fr env mnL mxL).2) :: st) hp na nc ns (pc + 1)) : eG p l e R s m args below meth c Q D ca A nL cb sb r0 a0 env lo (.inr (.inl g) :: .inr (.inl f) :: st) hp na nc ns pc := by
  intro ρ α ls lvl stk ws H locs hh
  obtain ⟨y, stk1, rfl, hy, h1⟩ := rep_popL hh
  obtain ⟨x, stk2, rfl, hx, h2⟩ := rep_popL h1
  refine lv_lor X.1 X.2.1 hd ?_
  obtain ⟨σ, q1, q2⟩ := fr_ok h2.1 (fullL (Int64.ofInt x ||| Int64.ofInt y)) (fullL _)
  exact k (ρ ++ σ) α ls lvl _ ws H locs (rep_push (rep_env h2 q1) ⟨_, q2, by rw [Int64.ofInt_toInt]⟩)
set_option maxHeartbeats 1000000 in
theorem cst3_ok (X : eCx p R s m args c D ca A nL own cc a0) {i : Instr} {len : Nat} (hd : decode cc pc = .ok (i, ilen i len)) {L : List eSt} (h : cst3 i env lo st hp na nc ns pc = some L) (kk : ∀ S ∈ L, GS p l e R s m args below meth c Q D ca A nL cb sb r0 a0 S) : eG p l e R s m args below meth c Q D ca A nL cb sb r0 a0 env lo st hp na nc ns pc := by
  have mem1 : ∀ {a b : List eSt} {S : eSt}, S ∈ a → S ∈ a ++ b := fun h => List.mem_append.mpr (Or.inl h)
  have mem2 : ∀ {a b : List eSt} {S : eSt}, S ∈ b → S ∈ a ++ b := fun h => List.mem_append.mpr (Or.inr h)
  unfold cst3 at h
  split at h
  · split at h
    · rename_i g f st' t ht
      split at h
      · rename_i i1 i2 hi hj
        cases h
        exact icm_ok X hi hj hd (nat?_ok ht).symm.symm kk
      · cases h
    · cases h
  · split at h
    · rename_i g f st'
      split at h
      · rename_i i1 i2 hi hj
        cases h
        exact g_lcmp3 X hi hj hd (fun e' q => kk _ (mem1 (mem1 (opl_mem q)))) (fun e' q => kk _ (mem1 (mem2 (opl_mem q)))) (fun e' q => kk _ (mem2 (opl_mem q)))
      · cases h
    · cases h
  · exact bop_ok (o := 5) (by decide) (fun z x y h1 h2 => P3_op5 h1 h2) (fun x y H locs ls rest w => lv_iand X.1 X.2.1 hd w) h kk
  · exact bop_ok (o := 6) (by decide) (fun z x y h1 h2 => P3_op6 h1 h2) (fun x y H locs ls rest w => lv_ior X.1 X.2.1 hd w) h kk
  · exact bop_ok (o := 8) (by decide) (fun z x y h1 h2 => P3_op8 h1 h2) (fun x y H locs ls rest w => lv_ishl X.1 X.2.1 hd w) h kk
  · exact bop_ok (o := 9) (by decide) (fun z x y h1 h2 => P3_op9 h1 h2) (fun x y H locs ls rest w => lv_ishr X.1 X.2.1 hd w) h kk
  · exact bop_ok (o := 10) (by decide) (fun z x y h1 h2 => P3_op10 h1 h2) (fun x y H locs ls rest w => lv_iushr X.1 X.2.1 hd rfl w) h kk
  · split at h
    · rename_i f st'
      split at h
      · rename_i r hr
        split at h
        · rename_i i1 hi
          cases h
          have k := kk _ List.mem_cons_self
          intro ρ α ls lvl stk ws H locs hh
          obtain ⟨x, stk1, rfl, hx, h1⟩ := rep_popI hh
          obtain ⟨σ, z, q1, q2, q3⟩ := nrb_ok hr ρ x hh.1 hx
          have ez := (irg_ok q1 hi q2).2
          have es : z = sg8 x := by rw [← ez, q3, sg8_i]
          have hF : bxOk (ρ ++ σ) (fI2b r.2 f) := ⟨[z, x], ⟨q2, lfv_mono σ hx, trivial⟩, (bxS_t (t := 52)).mpr (P3_i2b es)⟩
          refine lv_i2b X.1 X.2.1 hd q3.symm ?_
          exact k (ρ ++ σ) α ls lvl _ ws H locs (rep_ad1 (rep_push (rep_env h1 q1) ⟨z, q2, rfl⟩) hF)
        · cases h
      · cases h
    · cases h
  · split at h
    · rename_i g f st'
      cases hb : fbeq g (fc 5) && jn env f && (jrg env (fsc 32 f)).isSome
      · rw [hb] at h
        cases h
        exact g_lshX X (Or.inl hd) (kk _ List.mem_cons_self)
      · rw [hb] at h
        cases h
        exact g_lsh3 X hd hb (kk _ List.mem_cons_self)
    · cases h
  · split at h
    · rename_i g f st'
      cases hb : jn env f && j31 env g && m32 f && (jrg env (fadd f g)).isSome
      · rw [hb] at h
        cases h
        exact g_lorX X hd (kk _ List.mem_cons_self)
      · rw [hb] at h
        cases h
        exact g_lor3 X hd hb (kk _ List.mem_cons_self)
    · cases h
  · split at h
    · rename_i f j st'
      split at h
      · rename_i k n sg hf
        split at h
        · rename_i r hr
          intro ρ α ls lvl stk ws H locs hh
          obtain ⟨x, stk1, rfl, hx, h0⟩ := rep_popI hh
          obtain ⟨a, stk', rfl, h1, h2⟩ := rep_popR h0
          obtain ⟨y, h3, F, rfl, h4⟩ := rep_cell h2 hf h1
          obtain ⟨g1, g2, g3, g4, σ, z, z1, z2, z3⟩ := aldL_ok hh.1 hx (fun j hj => by rw [sga_cX]; exact h4.1 j hj) hr
          refine va_lald X.1 X.2.1 X.2.2.2.2.2.1 h2.2.2.2.2.2.2.1 k 2 h3 rfl g1 hd ?_
          rw [g2]
          split at h
          · cases h
            exact kk _ List.mem_cons_self (ρ ++ σ) α ls lvl _ ws H locs (rep_push (rep_env h2 z1) ⟨z, z2, by rw [z3]⟩)
          · rename_i c0 hc0
            obtain ⟨zc, y1, y2⟩ : ∃ zc, ρ[c0]? = some zc ∧ dcd x.toNat zc = (F x.toNat).toInt := by
              split at hc0
              · rename_i c1 hc1
                cases ho : oBe env f c1.2
                · rw [ho] at hc0; cases hc0
                · rw [ho, bq_t] at hc0
                  cases hc0
                  obtain ⟨zc, w1, w2⟩ := h4.2 c1.1 c1.2 hc1
                  have ho1 := oBe_ok hh.1 ho hx
                  exact ⟨zc, w1, w2 _ (by omega) g3⟩
              · cases hc0
            split at h
            · rename_i g hg
              cases h
              have hv := fdD_ok hg hh.2.1.1.2 y1 hx
              rw [y2] at hv
              exact kk _ List.mem_cons_self ρ α ls lvl _ ws H locs (rep_push h2 ⟨_, hv, by rw [Int64.ofInt_toInt]⟩)
            · split at h
              · rename_i i1 hi1
                cases h
                have ez := (jrg_ok z1 hi1 z2).2
                have hF : bxOk (ρ ++ σ) (fDec r.2 c0 f) := by
                  refine ⟨[z, zc, x], ⟨z2, lfv_v2 (getE_mono σ y1), lfv_mono σ hx, trivial⟩, (bxS_t (t := 1)).mpr ?_⟩
                  show pDec z zc x
                  refine ⟨g4, ?_⟩
                  rw [y2, ← z3, ez]
                exact kk _ List.mem_cons_self (ρ ++ σ) α ls lvl _ ws H locs (rep_ad1 (rep_push (rep_env h2 z1) ⟨z, z2, by rw [z3]⟩) hF)
              · cases h
        · cases h
      · cases h
    · cases h
  · split at h
    · rename_i g f j st'
      split at h
      · rename_i k n sg i1 hf hi
        cases hb : ile 0 i1.1 && ile (i1.2 + 1) n
        · rw [hb] at h; cases h
        · rw [hb] at h
          dsimp only [cond_true] at h
          intro ρ α ls lvl stk ws H locs hh
          obtain ⟨y, stk0, rfl, hy, h00⟩ := rep_popL hh
          obtain ⟨x, stk1, rfl, hx, h0⟩ := rep_popI h00
          obtain ⟨a, stk', rfl, h1, h2⟩ := rep_popR h0
          obtain ⟨u, h3, F, rfl, h4⟩ := rep_cell h2 hf h1
          obtain ⟨g1, g2, g3, g4, g5, g6, g7⟩ := ald_in hh.1 hx hi hb
          refine va_last X.1 X.2.1 X.2.2.2.2.2.1 h2.2.2.2.2.2.2.1 h2.2.2.2.2.2.2.2.1 h2.2.2.2.2.2.2.2.2 k 2 h3 rfl g1 hd (fun H1 locs1 gP gD gS => ?_)
          rw [g2] at gP gD
          split at h
          · rename_i q hq
            cases h
            obtain ⟨σ, w1, ⟨w2, w3⟩, w4⟩ := cdL_ok hh.1 hx hi g4 g3 hy h4.1 h4.2 hq
            exact kk _ List.mem_cons_self (ρ ++ σ) α ls lvl stk' _ H1 locs1 (rep_addFs (rep_set (rep_env h2 w1) hf h1 ⟨_, rfl, w2, w3⟩ gP gD gS) w4)
          · cases h
            refine kk _ List.mem_cons_self ρ α ls lvl stk' _ H1 locs1 (rep_set h2 hf h1 ⟨_, rfl, fun q hq => ?_, ?_⟩ gP gD gS)
            · cases hb2 : ile i1.2 i1.1
              · exact ⟨.inl (mnL, mxL), sga_lt1 hq, fullL _⟩
              · have := ile_t hb2
                have e0 : i1.1 = x := by omega
                rw [e0]
                show ∃ z', sga (cdX (sgs (cdX sg) x.toNat (.inr (.inr (.inl g))))) q = some z' ∧ _
                rw [sga_cX]
                obtain ⟨u0, u1, u2⟩ := h4.1 _ g3
                by_cases e : q = x.toNat
                · rw [e, pk_uLs]
                  exact ⟨_, sgs_at (cdX sg) _ _ ((sga_cX sg _).trans u1), y, hy, rfl⟩
                · rw [pk_uLn e]
                  obtain ⟨v0, v1, v2⟩ := h4.1 q hq
                  exact ⟨v0, by rw [sgs_ne (cdX sg) _ _ e, sga_cX]; exact v1, v2⟩
            · cases hb2 : ile i1.2 i1.1
              · exact cdO_none (by show bq (Nat.beq n 0) none none = none; cases Nat.beq n 0 <;> rfl)
              · exact cdO_X _ _ _ _
      · cases h
    · cases h
  · cases h
/-! Math.max, Math.min: what they answer is told -/
def fMx (o : Nat) (z f g : eLF) : eFa := (Sum.inr (1000087 + o), [z, f, g])
def mxo (o : Nat) (env : eEv) (lo : List (Nat × eSV)) (st : List eSV) (hp : eHp) (na : eNa) (nc ns pc : Nat) : Option (List eSt) := match st with
  | .inl g :: .inl f :: st' => bif cok8 st' then (match ibin o env f g, irg env f, irg env g with
    | some r, some _, some _ => (match irg r.1 r.2 with
      | some _ => some [(r.1, lo, .inl r.2 :: st', hp, ad1 na (fMx o r.2 f g), nc, ns, pc + 3)]
      | none => none)
    | _, _, _ => none) else none
  | _ => none
theorem m2x_i {z x y : Int} (hz : (Int32.ofInt z).toInt = z) (hx : (Int32.ofInt x).toInt = x) (hy : (Int32.ofInt y).toInt = y) (h : Int32.ofInt z = ibf 11 (Int32.ofInt x) (Int32.ofInt y)) : z = m2x x y := by
  have q := m2x_c x y
  have e1 : (ibf 11 (Int32.ofInt x) (Int32.ofInt y)).toInt = z := by rw [← h, hz]
  have e2 : ibf 11 (Int32.ofInt x) (Int32.ofInt y) = if Int32.ofInt x < Int32.ofInt y then Int32.ofInt y else Int32.ofInt x := rfl
  rw [e2] at e1
  by_cases hc : Int32.ofInt x < Int32.ofInt y
  · rw [if_pos hc, hy] at e1
    rw [Int32.lt_iff_toInt_lt, hx, hy] at hc
    omega
  · rw [if_neg hc, hx] at e1
    rw [Int32.lt_iff_toInt_lt, hx, hy] at hc
    omega
theorem m2n_i {z x y : Int} (hz : (Int32.ofInt z).toInt = z) (hx : (Int32.ofInt x).toInt = x) (hy : (Int32.ofInt y).toInt = y) (h : Int32.ofInt z = ibf 12 (Int32.ofInt x) (Int32.ofInt y)) : z = m2n x y := by
  have q := m2n_c x y
  have e1 : (ibf 12 (Int32.ofInt x) (Int32.ofInt y)).toInt = z := by rw [← h, hz]
  have e2 : ibf 12 (Int32.ofInt x) (Int32.ofInt y) = if Int32.ofInt y < Int32.ofInt x then Int32.ofInt y else Int32.ofInt x := rfl
  rw [e2] at e1
  by_cases hc : Int32.ofInt y < Int32.ofInt x
  · rw [if_pos hc, hy] at e1
    rw [Int32.lt_iff_toInt_lt, hx, hy] at hc
    omega
  · rw [if_neg hc, hx] at e1
    rw [Int32.lt_iff_toInt_lt, hx, hy] at hc
    omega
theorem mxo_ok {o : Nat} {L : List eSt} (hP : ∀ z x y : Int, (Int32.ofInt z).toInt = z → (Int32.ofInt x).toInt = x → (Int32.ofInt y).toInt = y → Int32.ofInt z = ibf o (Int32.ofInt x) (Int32.ofInt y) → PR (87 + o) [z, x, y]) (row : ∀ (x y : Int32) (H : Heap) (locs : List Loc) (ls : Array Slot) (rest : List Value), ls.size = nL → (rest.map fun v => v.category).sum ≤ 8 → W p l e R s m args below meth c H locs (cb + nc) (sb + ns) Q (F0 m (pc + 3) ls (.int (ibf o x y) :: rest)) → W p l e R s m args below meth c H locs (cb + nc) (sb + ns) Q (F0 m pc ls (.int y :: .int x :: rest))) (h : mxo o env lo st hp na nc ns pc = some L) (kk : ∀ S ∈ L, GS p l e R s m args below meth c Q D ca A nL cb sb r0 a0 S) : eG p l e R s m args below meth c Q D ca A nL cb sb r0 a0 env lo st hp na nc ns pc := by
  unfold mxo at h
  split at h
  · rename_i g f st'
    cases hb : cok8 st'
    · rw [hb] at h; cases h
    · rw [hb] at h
      dsimp only [cond_true] at h
      split at h
      · rename_i r i j hr hi hj
        split at h
        · rename_i i2 hi2
          cases h
          have k := kk _ List.mem_cons_self
          intro ρ α ls lvl stk ws H locs hh
          obtain ⟨y, stk1, rfl, hy, h1⟩ := rep_popI hh
          obtain ⟨x, stk2, rfl, hx, h2⟩ := rep_popI h1
          obtain ⟨⟨σ, z, q1, q2, q3⟩, q4⟩ := ibin_ok o h2.1 hx hy hr
          have ez := (irg_ok q1 hi2 q2).2
          have ex := (irg_ok h2.1 hi hx).2
          have ey := (irg_ok h2.1 hj hy).2
          have hc : (stk2.map fun v => v.category).sum ≤ 8 := by
            have : ∀ {sv : List eSV} {vs : List Value}, R2 (vok ρ α) sv vs → (vs.map fun v => v.category).sum = (sv.map ecat).sum := by
              intro sv
              induction sv with
              | nil => intro vs hr; rw [R2.nil_inv hr]; rfl
              | cons a t ih =>
                intro vs hr
                obtain ⟨b, t', rfl, g1, g2⟩ := R2.cons_inv hr
                simp [ih g2, vok_cat g1]
            rw [this h2.2.2.2.2.1]
            exact Nat.le_of_ble_eq_true hb
          refine row _ _ H locs ls stk2 h2.2.2.1.1 hc ?_
          rw [← q3]
          refine k (ρ ++ σ) α ls lvl _ ws H locs (rep_ad1 (rep_push (rep_env h2 q1) ⟨z, q2, rfl⟩) ⟨[z, x, y], ⟨q2, lfv_mono σ hx, lfv_mono σ hy, trivial⟩, ?_⟩)
          have e : (1000087 + o) = 1000000 + (87 + o) := by omega
          show bxS (Sum.inr (1000087 + o)) [z, x, y]
          rw [e]
          exact bxS_t.mpr (hP z x y ez ex ey q3)
        · cases h
      · cases h
  · cases h
def cRowM (own : String) (i : Instr) (x : Nat) : Prop := match i with
  | .invokestatic idx => (x = 890 ∧ Cond.methodLink own idx Lib.Math.max.name ∈ gtbl) ∨ (x = 891 ∧ Cond.methodLink own idx Lib.Math.min.name ∈ gtbl)
  | _ => False
def cstM (Rc Rs : Nat) (i : Instr) (x : Nat) (env : eEv) (lo : List (Nat × eSV)) (st : List eSV) (hp : eHp) (na : eNa) (nc ns pc : Nat) : Option (List eSt) := match i with
  | .invokestatic _ => bif Nat.ble nc Rc && Nat.ble ns Rs then (bif Nat.beq x 890 then mxo 11 env lo st hp na nc ns pc else mxo 12 env lo st hp na nc ns pc) else none
  | _ => none
theorem cstM_ok (X : eCx p R s m args c D ca A nL own cc a0) (hl : libW) {Rc Rs : Nat} (hRc : cb + Rc ≤ R.cells) (hRs : sb + Rs ≤ R.slots) {i : Instr} {len x : Nat} (hd : decode cc pc = .ok (i, ilen i len)) (hw : cRowM own i x) {L : List eSt} (h : cstM Rc Rs i x env lo st hp na nc ns pc = some L) (kk : ∀ S ∈ L, GS p l e R s m args below meth c Q D ca A nL cb sb r0 a0 S) : eG p l e R s m args below meth c Q D ca A nL cb sb r0 a0 env lo st hp na nc ns pc := by
  unfold cstM at h
  split at h
  · rename_i idx
    cases hb0 : Nat.ble nc Rc && Nat.ble ns Rs
    · rw [hb0] at h; cases h
    · rw [hb0] at h
      rw [Bool.and_eq_true] at hb0
      have c1 := Nat.le_of_ble_eq_true hb0.1
      have c2 := Nat.le_of_ble_eq_true hb0.2
      dsimp only [cond_true] at h
      have hw' : (x = 890 ∧ Cond.methodLink own idx Lib.Math.max.name ∈ gtbl) ∨ (x = 891 ∧ Cond.methodLink own idx Lib.Math.min.name ∈ gtbl) := hw
      rcases hw' with ⟨rfl, w⟩ | ⟨rfl, w⟩
      · exact mxo_ok (o := 11) (fun z x y h1 h2 h3 h4 => by rw [PR3 (by decide)]; exact m2x_i h1 h2 h3 h4) (fun x y H locs ls rest hz hcat kk => va_mmax X.1 X.2.1 (by rw [X.2.2.1, hz]) X.2.2.2.1 (X.2.2.2.2.1 _ w) (X.2.2.2.2.1 _ hl.1.1) (X.2.2.2.2.1 _ hl.2.2.2.1) (X.2.2.2.2.1 _ hl.1.2) X.2.2.2.2.2.2.2.2.1 (by have := X.2.2.2.2.2.2.2.2.2; omega) (by omega) (by omega) hd kk) h kk
      · exact mxo_ok (o := 12) (fun z x y h1 h2 h3 h4 => by rw [PR3 (by decide)]; exact m2n_i h1 h2 h3 h4) (fun x y H locs ls rest hz hcat kk => va_mmin X.1 X.2.1 (by rw [X.2.2.1, hz]) X.2.2.2.1 (X.2.2.2.2.1 _ w) (X.2.2.2.2.1 _ hl.2.1.1) (X.2.2.2.2.1 _ hl.2.2.2.1) (X.2.2.2.2.1 _ hl.2.1.2) X.2.2.2.2.2.2.2.2.1 (by have := X.2.2.2.2.2.2.2.2.2; omega) (by omega) (by omega) hd kk) h kk
  · cases h
end
end
