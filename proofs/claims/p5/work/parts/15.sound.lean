noncomputable section
/-! what the function says of an instruction holds -/
def ilen (i : Instr) (len : Nat) : Nat := match i with
  | .tableswitch .. => len
  | .lookupswitch .. => len
  | .bipush _ => 2
  | .ldc _ => 2
  | .iload _ => 2
  | .lload _ => 2
  | .aload _ => 2
  | .istore _ => 2
  | .lstore _ => 2
  | .astore _ => 2
  | .newarray _ => 2
  | .sipush _ => 3
  | .ldc2_w _ => 3
  | .ldc_w _ => 3
  | .getstatic _ => 3
  | .iinc .. => 3
  | .getfield _ => 3
  | .putfield _ => 3
  | .new _ => 3
  | .anewarray _ => 3
  | .invokevirtual _ => 3
  | .invokespecial _ => 3
  | .invokestatic _ => 3
  | .goto _ => 3
  | .if_icmp .. => 3
  | .ifCond .. => 3
  | .ifnonnull _ => 3
  | _ => 1
theorem opl_mem {o : Option eEv} {f : eEv → eSt} {e' : eEv} (h : o = some e') : f e' ∈ opl o f := by
  subst h
  exact List.mem_cons_self
theorem nat?_ok {z : Int} {t : Nat} (h : nat? z = some t) : z = (t : Int) := by
  unfold nat? at h
  split at h
  · cases h; rfl
  · cases h
theorem spl_mem {env : eEv} {f : eLF} {mk : eEv → eSt} {lo_ : Int} : ∀ (n : Nat) {v : Int} {e' : eEv}, lo_ ≤ v → v < lo_ + n → cEq env f (fc v) = some e' → mk e' ∈ spl env f mk lo_ n
  | 0, v, e', h1, h2, h3 => by omega
  | n + 1, v, e', h1, h2, h3 => by
    unfold spl
    by_cases hv : v = lo_ + n
    · subst hv
      rw [h3]
      exact List.mem_cons_self
    · have := spl_mem (mk := mk) n h1 (by omega) h3
      split
      · exact List.mem_cons_of_mem _ this
      · exact this
section
variable {p : Program} {l : Launch} {e : Env} {R : Room} {s : State} {m : MethodId} {args : Array Value} {below : List Frame} {meth : Method} {c : Code} {Q : State → Prop} {D : va_G} {ca : Nat → ClassId} {A : Nat → Prop} {nL cb sb : Nat} {r0 : List Int} {a0 : List Nat} {own : String} {cc : ByteArray} {env : eEv} {lo : List (Nat × eSV)} {st : List eSV} {hp : eHp} {na : eNa} {nc ns pc : Nat}
theorem sBin_ok {o pc' : Nat} {L : List eSt} (h : sBin o env lo st hp na nc ns pc' = some L) (kk : ∀ S ∈ L, GS p l e R s m args below meth c Q D ca A nL cb sb r0 a0 S) : ∃ f g st' r, st = .inl g :: .inl f :: st' ∧ ibin o env f g = some r ∧ eG p l e R s m args below meth c Q D ca A nL cb sb r0 a0 r.1 lo (.inl r.2 :: st') hp na nc ns pc' := by
  unfold sBin at h
  split at h
  · rename_i g f st'
    split at h
    · rename_i r hr
      cases h
      exact ⟨f, g, st', r, rfl, hr, kk _ List.mem_cons_self⟩
    · cases h
  · cases h
theorem sBinL_ok {o pc' : Nat} {L : List eSt} (h : sBinL o env lo st hp na nc ns pc' = some L) (kk : ∀ S ∈ L, GS p l e R s m args below meth c Q D ca A nL cb sb r0 a0 S) : ∃ f g st' r, st = .inr (.inl g) :: .inr (.inl f) :: st' ∧ jbin o env f g = some r ∧ eG p l e R s m args below meth c Q D ca A nL cb sb r0 a0 r.1 lo (.inr (.inl r.2) :: st') hp na nc ns pc' := by
  unfold sBinL at h
  split at h
  · rename_i g f st'
    split at h
    · rename_i r hr
      cases h
      exact ⟨f, g, st', r, rfl, hr, kk _ List.mem_cons_self⟩
    · cases h
  · cases h
theorem sLd_ok {v : Option eSV} {t pc' : Nat} {L : List eSt} (h : sLd v t env lo st hp na nc ns pc' = some L) (kk : ∀ S ∈ L, GS p l e R s m args below meth c Q D ca A nL cb sb r0 a0 S) : ∃ w, v = some w ∧ eG p l e R s m args below meth c Q D ca A nL cb sb r0 a0 env lo (w :: st) hp na nc ns pc' ∧ (t = 0 → ∃ f, w = .inl f) ∧ (t = 1 → ∃ f, w = .inr (.inl f)) ∧ (t = 2 → ∃ j, w = .inr (.inr (some j))) := by
  unfold sLd at h
  split at h
  · cases h; exact ⟨_, rfl, kk _ List.mem_cons_self, fun _ => ⟨_, rfl⟩, fun h => (by cases h), fun h => (by cases h)⟩
  · cases h; exact ⟨_, rfl, kk _ List.mem_cons_self, fun h => (by cases h), fun _ => ⟨_, rfl⟩, fun h => (by cases h)⟩
  · cases h; exact ⟨_, rfl, kk _ List.mem_cons_self, fun h => (by cases h), fun h => (by cases h), fun _ => ⟨_, rfl⟩⟩
  · cases h
theorem sSt0_ok {i pc' : Nat} {L : List eSt} (h : sSt i 0 nL env lo st hp na nc ns pc' = some L) (kk : ∀ S ∈ L, GS p l e R s m args below meth c Q D ca A nL cb sb r0 a0 S) : ∃ f st', st = .inl f :: st' ∧ i < nL ∧ eG p l e R s m args below meth c Q D ca A nL cb sb r0 a0 env (lst1 i (.inl f) lo) st' hp na nc ns pc' := by
  unfold sSt at h
  split at h
  · cases hb : Nat.blt i nL
    · rw [hb] at h; cases h
    · rw [hb] at h; cases h; exact ⟨_, _, rfl, blt_t hb, kk _ List.mem_cons_self⟩
  · rename_i h0; cases h0
  · rename_i h0; cases h0
  · cases h
theorem sSt1_ok {i pc' : Nat} {L : List eSt} (h : sSt i 1 nL env lo st hp na nc ns pc' = some L) (kk : ∀ S ∈ L, GS p l e R s m args below meth c Q D ca A nL cb sb r0 a0 S) : ∃ f st', st = .inr (.inl f) :: st' ∧ i + 1 < nL ∧ eG p l e R s m args below meth c Q D ca A nL cb sb r0 a0 env (lst2 i (.inr (.inl f)) lo) st' hp na nc ns pc' := by
  unfold sSt at h
  split at h
  · rename_i h0; cases h0
  · cases hb : Nat.blt (i + 1) nL
    · rw [hb] at h; cases h
    · rw [hb] at h; cases h; exact ⟨_, _, rfl, blt_t hb, kk _ List.mem_cons_self⟩
  · rename_i h0; cases h0
  · cases h
theorem sSt2_ok {i pc' : Nat} {L : List eSt} (h : sSt i 2 nL env lo st hp na nc ns pc' = some L) (kk : ∀ S ∈ L, GS p l e R s m args below meth c Q D ca A nL cb sb r0 a0 S) : ∃ j st', st = .inr (.inr (some j)) :: st' ∧ i < nL ∧ eG p l e R s m args below meth c Q D ca A nL cb sb r0 a0 env (lst1 i (.inr (.inr (some j))) lo) st' hp na nc ns pc' := by
  unfold sSt at h
  split at h
  · rename_i h0; cases h0
  · rename_i h0; cases h0
  · cases hb : Nat.blt i nL
    · rw [hb] at h; cases h
    · rw [hb] at h; cases h; exact ⟨_, _, rfl, blt_t hb, kk _ List.mem_cons_self⟩
  · cases h
end
end
