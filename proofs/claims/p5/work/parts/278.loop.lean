noncomputable section
/-! loops: templates that a run comes back to, with a measure that falls -/
def stT (T : eCut) : eSt := (T.2.1, T.2.2.1, T.2.2.2.1, T.2.2.2.2.1, T.2.2.2.2.2.1, T.2.2.2.2.2.2.1, T.2.2.2.2.2.2.2.1, T.1)
def msB (T : eCut) : Bool := match lrg T.2.1 T.2.2.2.2.2.2.2.2.1 with
  | some j => ile 0 (j.1 + T.2.2.2.2.2.2.2.2.2)
  | none => false
theorem msB_ok {T : eCut} (h : msB T = true) {ρ : List Int} (hE : eOk T.2.1 ρ) : ∃ x, lfv ρ T.2.2.2.2.2.2.2.2 x ∧ 0 ≤ x := by
  unfold msB at h
  split at h
  · rename_i j hj
    obtain ⟨x, hx⟩ := lrg_ex hE hj
    have hd : lfv ρ T.2.2.2.2.2.2.2.2 (x + T.2.2.2.2.2.2.2.2.2) := by
      show lev ρ T.2.2.2.2.2.2.2.2.1 = some (x + T.2.2.2.2.2.2.2.2.2 - T.2.2.2.2.2.2.2.2.2)
      rw [hx]
      congr 1
      omega
    have q := lrg_ok hE hj hx
    exact ⟨_, hd, by have := ile_t h; have := q.1; omega⟩
  · cases h
def ctB (stF : eRc → eRc) (CT : List eCut) (FL : List Nat) (nv0 na0 : Nat) (z : eCut × Nat × List eAn) : Bool :=
  msB z.1 && (match z.2.2 with
    | a :: an => (opG stF (runF stF CT FL nv0 na0 (some z.1.2.2.2.2.2.2.2.2) z.2.1) a an (stT z.1)).isSome
    | [] => false)
def preQ (K : eK) (ini : Bool) (q : MethodName × ByteArray × Nat × Option FieldType) : Bool := Nat.ble (K.2.1.2.1.map ecat).sum q.2.2.1 && Nat.ble 1 K.2.2.2.2.2 && (bif ini then decide (q.1.name = "<init>") else true)
def mQ (k : Nat) (q : MethodName × ByteArray × Nat × Option FieldType) (C : eCode) : Prop := mq k = q ∧ plainName q.1.cls = true ∧ k < 376 ∧ codOk q.1.cls q.2.1 C
theorem K_gq {l : Launch} {D : va_G} {ca : Nat → ClassId} {K : eK} {C : eCode} {KS : List eK} {ini : Bool} {FL : List Nat} {n k : Nat} {an : List eAn} {q : MethodName × ByteArray × Nat × Option FieldType} (hq : mQ k q C) (hk : K.1 = k) (hp : preQ K ini q = true) (hKS : ∀ K' ∈ KS, KMet l D ca K')
    (hrun : (run ini q.2.2.1 K.2.2.2.2.2 (60 * K.2.2.2.2.2) K.2.2.2.1 K.2.2.2.2.1 C KS [] FL 0 0 none (rB K q.2.2.2) n an (S0 K)).isSome = true) : KMet l D ca K := by
  obtain ⟨rfl, p2, p1, hC⟩ := hq
  subst hk
  unfold preQ at hp
  simp only [Bool.and_eq_true] at hp
  obtain ⟨⟨p3, p4⟩, p5⟩ := hp
  obtain ⟨an', h⟩ := Option.isSome_iff_exists.mp hrun
  exact K_of hlib (mq_ok p1) p2 (Nat.le_of_ble_eq_true p3) (Nat.le_of_ble_eq_true p4) hC hKS (ini := ini) (fun z => by rw [z] at p5; exact of_decide_eq_true p5) h
theorem K_goL {l : Launch} {D : va_G} {ca : Nat → ClassId} {K : eK} {C : eCode} {KS : List eK} {ini : Bool} {FL : List Nat} {n : Nat} {an : List eAn} {Z : List (eCut × Nat × List eAn)} (p1 : K.1 < 376) (p2 : plainName (mq K.1).1.cls = true) (hp : preQ K ini (mq K.1) = true) (hC : codOk (mq K.1).1.cls (mq K.1).2.1 C) (hKS : ∀ K' ∈ KS, KMet l D ca K')
    (hrun : (run ini (mq K.1).2.2.1 K.2.2.2.2.2 (60 * K.2.2.2.2.2) K.2.2.2.1 K.2.2.2.2.1 C KS (Z.map (fun z => z.1)) FL K.2.1.1.1 K.2.1.2.2.2.1 none (rB K (mq K.1).2.2.2) n an (S0 K)).isSome = true)
    (hct : Z.all (ctB (stepR ini (mq K.1).2.2.1 K.2.2.2.2.2 (60 * K.2.2.2.2.2) K.2.2.2.1 K.2.2.2.2.1 C KS (rB K (mq K.1).2.2.2)) (Z.map (fun z => z.1)) FL K.2.1.1.1 K.2.1.2.2.2.1) = true) : KMet l D ca K := by
  unfold preQ at hp
  simp only [Bool.and_eq_true] at hp
  obtain ⟨⟨p3, p4⟩, p5⟩ := hp
  obtain ⟨an', hr⟩ := Option.isSome_iff_exists.mp hrun
  have hini : ini = true → (mq K.1).1.name = "<init>" := fun z => by rw [z] at p5; exact of_decide_eq_true p5
  generalize hCT : Z.map (fun z => z.1) = CT at hr hct
  have hct2 : ∀ T ∈ CT, msB T = true ∧ ∃ n a an an', opG (stepR ini (mq K.1).2.2.1 K.2.2.2.2.2 (60 * K.2.2.2.2.2) K.2.2.2.1 K.2.2.2.2.1 C KS (rB K (mq K.1).2.2.2)) (runF (stepR ini (mq K.1).2.2.1 K.2.2.2.2.2 (60 * K.2.2.2.2.2) K.2.2.2.1 K.2.2.2.2.1 C KS (rB K (mq K.1).2.2.2)) CT FL K.2.1.1.1 K.2.1.2.2.2.1 (some T.2.2.2.2.2.2.2.2) n) a an (stT T) = some an' := by
    intro T hT
    rw [← hCT] at hT
    obtain ⟨z, hz, rfl⟩ := List.mem_map.mp hT
    have h1 := List.all_eq_true.mp hct z hz
    unfold ctB at h1
    rw [Bool.and_eq_true] at h1
    refine ⟨h1.1, ?_⟩
    have h2 := h1.2
    split at h2
    · obtain ⟨a', ha⟩ := Option.isSome_iff_exists.mp h2
      exact ⟨_, _, _, a', ha⟩
    · cases h2
  refine mk_K (mq_ok p1) p2 (Nat.le_of_ble_eq_true p3) (Nat.le_of_ble_eq_true p4) (fun p e s m args below meth c ρ α ws X hnm hlk hrt hρ hα => ?_)
  have hI : ini = true → meth.name = "<init>" := fun z => by rw [hnm]; exact hini z
  have hret0 : ∀ (r0 : List Int) (a0 : List Nat), ρ <+: r0 → α <+: a0 → ∀ (a : eAn) (env : eEv) (lo : List (Nat × eSV)) (hp : eHp) (na : eNa) (nc ns pc : Nat), decode (mq K.1).2.1 pc = .ok (.return_, 1) → rB K (mq K.1).2.2.2 a (env, lo, [], hp, na, nc, ns, pc) none = true → eG p l e (rmK K) s m args below meth c (MQ below (QK D ca K ρ α ws s.heap.size) args s K.2.2.2.1 K.2.2.2.2.1 (va_A ws s.heap.size)) D ca (va_A ws s.heap.size) (mq K.1).2.2.1 0 0 r0 a0 env lo [] hp na nc ns pc := by
    intro r0 a0 z1 z2 a env lo hp na nc ns pc hd hb
    unfold rB at hb
    rw [Bool.and_eq_true, Bool.and_eq_true, Bool.and_eq_true] at hb
    obtain ⟨⟨⟨b1, b2⟩, b3⟩, b4⟩ := hb
    have hr : meth.sig.returnType = none := by
      rw [hrt]
      generalize (mq K.1).2.2.2 = o at b4
      cases o
      · rfl
      · cases b4
    exact g_ret (eCx_mono X z2) rfl rfl hlk hr z1 z2 hρ hα hd (by rw [Nat.zero_add]; exact Nat.le_of_ble_eq_true b2) (by rw [Nat.zero_add]; exact Nat.le_of_ble_eq_true b3) b1
  have hret1 : ∀ (r0 : List Int) (a0 : List Nat), ρ <+: r0 → α <+: a0 → ∀ (a : eAn) (env : eEv) (lo : List (Nat × eSV)) (hp : eHp) (na : eNa) (nc ns pc : Nat) (f : eLF), decode (mq K.1).2.1 pc = .ok (.ireturn, 1) → rB K (mq K.1).2.2.2 a (env, lo, [.inl f], hp, na, nc, ns, pc) (some (.inl f)) = true → eG p l e (rmK K) s m args below meth c (MQ below (QK D ca K ρ α ws s.heap.size) args s K.2.2.2.1 K.2.2.2.2.1 (va_A ws s.heap.size)) D ca (va_A ws s.heap.size) (mq K.1).2.2.1 0 0 r0 a0 env lo [.inl f] hp na nc ns pc := by
    intro r0 a0 z1 z2 a env lo hp na nc ns pc f hd hb
    unfold rB at hb
    rw [Bool.and_eq_true, Bool.and_eq_true, Bool.and_eq_true] at hb
    obtain ⟨⟨⟨b1, b2⟩, b3⟩, b4⟩ := hb
    obtain ⟨rt, e1, e2⟩ : ∃ rt, (mq K.1).2.2.2 = some rt ∧ pok rt env (.inl f) = true := by
      generalize (mq K.1).2.2.2 = o at b4
      cases o
      · cases b4
      · exact ⟨_, rfl, b4⟩
    exact g_iret (eCx_mono X z2) rfl rfl hlk (hrt.trans e1) z1 z2 hρ hα hd e2 (by rw [Nat.zero_add]; exact Nat.le_of_ble_eq_true b2) (by rw [Nat.zero_add]; exact Nat.le_of_ble_eq_true b3) b1
  have hret2 : ∀ (r0 : List Int) (a0 : List Nat), ρ <+: r0 → α <+: a0 → ∀ (a : eAn) (env : eEv) (lo : List (Nat × eSV)) (hp : eHp) (na : eNa) (nc ns pc : Nat) (f : eLF), decode (mq K.1).2.1 pc = .ok (.lreturn, 1) → rB K (mq K.1).2.2.2 a (env, lo, [.inr (.inl f)], hp, na, nc, ns, pc) (some (.inr (.inl f))) = true → eG p l e (rmK K) s m args below meth c (MQ below (QK D ca K ρ α ws s.heap.size) args s K.2.2.2.1 K.2.2.2.2.1 (va_A ws s.heap.size)) D ca (va_A ws s.heap.size) (mq K.1).2.2.1 0 0 r0 a0 env lo [.inr (.inl f)] hp na nc ns pc := by
    intro r0 a0 z1 z2 a env lo hp na nc ns pc f hd hb
    unfold rB at hb
    rw [Bool.and_eq_true, Bool.and_eq_true, Bool.and_eq_true] at hb
    obtain ⟨⟨⟨b1, b2⟩, b3⟩, b4⟩ := hb
    have hr : meth.sig.returnType = some .long := by
      rw [hrt]
      generalize (mq K.1).2.2.2 = o at b4
      cases o with
      | none => cases b4
      | some t => cases t <;> first | rfl | (cases b4; done)
    exact g_lret (eCx_mono X z2) rfl rfl hlk hr z1 z2 hρ hα hd (by rw [Nat.zero_add]; exact Nat.le_of_ble_eq_true b2) (by rw [Nat.zero_add]; exact Nat.le_of_ble_eq_true b3) b1
  have hret3 : ∀ (r0 : List Int) (a0 : List Nat), ρ <+: r0 → α <+: a0 → ∀ (a : eAn) (env : eEv) (lo : List (Nat × eSV)) (hp : eHp) (na : eNa) (nc ns pc : Nat) (i : Nat), decode (mq K.1).2.1 pc = .ok (.areturn, 1) → rB K (mq K.1).2.2.2 a (env, lo, [.inr (.inr (some i))], hp, na, nc, ns, pc) (some (.inr (.inr (some i)))) = true → eG p l e (rmK K) s m args below meth c (MQ below (QK D ca K ρ α ws s.heap.size) args s K.2.2.2.1 K.2.2.2.2.1 (va_A ws s.heap.size)) D ca (va_A ws s.heap.size) (mq K.1).2.2.1 0 0 r0 a0 env lo [.inr (.inr (some i))] hp na nc ns pc := by
    intro r0 a0 z1 z2 a env lo hp na nc ns pc i hd hb
    unfold rB at hb
    rw [Bool.and_eq_true, Bool.and_eq_true, Bool.and_eq_true] at hb
    obtain ⟨⟨⟨b1, b2⟩, b3⟩, b4⟩ := hb
    obtain ⟨rt, e1, e2⟩ : ∃ rt, (mq K.1).2.2.2 = some rt ∧ ((∃ n, rt = .object n) ∨ ∃ t, rt = .array t) := by
      generalize (mq K.1).2.2.2 = o at b4
      cases o with
      | none => cases b4
      | some t => cases t <;> first | (cases b4; done) | exact ⟨_, rfl, Or.inl ⟨_, rfl⟩⟩ | exact ⟨_, rfl, Or.inr ⟨_, rfl⟩⟩
    exact g_aret (eCx_mono X z2) rfl rfl hlk (hrt.trans e1) e2 z1 z2 hρ hα hd (by rw [Nat.zero_add]; exact Nat.le_of_ble_eq_true b2) (by rw [Nat.zero_add]; exact Nat.le_of_ble_eq_true b3) b1
  have loop : ∀ (N : Nat) (T : eCut), T ∈ CT → ∀ (ρ1 : List Int) (α1 : List Nat) (ls : Array Slot) (lvl : List (Nat × Value)) (stk : List Value) (ws1 : va_W) (H : Heap) (locs : List Loc), eRep s D ca (va_A ws s.heap.size) (mq K.1).2.2.1 ρ α T.2.1 T.2.2.1 T.2.2.2.1 T.2.2.2.2.1 T.2.2.2.2.2.1 ρ1 α1 ls lvl stk ws1 H locs → ∀ x, lfv ρ1 T.2.2.2.2.2.2.2.2 x → x < (N : Int) →
      W p l e (rmK K) s m args below meth c H locs (0 + T.2.2.2.2.2.2.1) (0 + T.2.2.2.2.2.2.2.1) (MQ below (QK D ca K ρ α ws s.heap.size) args s K.2.2.2.1 K.2.2.2.2.1 (va_A ws s.heap.size)) (F0 m T.1 ls stk) := by
    intro N
    induction N with
    | zero =>
      intro T hT ρ1 α1 ls lvl stk ws1 H locs hh x hx hN
      obtain ⟨y, y1, y2⟩ := msB_ok (hct2 T hT).1 hh.1
      have : x = y := lfv_fun hx y1
      omega
    | succ N ih =>
      intro T hT ρ1 α1 ls lvl stk ws1 H locs hh x hx hN
      obtain ⟨n1, a1, an1, an2, hs⟩ := (hct2 T hT).2
      have z1 : ρ <+: ρ1 := hh.2.1.2.1
      have z2 : α <+: α1 := hh.2.1.2.2
      have hstF : ∀ rec : eRc, (∀ an S an', rec an S = some an' → GS p l e (rmK K) s m args below meth c (MQ below (QK D ca K ρ α ws s.heap.size) args s K.2.2.2.1 K.2.2.2.2.1 (va_A ws s.heap.size)) D ca (va_A ws s.heap.size) (mq K.1).2.2.1 0 0 ρ1 α1 S) → ∀ an S an', stepR ini (mq K.1).2.2.1 K.2.2.2.2.2 (60 * K.2.2.2.2.2) K.2.2.2.1 K.2.2.2.2.1 C KS (rB K (mq K.1).2.2.2) rec an S = some an' → GS p l e (rmK K) s m args below meth c (MQ below (QK D ca K ρ α ws s.heap.size) args s K.2.2.2.1 K.2.2.2.2.1 (va_A ws s.heap.size)) D ca (va_A ws s.heap.size) (mq K.1).2.2.1 0 0 ρ1 α1 S := fun rec hrec an S an' h => stepR_ok (eCx_mono X z2) hlib hI (Nat.le_refl _) (Nat.le_refl _) (by rw [Nat.zero_add]; exact Nat.le_refl _) (by rw [Nat.zero_add]; exact Nat.le_refl _) hC hKS (hret0 ρ1 α1 z1 z2) (hret1 ρ1 α1 z1 z2) ⟨hret2 ρ1 α1 z1 z2, hret3 ρ1 α1 z1 z2⟩ (fun a S a' hr => hrec a S a' hr) h
      have ihr : ∀ an S an', runF (stepR ini (mq K.1).2.2.1 K.2.2.2.2.2 (60 * K.2.2.2.2.2) K.2.2.2.1 K.2.2.2.2.1 C KS (rB K (mq K.1).2.2.2)) CT FL K.2.1.1.1 K.2.1.2.2.2.1 (some T.2.2.2.2.2.2.2.2) n1 an S = some an' → GS p l e (rmK K) s m args below meth c (MQ below (QK D ca K ρ α ws s.heap.size) args s K.2.2.2.1 K.2.2.2.2.1 (va_A ws s.heap.size)) D ca (va_A ws s.heap.size) (mq K.1).2.2.1 0 0 ρ1 α1 S := fun an S an' hr => runF_ok hstF (fun a' S' hc => cut_ok z1 z2 hρ hα (fun μ hμ => by cases hμ; exact ⟨x, hx⟩) hc (fun T' hT' ρ2 α2 ls2 lvl2 stk2 ws2 H2 locs2 hh2 hm2 => by
          obtain ⟨y, y1, y2⟩ := hm2 _ x rfl hx
          exact ih T' hT' ρ2 α2 ls2 lvl2 stk2 ws2 H2 locs2 hh2 y y1 (by omega))) n1 an S an' hr
      have G := opG_ok (S := stT T) ihr (hstF _ ihr) hs
      exact G ρ1 α1 ls lvl stk ws1 H locs ⟨hh.1, ⟨hh.2.1.1, List.prefix_refl _, List.prefix_refl _⟩, hh.2.2⟩
  refine run_ok (S := S0 K) X hlib hI (Nat.le_refl _) (Nat.le_refl _) (by rw [Nat.zero_add]; exact Nat.le_refl _) (by rw [Nat.zero_add]; exact Nat.le_refl _) hC hKS (hret0 ρ α (List.prefix_refl _) (List.prefix_refl _)) (hret1 ρ α (List.prefix_refl _) (List.prefix_refl _)) ⟨hret2 ρ α (List.prefix_refl _) (List.prefix_refl _), hret3 ρ α (List.prefix_refl _) (List.prefix_refl _)⟩ (fun a' S hc => ?_) n an an' hr
  refine cut_ok (List.prefix_refl _) (List.prefix_refl _) hρ hα (fun μ hμ => by cases hμ) hc (fun T hT ρ1 α1 ls lvl stk ws1 H locs hh _ => ?_)
  obtain ⟨y, y1, y2⟩ := msB_ok (hct2 T hT).1 hh.1
  exact loop (y.toNat + 1) T hT ρ1 α1 ls lvl stk ws1 H locs hh y y1 (by omega)
theorem K_gqL {l : Launch} {D : va_G} {ca : Nat → ClassId} {K : eK} {C : eCode} {KS : List eK} {ini : Bool} {FL : List Nat} {n k : Nat} {an : List eAn} {Z : List (eCut × Nat × List eAn)} {q : MethodName × ByteArray × Nat × Option FieldType} (hq : mQ k q C) (hk : K.1 = k) (hp : preQ K ini q = true) (hKS : ∀ K' ∈ KS, KMet l D ca K')
    (hrun : (run ini q.2.2.1 K.2.2.2.2.2 (60 * K.2.2.2.2.2) K.2.2.2.1 K.2.2.2.2.1 C KS (Z.map (fun z => z.1)) FL K.2.1.1.1 K.2.1.2.2.2.1 none (rB K q.2.2.2) n an (S0 K)).isSome = true)
    (hct : Z.all (ctB (stepR ini q.2.2.1 K.2.2.2.2.2 (60 * K.2.2.2.2.2) K.2.2.2.1 K.2.2.2.2.1 C KS (rB K q.2.2.2)) (Z.map (fun z => z.1)) FL K.2.1.1.1 K.2.1.2.2.2.1) = true) : KMet l D ca K := by
  obtain ⟨rfl, p2, p1, hC⟩ := hq
  subst hk
  exact K_goL p1 p2 hp hC hKS hrun hct
end
