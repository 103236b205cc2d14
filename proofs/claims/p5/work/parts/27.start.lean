noncomputable section
/-! what the law's entry gives -/
theorem gt_in {w : Cond} (h : w ∈ gtbl) : w ∈ lw_tbl := (List.mem_filter.mp h).1
theorem inst_in : vwCl.all (fun q => lw_tbl.any (fun v => decide (v = Cond.instantiable q.1 q.2.2))) = true := by decide +kernel
theorem st_K {s : State} {args : Array Value} (hts : ∀ w ∈ lw_tbl, w.before args s = true) : ∃ (D : va_G) (ca : Nat → ClassId), va_K D vwCl (tys0 ca) s := by
  have h : ∀ k : Nat, ∃ z : ClassId × (Nat → Nat), ∀ q : vw_C, vwCl[k]? = some q → u_Kn s q.1 q.2.1 q.2.2 z.1 z.2 := by
    intro k
    cases hq : vwCl[k]? with
    | none => exact ⟨(0, fun _ => 0), fun q h => by cases h⟩
    | some q =>
      have h1 := List.all_eq_true.mp inst_in q (List.mem_of_getElem? hq)
      obtain ⟨v, hv, e⟩ := List.any_eq_true.mp h1
      have e' := of_decide_eq_true e
      subst e'
      obtain ⟨c, iS, hk⟩ := u_known (C := q.1) (T := q.2.1) (N := q.2.2) (n := q.2.2) hts (fun w hw => gt_in ((cl_ok hq).1 w hw)) (hts _ hv)
      exact ⟨(c, iS), fun q' h' => by cases h'; exact hk⟩
  obtain ⟨f, hf⟩ := Classical.axiomOfChoice h
  have arr : ∀ t : FieldType, (∀ C, t ≠ .object C) → (Cond.arrayClass t).before args s = true → ∃ c, ArrOfT s c t ∧ va_RA s c t := by
    intro t ht hw
    obtain ⟨c, k, comp, h1, h2, h3⟩ := Cond.arrayClass_spec hw
    refine ⟨c, fun n z => ⟨fun k h => (by cases h), k, h2, comp, h3⟩, ?_⟩
    cases t <;> first | exact h1 | exact absurd rfl (ht _)
  have arq : ∀ C : String, (Cond.arrayOver (.object C)).before args s = true → ∃ c, ArrOfT s c (.object C) ∧ va_RA s c (.object C) := by
    intro C hw
    obtain ⟨comp, c, k, h1, _, h2, h3, h4⟩ := Cond.arrayOver_spec hw
    exact ⟨c, fun n z => ⟨fun k h => (by cases h), k, h2, comp, h3⟩, k, comp, h2, h3, h1, h4⟩
  obtain ⟨c0, b0⟩ := arr .byte (fun C h => by cases h) (hts _ (by decide +kernel))
  obtain ⟨c1, b1⟩ := arr .int (fun C h => by cases h) (hts _ (by decide +kernel))
  obtain ⟨c2, b2⟩ := arr .long (fun C h => by cases h) (hts _ (by decide +kernel))
  obtain ⟨c3, b3⟩ := arr .boolean (fun C h => by cases h) (hts _ (by decide +kernel))
  obtain ⟨c4, b4⟩ := arq "DrownedRooms$Image" (hts _ (by decide +kernel))
  obtain ⟨c5, b5⟩ := arq "DrownedRooms$Lake" (hts _ (by decide +kernel))
  refine ⟨(fun k => (f k).1, fun k => (f k).2), fun i => match i with | 0 => c0 | 1 => c1 | 2 => c2 | 3 => c3 | 4 => c4 | _ => c5, fun k q hq => hf k q hq, fun k q hq => ?_⟩
  match k, hq with
  | 0, hq => cases hq; exact b0
  | 1, hq => cases hq; exact b1
  | 2, hq => cases hq; exact b2
  | 3, hq => cases hq; exact b3
  | 4, hq => cases hq; exact b4
  | 5, hq => cases hq; exact b5
  | k + 6, hq => simp [tys0] at hq
theorem st_X {s : State} {args : Array Value} (hts : ∀ w ∈ lw_tbl, w.before args s = true) : XW s := by
  intro w hw
  have h1 := hts w (List.mem_filter.mp hw).1
  have h2 : isX w = true := (List.mem_filter.mp hw).2
  unfold isX at h2
  split at h2
  · exact va_tabs rfl rfl h1
  · exact va_AO.of h1
  · exact va_tabs rfl rfl h1
  · exact va_tabs rfl rfl h1
  · cases h2
theorem st_Z {s : State} {args : Array Value} {A : Nat → Prop} (hA : ∀ a : Nat, a < s.heap.size → ¬ A a) (hts : ∀ w ∈ lw_tbl, w.before args s = true) (hgv : (Jvm.Cond.and given_1 narrow_1).before args s = true) : ZW0 A s s.heap := by
  have hs := flat_of_before _ hgv
  refine ⟨fun z hz => ?_, ⟨?_, ?_⟩, fun r hr => ?_⟩
  · simp only [stZ, List.mem_cons, List.not_mem_nil, or_false] at hz
    rcases hz with rfl | rfl | rfl | rfl
    · exact va_Zof (hts (.laysStatic "java/lang/String" "COMPACT_STRINGS" "Z") (by decide +kernel)) (hts (.initialized "java/lang/String") (by decide +kernel)) (va_eqi (hs (.eq (.static "java/lang/String" "COMPACT_STRINGS" "Z") (.int 1)) (by decide +kernel))) hA
    · exact va_Zof (hts (.laysStatic "java/lang/StringUTF16" "$assertionsDisabled" "Z") (by decide +kernel)) (hts (.initialized "java/lang/StringUTF16") (by decide +kernel)) (va_eqi (hs (.eq (.static "java/lang/StringUTF16" "$assertionsDisabled" "Z") (.int 1)) (by decide +kernel))) hA
    · exact va_Zof (hts (.laysStatic "java/lang/StringUTF16" "HI_BYTE_SHIFT" "I") (by decide +kernel)) (hts (.initialized "java/lang/StringUTF16") (by decide +kernel)) (va_eqi (hs (.eq (.static "java/lang/StringUTF16" "HI_BYTE_SHIFT" "I") (.int 0)) (by decide +kernel))) hA
    · exact va_Zof (hts (.laysStatic "java/lang/StringUTF16" "LO_BYTE_SHIFT" "I") (by decide +kernel)) (hts (.initialized "java/lang/StringUTF16") (by decide +kernel)) (va_eqi (hs (.eq (.static "java/lang/StringUTF16" "LO_BYTE_SHIFT" "I") (.int 8)) (by decide +kernel))) hA
  · exact vx_Zqof (hts (.laysStatic Bundle.tN "UNASSIGNED_STACK" Bundle.steD) (by decide +kernel)) (hts (.initialized Bundle.tN) (by decide +kernel)) (hs (.isRef (.static Bundle.tN "UNASSIGNED_STACK" Bundle.steD)) (by decide +kernel)) hA
  · exact vx_Zqof (hts (.laysStatic Bundle.tN "SUPPRESSED_SENTINEL" Bundle.listD) (by decide +kernel)) (hts (.initialized Bundle.tN) (by decide +kernel)) (hs (.isRef (.static Bundle.tN "SUPPRESSED_SENTINEL" Bundle.listD)) (by decide +kernel)) hA
  · have go : ∀ (k : Nat) (tx : String), Cond.stringRef "DrownedRooms" k tx ∈ lw_tbl → Cond.exactly (.string "DrownedRooms" k) "java/lang/String" ∈ flatC (Jvm.Cond.and given_1 narrow_1) → ∃ a, vk_R "DrownedRooms" k tx a s := by
      intro k tx h1 h2
      obtain ⟨a, c, cA, kA, q1, _⟩ := Cond.exactly_spec (args := args) (first := s) (o := none) (s := s) (idx := []) (hs _ h2)
      exact ⟨a, vk_R.of (A := args) (hts _ h1) q1⟩
    simp only [stR, List.mem_cons, List.not_mem_nil, or_false] at hr
    rcases hr with rfl | rfl | rfl | rfl
    · exact go 149 _ (by decide +kernel) (by decide +kernel)
    · exact go 174 _ (by decide +kernel) (by decide +kernel)
    · exact go 179 _ (by decide +kernel) (by decide +kernel)
    · exact go 199 _ (by decide +kernel) (by decide +kernel)
end
