noncomputable section
/-! the constants at the law's entry: Strings, tables of digits -/
def sbq : List Cond → List Cond → Bool
  | [], _ => true
  | _ :: _, [] => false
  | a :: l, b :: r => bif decide (a = b) then sbq l r else sbq (a :: l) r
theorem sbq_ok : ∀ {r l : List Cond}, sbq l r = true → ∀ w ∈ l, w ∈ r
  | [], [], _, w, hw => by cases hw
  | [], _ :: _, h, w, hw => by cases h
  | b :: r, [], _, w, hw => by cases hw
  | b :: r, a :: l, h, w, hw => by
    unfold sbq at h
    cases hb : decide (a = b)
    · rw [hb] at h
      exact List.mem_cons_of_mem _ (sbq_ok (l := a :: l) h w hw)
    · rw [hb] at h
      have e := of_decide_eq_true hb
      rcases List.mem_cons.mp hw with rfl | hw
      · rw [e]; exact List.mem_cons_self
      · exact List.mem_cons_of_mem _ (sbq_ok (l := l) h w hw)
def bytC (tm : Term) (b : List Int) : List Cond := .arrayOf tm .byte :: .eq (.length tm) (.int (Int32.ofNat b.length)) :: (List.range b.length).map (fun j => .eq (.elem tm (.int (Int32.ofNat j))) (.int (Int32.ofInt (b.getD j 0))))
def strC (tm : Term) (b : List Int) : List Cond := .exactly tm "java/lang/String" :: .eq (.field tm "java/lang/String" "coder" "B") (.int 0) :: bytC (.field tm "java/lang/String" "value" "[B") b
theorem byt_of {args : Array Value} {s : State} {A : Nat → Prop} {tm : Term} {b : List Int} (hN : b.length < 2 ^ 31) (h : ∀ w ∈ bytC tm b, w.before args s = true) (hA : ∀ a : Nat, a < s.heap.size → ¬ A a) : ∃ t : Nat, tm.eval args s none [] s = some (.ref t) ∧ va_T .byte t b.length (fun j => .int (Int32.ofInt (b.getD j 0))) A s s.heap :=
  va_Tof hN (h _ List.mem_cons_self) (va_eqt (h _ (List.mem_cons_of_mem _ List.mem_cons_self))) (fun j hj => va_eqt (h _ (List.mem_cons_of_mem _ (List.mem_cons_of_mem _ (List.mem_map.mpr ⟨j, List.mem_range.mpr hj, rfl⟩))))) hA
theorem str_of {args : Array Value} {s : State} {A : Nat → Prop} {own tx : String} {k : Nat} {b : List Int} (hN : b.length < 2 ^ 31) (h1 : (Cond.stringRef own k tx).before args s = true) (h : ∀ w ∈ strC (.string own k) b, w.before args s = true) (hA : ∀ a : Nat, a < s.heap.size → ¬ A a) : ∃ a t : Nat, (vk_R own k tx a s ∧ va_O "java/lang/String" a A s s.heap ∧ va_OF "java/lang/String" "coder" "B" (.int 0) a A s s.heap ∧ va_OF "java/lang/String" "value" "[B" (.ref t) a A s s.heap) ∧ va_T .byte t b.length (fun j => .int (Int32.ofInt (b.getD j 0))) A s s.heap := by
  obtain ⟨a, c, cA, kA, q1, q2, q3, q4, q5, q6, -⟩ := Cond.exactly_spec (args := args) (first := s) (o := none) (s := s) (idx := []) (t := .string own k) (cls := "java/lang/String") (h _ List.mem_cons_self)
  obtain ⟨t, ht, hT⟩ := byt_of hN (fun w hw => h w (List.mem_cons_of_mem _ (List.mem_cons_of_mem _ hw))) hA
  exact ⟨a, t, ⟨vk_R.of (A := args) h1 q1, ⟨cA, q3, q5, by rw [q6]; exact q2, hA a (Array.getElem?_eq_some_iff.mp q3).1⟩, vk_OFof q1 (va_eqt (h _ (List.mem_cons_of_mem _ List.mem_cons_self))) hA, vk_OFof q1 ht hA⟩, hT⟩
def fl1 : List Cond := flatC (Jvm.Cond.and given_1 narrow_1)
def cb_0 : List Int := [108, 97, 107, 101, 32, 114, 97, 105, 110, 32, 109, 105, 108, 108, 32, 115, 116, 111, 114, 109, 32, 104, 111, 117, 115, 101, 32, 114, 111, 111, 109, 32, 103, 117, 101, 115, 116, 32, 113, 117, 97, 114, 114, 101, 108, 32, 115, 108, 101, 101, 112, 115, 32, 116, 97, 107, 101, 115, 32, 108, 101, 97, 118, 101, 115, 32, 119, 104, 101, 101, 108, 32, 100, 97, 121, 32, 111, 114, 32, 97, 110, 100, 32, 110, 111, 116, 32, 119, 101, 116, 32, 108, 101, 116, 32, 105, 110, 32, 104, 97, 115, 32, 102, 111, 111, 116, 32, 112, 114, 105, 99, 101, 32, 100, 101, 112, 116, 104, 32, 110, 117, 109, 98, 101, 114, 32]
def cb_1 : List Int := [32, 97, 115, 104, 111, 114, 101]
def cb_2 : List Int := [32, 105, 110, 32]
def cb_3 : List Int := [32, 102, 111, 114, 32]
def cb_4 : List Int := [32, 111, 119, 110, 115, 32]
def cb_5 : List Int := [48, 49, 50, 51, 52, 53, 54, 55, 56, 57, 48, 49, 50, 51, 52, 53, 54, 55, 56, 57, 48, 49, 50, 51, 52, 53, 54, 55, 56, 57, 48, 49, 50, 51, 52, 53, 54, 55, 56, 57, 48, 49, 50, 51, 52, 53, 54, 55, 56, 57, 48, 49, 50, 51, 52, 53, 54, 55, 56, 57, 48, 49, 50, 51, 52, 53, 54, 55, 56, 57, 48, 49, 50, 51, 52, 53, 54, 55, 56, 57, 48, 49, 50, 51, 52, 53, 54, 55, 56, 57, 48, 49, 50, 51, 52, 53, 54, 55, 56, 57]
def cb_6 : List Int := [48, 48, 48, 48, 48, 48, 48, 48, 48, 48, 49, 49, 49, 49, 49, 49, 49, 49, 49, 49, 50, 50, 50, 50, 50, 50, 50, 50, 50, 50, 51, 51, 51, 51, 51, 51, 51, 51, 51, 51, 52, 52, 52, 52, 52, 52, 52, 52, 52, 52, 53, 53, 53, 53, 53, 53, 53, 53, 53, 53, 54, 54, 54, 54, 54, 54, 54, 54, 54, 54, 55, 55, 55, 55, 55, 55, 55, 55, 55, 55, 56, 56, 56, 56, 56, 56, 56, 56, 56, 56, 57, 57, 57, 57, 57, 57, 57, 57, 57, 57]
theorem cs_0 : sbq (strC (.string "DrownedRooms$Tape" 81) cb_0) fl1 = true := by decide +kernel
theorem cs_1 : sbq (strC (.string "DrownedRooms" 321) cb_1) fl1 = true := by decide +kernel
theorem cs_2 : sbq (strC (.string "DrownedRooms" 327) cb_2) fl1 = true := by decide +kernel
theorem cs_3 : sbq (strC (.string "DrownedRooms" 329) cb_3) fl1 = true := by decide +kernel
theorem cs_4 : sbq (strC (.string "DrownedRooms" 334) cb_4) fl1 = true := by decide +kernel
theorem cs_5 : sbq (bytC (.static "java/lang/Integer" "DigitOnes" "[B") cb_5) fl1 = true := by decide +kernel
theorem cs_6 : sbq (bytC (.static "java/lang/Integer" "DigitTens" "[B") cb_6) fl1 = true := by decide +kernel
set_option maxRecDepth 100000 in
theorem st_C {s : State} {args : Array Value} {A : Nat → Prop} (hA : ∀ a : Nat, a < s.heap.size → ¬ A a) (hts : ∀ w ∈ lw_tbl, w.before args s = true) (hgv : (Jvm.Cond.and given_1 narrow_1).before args s = true) (ca0 : Nat → ClassId) : ∃ ca : Nat → ClassId, tys0 ca = tys0 ca0 ∧ SC ca A s s.heap := by
  have hs : ∀ w ∈ fl1, w.before args s = true := flat_of_before _ hgv
  obtain ⟨a0, t0, p0, r0⟩ := str_of (A := A) (own := "DrownedRooms$Tape") (k := 81) (tx := "lake rain mill storm house room guest quarrel sleeps takes leaves wheel day or and not wet let in has foot price depth number ") (b := cb_0) (by decide +kernel) (hts _ (by decide +kernel)) (fun w hw => hs w (sbq_ok cs_0 w hw)) hA
  obtain ⟨a1, t1, p1, r1⟩ := str_of (A := A) (own := "DrownedRooms") (k := 321) (tx := " ashore") (b := cb_1) (by decide +kernel) (hts _ (by decide +kernel)) (fun w hw => hs w (sbq_ok cs_1 w hw)) hA
  obtain ⟨a2, t2, p2, r2⟩ := str_of (A := A) (own := "DrownedRooms") (k := 327) (tx := " in ") (b := cb_2) (by decide +kernel) (hts _ (by decide +kernel)) (fun w hw => hs w (sbq_ok cs_2 w hw)) hA
  obtain ⟨a3, t3, p3, r3⟩ := str_of (A := A) (own := "DrownedRooms") (k := 329) (tx := " for ") (b := cb_3) (by decide +kernel) (hts _ (by decide +kernel)) (fun w hw => hs w (sbq_ok cs_3 w hw)) hA
  obtain ⟨a4, t4, p4, r4⟩ := str_of (A := A) (own := "DrownedRooms") (k := 334) (tx := " owns ") (b := cb_4) (by decide +kernel) (hts _ (by decide +kernel)) (fun w hw => hs w (sbq_ok cs_4 w hw)) hA
  obtain ⟨t5, p5, r5⟩ := byt_of (A := A) (tm := .static "java/lang/Integer" "DigitOnes" "[B") (b := cb_5) (by decide +kernel) (fun w hw => hs w (sbq_ok cs_5 w hw)) hA
  have z5 := va_Zof (A := A) (hts (.laysStatic "java/lang/Integer" "DigitOnes" "[B") (by decide +kernel)) (hts (.initialized "java/lang/Integer") (by decide +kernel)) p5 hA
  obtain ⟨t6, p6, r6⟩ := byt_of (A := A) (tm := .static "java/lang/Integer" "DigitTens" "[B") (b := cb_6) (by decide +kernel) (fun w hw => hs w (sbq_ok cs_6 w hw)) hA
  have z6 := va_Zof (A := A) (hts (.laysStatic "java/lang/Integer" "DigitTens" "[B") (by decide +kernel)) (hts (.initialized "java/lang/Integer") (by decide +kernel)) p6 hA
  have zf := va_Zqof (A := A) (hts (.laysStatic pcN "SIOOBE_FORMATTER" bfD) (by decide +kernel)) (hts (.initialized pcN) (by decide +kernel)) (hs (.isRef (.static pcN "SIOOBE_FORMATTER" bfD)) (by decide +kernel)) hA
  obtain ⟨f, hf⟩ : ∃ f : Nat, va_Z pcN "SIOOBE_FORMATTER" bfD .null A s s.heap ∨ va_Z pcN "SIOOBE_FORMATTER" bfD (.ref f) A s s.heap := by
    rcases zf with z | ⟨f, z⟩
    · exact ⟨0, Or.inl z⟩
    · exact ⟨f, Or.inr z⟩
  refine ⟨fun i => bif Nat.blt i 100 then ca0 i else [a0, a1, a2, a3, a4, t0, t1, t2, t3, t4, t5, t6, f].getD (i - 100) 0, rfl, ⟨fun k r hr => ?_, fun k b hb => ?_, ⟨z5, z6⟩, hf⟩⟩
  · match k, hr with
    | 0, hr => cases hr; exact p0
    | 1, hr => cases hr; exact p1
    | 2, hr => cases hr; exact p2
    | 3, hr => cases hr; exact p3
    | 4, hr => cases hr; exact p4
    | k + 5, hr => simp [stS] at hr
  · match k, hb with
    | 0, hb => cases hb; exact r0
    | 1, hb => cases hb; exact r1
    | 2, hb => cases hb; exact r2
    | 3, hb => cases hb; exact r3
    | 4, hb => cases hb; exact r4
    | 5, hb => cases hb; exact r5
    | 6, hb => cases hb; exact r6
    | k + 7, hb => simp [stB] at hb
end
