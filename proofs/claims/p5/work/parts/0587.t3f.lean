noncomputable section
/-! T3: every step keeps it (printed by wip/v5/gen/auto.py) -/
theorem inv_lake {n fi : Int} {s : AS} (h : Inv n s) (hq : s 0 = 0) (f0 : s 1 < fi) (f1 : fi ≤ n) : Inv n (adv (up s 10 1) 1 fi) := by
  obtain ⟨h1, h2, h3, h4⟩ := h
  have hr : ∀ j : Int, own s j → 0 ≤ j ∧ j < 19 := fun j q => own_r h1 q
  have h1' := h1
  unfold I1 at h1
  have e0 : (adv (up s 10 1) 1 fi) 0 = 1 := by rw [adv_0]
  have e1 : (adv (up s 10 1) 1 fi) 1 = fi := by rw [adv_1]
  have e2 : (adv (up s 10 1) 1 fi) 2 = s 2 := by rw [adv_n (by omega) (by omega), up_n (by omega)]
  have e3 : (adv (up s 10 1) 1 fi) 3 = s 3 := by rw [adv_n (by omega) (by omega), up_n (by omega)]
  have e10 : (adv (up s 10 1) 1 fi) 10 = 1 := by rw [adv_n (by omega) (by omega), up_s]
  have e11 : (adv (up s 10 1) 1 fi) 11 = s 11 := by rw [adv_n (by omega) (by omega), up_n (by omega)]
  have e12 : (adv (up s 10 1) 1 fi) 12 = s 12 := by rw [adv_n (by omega) (by omega), up_n (by omega)]
  have e13 : (adv (up s 10 1) 1 fi) 13 = s 13 := by rw [adv_n (by omega) (by omega), up_n (by omega)]
  have e200 : (adv (up s 10 1) 1 fi) 200 = s 200 := by rw [adv_n (by omega) (by omega), up_n (by omega)]
  have e201 : (adv (up s 10 1) 1 fi) 201 = s 201 := by rw [adv_n (by omega) (by omega), up_n (by omega)]
  have e202 : (adv (up s 10 1) 1 fi) 202 = s 202 := by rw [adv_n (by omega) (by omega), up_n (by omega)]
  refine ⟨?_, ?_, ?_, ?_⟩
  · unfold I1
    rw [e0, e1, e2, e3, e10, e11, e12, e13, e200, e201, e202]
    omega
  · exact I2_c h2 (fun j j0 j1 => by rw [adv_n (by omega) (by omega), up_n (by omega)])
  · exact I3_c h3 (by omega) (by rw [e202]; omega) (fun j j0 j1 => by rw [adv_n (by omega) (by omega), up_n (by omega)])
  · exact I4_c h4 (fun j j0 j1 => by rw [adv_n (by omega) (by omega), up_n (by omega)]) hr (fun j => by
    unfold own kslot pend
    rw [e0, e200, e201, e202]
    omega)
theorem inv_rain {n fi : Int} {s : AS} (h : Inv n s) (hq : s 0 = 0) (f0 : s 1 < fi) (f1 : fi ≤ n) : Inv n (adv (up s 11 1) 2 fi) := by
  obtain ⟨h1, h2, h3, h4⟩ := h
  have hr : ∀ j : Int, own s j → 0 ≤ j ∧ j < 19 := fun j q => own_r h1 q
  have h1' := h1
  unfold I1 at h1
  have e0 : (adv (up s 11 1) 2 fi) 0 = 2 := by rw [adv_0]
  have e1 : (adv (up s 11 1) 2 fi) 1 = fi := by rw [adv_1]
  have e2 : (adv (up s 11 1) 2 fi) 2 = s 2 := by rw [adv_n (by omega) (by omega), up_n (by omega)]
  have e3 : (adv (up s 11 1) 2 fi) 3 = s 3 := by rw [adv_n (by omega) (by omega), up_n (by omega)]
  have e10 : (adv (up s 11 1) 2 fi) 10 = s 10 := by rw [adv_n (by omega) (by omega), up_n (by omega)]
  have e11 : (adv (up s 11 1) 2 fi) 11 = 1 := by rw [adv_n (by omega) (by omega), up_s]
  have e12 : (adv (up s 11 1) 2 fi) 12 = s 12 := by rw [adv_n (by omega) (by omega), up_n (by omega)]
  have e13 : (adv (up s 11 1) 2 fi) 13 = s 13 := by rw [adv_n (by omega) (by omega), up_n (by omega)]
  have e200 : (adv (up s 11 1) 2 fi) 200 = s 200 := by rw [adv_n (by omega) (by omega), up_n (by omega)]
  have e201 : (adv (up s 11 1) 2 fi) 201 = s 201 := by rw [adv_n (by omega) (by omega), up_n (by omega)]
  have e202 : (adv (up s 11 1) 2 fi) 202 = s 202 := by rw [adv_n (by omega) (by omega), up_n (by omega)]
  refine ⟨?_, ?_, ?_, ?_⟩
  · unfold I1
    rw [e0, e1, e2, e3, e10, e11, e12, e13, e200, e201, e202]
    omega
  · exact I2_c h2 (fun j j0 j1 => by rw [adv_n (by omega) (by omega), up_n (by omega)])
  · exact I3_c h3 (by omega) (by rw [e202]; omega) (fun j j0 j1 => by rw [adv_n (by omega) (by omega), up_n (by omega)])
  · exact I4_c h4 (fun j j0 j1 => by rw [adv_n (by omega) (by omega), up_n (by omega)]) hr (fun j => by
    unfold own kslot pend
    rw [e0, e200, e201, e202]
    omega)
theorem inv_mill {n fi : Int} {s : AS} (h : Inv n s) (hq : s 0 = 0) (f0 : s 1 < fi) (f1 : fi ≤ n) : Inv n (adv (up s 12 1) 4 fi) := by
  obtain ⟨h1, h2, h3, h4⟩ := h
  have hr : ∀ j : Int, own s j → 0 ≤ j ∧ j < 19 := fun j q => own_r h1 q
  have h1' := h1
  unfold I1 at h1
  have e0 : (adv (up s 12 1) 4 fi) 0 = 4 := by rw [adv_0]
  have e1 : (adv (up s 12 1) 4 fi) 1 = fi := by rw [adv_1]
  have e2 : (adv (up s 12 1) 4 fi) 2 = s 2 := by rw [adv_n (by omega) (by omega), up_n (by omega)]
  have e3 : (adv (up s 12 1) 4 fi) 3 = s 3 := by rw [adv_n (by omega) (by omega), up_n (by omega)]
  have e10 : (adv (up s 12 1) 4 fi) 10 = s 10 := by rw [adv_n (by omega) (by omega), up_n (by omega)]
  have e11 : (adv (up s 12 1) 4 fi) 11 = s 11 := by rw [adv_n (by omega) (by omega), up_n (by omega)]
  have e12 : (adv (up s 12 1) 4 fi) 12 = 1 := by rw [adv_n (by omega) (by omega), up_s]
  have e13 : (adv (up s 12 1) 4 fi) 13 = s 13 := by rw [adv_n (by omega) (by omega), up_n (by omega)]
  have e200 : (adv (up s 12 1) 4 fi) 200 = s 200 := by rw [adv_n (by omega) (by omega), up_n (by omega)]
  have e201 : (adv (up s 12 1) 4 fi) 201 = s 201 := by rw [adv_n (by omega) (by omega), up_n (by omega)]
  have e202 : (adv (up s 12 1) 4 fi) 202 = s 202 := by rw [adv_n (by omega) (by omega), up_n (by omega)]
  refine ⟨?_, ?_, ?_, ?_⟩
  · unfold I1
    rw [e0, e1, e2, e3, e10, e11, e12, e13, e200, e201, e202]
    omega
  · exact I2_c h2 (fun j j0 j1 => by rw [adv_n (by omega) (by omega), up_n (by omega)])
  · exact I3_c h3 (by omega) (by rw [e202]; omega) (fun j j0 j1 => by rw [adv_n (by omega) (by omega), up_n (by omega)])
  · exact I4_c h4 (fun j j0 j1 => by rw [adv_n (by omega) (by omega), up_n (by omega)]) hr (fun j => by
    unfold own kslot pend
    rw [e0, e200, e201, e202]
    omega)
theorem inv_storm {n fi : Int} {s : AS} (h : Inv n s) (hq : s 0 = 0) (f0 : s 1 < fi) (f1 : fi ≤ n) : Inv n (adv (up s 13 1) 5 fi) := by
  obtain ⟨h1, h2, h3, h4⟩ := h
  have hr : ∀ j : Int, own s j → 0 ≤ j ∧ j < 19 := fun j q => own_r h1 q
  have h1' := h1
  unfold I1 at h1
  have e0 : (adv (up s 13 1) 5 fi) 0 = 5 := by rw [adv_0]
  have e1 : (adv (up s 13 1) 5 fi) 1 = fi := by rw [adv_1]
  have e2 : (adv (up s 13 1) 5 fi) 2 = s 2 := by rw [adv_n (by omega) (by omega), up_n (by omega)]
  have e3 : (adv (up s 13 1) 5 fi) 3 = s 3 := by rw [adv_n (by omega) (by omega), up_n (by omega)]
  have e10 : (adv (up s 13 1) 5 fi) 10 = s 10 := by rw [adv_n (by omega) (by omega), up_n (by omega)]
  have e11 : (adv (up s 13 1) 5 fi) 11 = s 11 := by rw [adv_n (by omega) (by omega), up_n (by omega)]
  have e12 : (adv (up s 13 1) 5 fi) 12 = s 12 := by rw [adv_n (by omega) (by omega), up_n (by omega)]
  have e13 : (adv (up s 13 1) 5 fi) 13 = 1 := by rw [adv_n (by omega) (by omega), up_s]
  have e200 : (adv (up s 13 1) 5 fi) 200 = s 200 := by rw [adv_n (by omega) (by omega), up_n (by omega)]
  have e201 : (adv (up s 13 1) 5 fi) 201 = s 201 := by rw [adv_n (by omega) (by omega), up_n (by omega)]
  have e202 : (adv (up s 13 1) 5 fi) 202 = s 202 := by rw [adv_n (by omega) (by omega), up_n (by omega)]
  refine ⟨?_, ?_, ?_, ?_⟩
  · unfold I1
    rw [e0, e1, e2, e3, e10, e11, e12, e13, e200, e201, e202]
    omega
  · exact I2_c h2 (fun j j0 j1 => by rw [adv_n (by omega) (by omega), up_n (by omega)])
  · exact I3_c h3 (by omega) (by rw [e202]; omega) (fun j j0 j1 => by rw [adv_n (by omega) (by omega), up_n (by omega)])
  · exact I4_c h4 (fun j j0 j1 => by rw [adv_n (by omega) (by omega), up_n (by omega)]) hr (fun j => by
    unfold own kslot pend
    rw [e0, e200, e201, e202]
    omega)
theorem inv_house {n fi : Int} {s : AS} (h : Inv n s) (hq : s 0 = 0) (hc : s 200 < 5) (f0 : s 1 < fi) (f1 : fi ≤ n) : Inv n (adv s 6 fi) := by
  obtain ⟨h1, h2, h3, h4⟩ := h
  have hr : ∀ j : Int, own s j → 0 ≤ j ∧ j < 19 := fun j q => own_r h1 q
  have h1' := h1
  unfold I1 at h1
  have e0 : (adv s 6 fi) 0 = 6 := by rw [adv_0]
  have e1 : (adv s 6 fi) 1 = fi := by rw [adv_1]
  have e2 : (adv s 6 fi) 2 = s 2 := by rw [adv_n (by omega) (by omega)]
  have e3 : (adv s 6 fi) 3 = s 3 := by rw [adv_n (by omega) (by omega)]
  have e10 : (adv s 6 fi) 10 = s 10 := by rw [adv_n (by omega) (by omega)]
  have e11 : (adv s 6 fi) 11 = s 11 := by rw [adv_n (by omega) (by omega)]
  have e12 : (adv s 6 fi) 12 = s 12 := by rw [adv_n (by omega) (by omega)]
  have e13 : (adv s 6 fi) 13 = s 13 := by rw [adv_n (by omega) (by omega)]
  have e200 : (adv s 6 fi) 200 = s 200 := by rw [adv_n (by omega) (by omega)]
  have e201 : (adv s 6 fi) 201 = s 201 := by rw [adv_n (by omega) (by omega)]
  have e202 : (adv s 6 fi) 202 = s 202 := by rw [adv_n (by omega) (by omega)]
  refine ⟨?_, ?_, ?_, ?_⟩
  · unfold I1
    rw [e0, e1, e2, e3, e10, e11, e12, e13, e200, e201, e202]
    omega
  · exact I2_c h2 (fun j j0 j1 => by rw [adv_n (by omega) (by omega)])
  · exact I3_c h3 (by omega) (by rw [e202]; omega) (fun j j0 j1 => by rw [adv_n (by omega) (by omega)])
  · exact I4_c h4 (fun j j0 j1 => by rw [adv_n (by omega) (by omega)]) hr (fun j => by
    unfold own kslot pend
    rw [e0, e200, e201, e202]
    omega)
theorem inv_room {n fi : Int} {s : AS} (h : Inv n s) (hq : s 0 = 0) (hc : s 201 < 8) (f0 : s 1 < fi) (f1 : fi ≤ n) : Inv n (adv s 9 fi) := by
  obtain ⟨h1, h2, h3, h4⟩ := h
  have hr : ∀ j : Int, own s j → 0 ≤ j ∧ j < 19 := fun j q => own_r h1 q
  have h1' := h1
  unfold I1 at h1
  have e0 : (adv s 9 fi) 0 = 9 := by rw [adv_0]
  have e1 : (adv s 9 fi) 1 = fi := by rw [adv_1]
  have e2 : (adv s 9 fi) 2 = s 2 := by rw [adv_n (by omega) (by omega)]
  have e3 : (adv s 9 fi) 3 = s 3 := by rw [adv_n (by omega) (by omega)]
  have e10 : (adv s 9 fi) 10 = s 10 := by rw [adv_n (by omega) (by omega)]
  have e11 : (adv s 9 fi) 11 = s 11 := by rw [adv_n (by omega) (by omega)]
  have e12 : (adv s 9 fi) 12 = s 12 := by rw [adv_n (by omega) (by omega)]
  have e13 : (adv s 9 fi) 13 = s 13 := by rw [adv_n (by omega) (by omega)]
  have e200 : (adv s 9 fi) 200 = s 200 := by rw [adv_n (by omega) (by omega)]
  have e201 : (adv s 9 fi) 201 = s 201 := by rw [adv_n (by omega) (by omega)]
  have e202 : (adv s 9 fi) 202 = s 202 := by rw [adv_n (by omega) (by omega)]
  refine ⟨?_, ?_, ?_, ?_⟩
  · unfold I1
    rw [e0, e1, e2, e3, e10, e11, e12, e13, e200, e201, e202]
    omega
  · exact I2_c h2 (fun j j0 j1 => by rw [adv_n (by omega) (by omega)])
  · exact I3_c h3 (by omega) (by rw [e202]; omega) (fun j j0 j1 => by rw [adv_n (by omega) (by omega)])
  · exact I4_c h4 (fun j j0 j1 => by rw [adv_n (by omega) (by omega)]) hr (fun j => by
    unfold own kslot pend
    rw [e0, e200, e201, e202]
    omega)
theorem inv_guest {n fi : Int} {s : AS} (h : Inv n s) (hq : s 0 = 0) (hc : s 202 < 6) (f0 : s 1 < fi) (f1 : fi ≤ n) : Inv n (adv s 13 fi) := by
  obtain ⟨h1, h2, h3, h4⟩ := h
  have hr : ∀ j : Int, own s j → 0 ≤ j ∧ j < 19 := fun j q => own_r h1 q
  have h1' := h1
  unfold I1 at h1
  have e0 : (adv s 13 fi) 0 = 13 := by rw [adv_0]
  have e1 : (adv s 13 fi) 1 = fi := by rw [adv_1]
  have e2 : (adv s 13 fi) 2 = s 2 := by rw [adv_n (by omega) (by omega)]
  have e3 : (adv s 13 fi) 3 = s 3 := by rw [adv_n (by omega) (by omega)]
  have e10 : (adv s 13 fi) 10 = s 10 := by rw [adv_n (by omega) (by omega)]
  have e11 : (adv s 13 fi) 11 = s 11 := by rw [adv_n (by omega) (by omega)]
  have e12 : (adv s 13 fi) 12 = s 12 := by rw [adv_n (by omega) (by omega)]
  have e13 : (adv s 13 fi) 13 = s 13 := by rw [adv_n (by omega) (by omega)]
  have e200 : (adv s 13 fi) 200 = s 200 := by rw [adv_n (by omega) (by omega)]
  have e201 : (adv s 13 fi) 201 = s 201 := by rw [adv_n (by omega) (by omega)]
  have e202 : (adv s 13 fi) 202 = s 202 := by rw [adv_n (by omega) (by omega)]
  refine ⟨?_, ?_, ?_, ?_⟩
  · unfold I1
    rw [e0, e1, e2, e3, e10, e11, e12, e13, e200, e201, e202]
    omega
  · exact I2_c h2 (fun j j0 j1 => by rw [adv_n (by omega) (by omega)])
  · exact I3_c h3 (by omega) (by rw [e202]; omega) (fun j j0 j1 => by rw [adv_n (by omega) (by omega)])
  · exact I4_c h4 (fun j j0 j1 => by rw [adv_n (by omega) (by omega)]) hr (fun j => by
    unfold own kslot pend
    rw [e0, e200, e201, e202]
    omega)
theorem inv_quarrel {n fi : Int} {s : AS} (h : Inv n s) (hq : s 0 = 0) (f0 : s 1 < fi) (f1 : fi ≤ n) : Inv n (adv s 16 fi) := by
  obtain ⟨h1, h2, h3, h4⟩ := h
  have hr : ∀ j : Int, own s j → 0 ≤ j ∧ j < 19 := fun j q => own_r h1 q
  have h1' := h1
  unfold I1 at h1
  have e0 : (adv s 16 fi) 0 = 16 := by rw [adv_0]
  have e1 : (adv s 16 fi) 1 = fi := by rw [adv_1]
  have e2 : (adv s 16 fi) 2 = s 2 := by rw [adv_n (by omega) (by omega)]
  have e3 : (adv s 16 fi) 3 = s 3 := by rw [adv_n (by omega) (by omega)]
  have e10 : (adv s 16 fi) 10 = s 10 := by rw [adv_n (by omega) (by omega)]
  have e11 : (adv s 16 fi) 11 = s 11 := by rw [adv_n (by omega) (by omega)]
  have e12 : (adv s 16 fi) 12 = s 12 := by rw [adv_n (by omega) (by omega)]
  have e13 : (adv s 16 fi) 13 = s 13 := by rw [adv_n (by omega) (by omega)]
  have e200 : (adv s 16 fi) 200 = s 200 := by rw [adv_n (by omega) (by omega)]
  have e201 : (adv s 16 fi) 201 = s 201 := by rw [adv_n (by omega) (by omega)]
  have e202 : (adv s 16 fi) 202 = s 202 := by rw [adv_n (by omega) (by omega)]
  refine ⟨?_, ?_, ?_, ?_⟩
  · unfold I1
    rw [e0, e1, e2, e3, e10, e11, e12, e13, e200, e201, e202]
    omega
  · exact I2_c h2 (fun j j0 j1 => by rw [adv_n (by omega) (by omega)])
  · exact I3_c h3 (by omega) (by rw [e202]; omega) (fun j j0 j1 => by rw [adv_n (by omega) (by omega)])
  · exact I4_c h4 (fun j j0 j1 => by rw [adv_n (by omega) (by omega)]) hr (fun j => by
    unfold own kslot pend
    rw [e0, e200, e201, e202]
    omega)
theorem inv_sleeps {n fi : Int} {s : AS} (h : Inv n s) (hq : s 0 = 0) (f0 : s 1 < fi) (f1 : fi ≤ n) : Inv n (adv s 18 fi) := by
  obtain ⟨h1, h2, h3, h4⟩ := h
  have hr : ∀ j : Int, own s j → 0 ≤ j ∧ j < 19 := fun j q => own_r h1 q
  have h1' := h1
  unfold I1 at h1
  have e0 : (adv s 18 fi) 0 = 18 := by rw [adv_0]
  have e1 : (adv s 18 fi) 1 = fi := by rw [adv_1]
  have e2 : (adv s 18 fi) 2 = s 2 := by rw [adv_n (by omega) (by omega)]
  have e3 : (adv s 18 fi) 3 = s 3 := by rw [adv_n (by omega) (by omega)]
  have e10 : (adv s 18 fi) 10 = s 10 := by rw [adv_n (by omega) (by omega)]
  have e11 : (adv s 18 fi) 11 = s 11 := by rw [adv_n (by omega) (by omega)]
  have e12 : (adv s 18 fi) 12 = s 12 := by rw [adv_n (by omega) (by omega)]
  have e13 : (adv s 18 fi) 13 = s 13 := by rw [adv_n (by omega) (by omega)]
  have e200 : (adv s 18 fi) 200 = s 200 := by rw [adv_n (by omega) (by omega)]
  have e201 : (adv s 18 fi) 201 = s 201 := by rw [adv_n (by omega) (by omega)]
  have e202 : (adv s 18 fi) 202 = s 202 := by rw [adv_n (by omega) (by omega)]
  refine ⟨?_, ?_, ?_, ?_⟩
  · unfold I1
    rw [e0, e1, e2, e3, e10, e11, e12, e13, e200, e201, e202]
    omega
  · exact I2_c h2 (fun j j0 j1 => by rw [adv_n (by omega) (by omega)])
  · exact I3_c h3 (by omega) (by rw [e202]; omega) (fun j j0 j1 => by rw [adv_n (by omega) (by omega)])
  · exact I4_c h4 (fun j j0 j1 => by rw [adv_n (by omega) (by omega)]) hr (fun j => by
    unfold own kslot pend
    rw [e0, e200, e201, e202]
    omega)
theorem inv_n1 {n fi va : Int} {s : AS} (h : Inv n s) (hq : s 0 = 1) (f0 : s 1 < fi) (f1 : fi ≤ n) : Inv n (adv (up s 207 va) 30 fi) := by
  obtain ⟨h1, h2, h3, h4⟩ := h
  have hr : ∀ j : Int, own s j → 0 ≤ j ∧ j < 19 := fun j q => own_r h1 q
  have h1' := h1
  unfold I1 at h1
  have e0 : (adv (up s 207 va) 30 fi) 0 = 30 := by rw [adv_0]
  have e1 : (adv (up s 207 va) 30 fi) 1 = fi := by rw [adv_1]
  have e2 : (adv (up s 207 va) 30 fi) 2 = s 2 := by rw [adv_n (by omega) (by omega), up_n (by omega)]
  have e3 : (adv (up s 207 va) 30 fi) 3 = s 3 := by rw [adv_n (by omega) (by omega), up_n (by omega)]
  have e10 : (adv (up s 207 va) 30 fi) 10 = s 10 := by rw [adv_n (by omega) (by omega), up_n (by omega)]
  have e11 : (adv (up s 207 va) 30 fi) 11 = s 11 := by rw [adv_n (by omega) (by omega), up_n (by omega)]
  have e12 : (adv (up s 207 va) 30 fi) 12 = s 12 := by rw [adv_n (by omega) (by omega), up_n (by omega)]
  have e13 : (adv (up s 207 va) 30 fi) 13 = s 13 := by rw [adv_n (by omega) (by omega), up_n (by omega)]
  have e200 : (adv (up s 207 va) 30 fi) 200 = s 200 := by rw [adv_n (by omega) (by omega), up_n (by omega)]
  have e201 : (adv (up s 207 va) 30 fi) 201 = s 201 := by rw [adv_n (by omega) (by omega), up_n (by omega)]
  have e202 : (adv (up s 207 va) 30 fi) 202 = s 202 := by rw [adv_n (by omega) (by omega), up_n (by omega)]
  refine ⟨?_, ?_, ?_, ?_⟩
  · unfold I1
    rw [e0, e1, e2, e3, e10, e11, e12, e13, e200, e201, e202]
    omega
  · exact I2_c h2 (fun j j0 j1 => by rw [adv_n (by omega) (by omega), up_n (by omega)])
  · exact I3_c h3 (by omega) (by rw [e202]; omega) (fun j j0 j1 => by rw [adv_n (by omega) (by omega), up_n (by omega)])
  · exact I4_c h4 (fun j j0 j1 => by rw [adv_n (by omega) (by omega), up_n (by omega)]) hr (fun j => by
    unfold own kslot pend
    rw [e0, e200, e201, e202]
    omega)
theorem inv_n2 {n fi va : Int} {s : AS} (h : Inv n s) (hq : s 0 = 2) (f0 : s 1 < fi) (f1 : fi ≤ n) : Inv n (adv (up s 203 va) 3 fi) := by
  obtain ⟨h1, h2, h3, h4⟩ := h
  have hr : ∀ j : Int, own s j → 0 ≤ j ∧ j < 19 := fun j q => own_r h1 q
  have h1' := h1
  unfold I1 at h1
  have e0 : (adv (up s 203 va) 3 fi) 0 = 3 := by rw [adv_0]
  have e1 : (adv (up s 203 va) 3 fi) 1 = fi := by rw [adv_1]
  have e2 : (adv (up s 203 va) 3 fi) 2 = s 2 := by rw [adv_n (by omega) (by omega), up_n (by omega)]
  have e3 : (adv (up s 203 va) 3 fi) 3 = s 3 := by rw [adv_n (by omega) (by omega), up_n (by omega)]
  have e10 : (adv (up s 203 va) 3 fi) 10 = s 10 := by rw [adv_n (by omega) (by omega), up_n (by omega)]
  have e11 : (adv (up s 203 va) 3 fi) 11 = s 11 := by rw [adv_n (by omega) (by omega), up_n (by omega)]
  have e12 : (adv (up s 203 va) 3 fi) 12 = s 12 := by rw [adv_n (by omega) (by omega), up_n (by omega)]
  have e13 : (adv (up s 203 va) 3 fi) 13 = s 13 := by rw [adv_n (by omega) (by omega), up_n (by omega)]
  have e200 : (adv (up s 203 va) 3 fi) 200 = s 200 := by rw [adv_n (by omega) (by omega), up_n (by omega)]
  have e201 : (adv (up s 203 va) 3 fi) 201 = s 201 := by rw [adv_n (by omega) (by omega), up_n (by omega)]
  have e202 : (adv (up s 203 va) 3 fi) 202 = s 202 := by rw [adv_n (by omega) (by omega), up_n (by omega)]
  refine ⟨?_, ?_, ?_, ?_⟩
  · unfold I1
    rw [e0, e1, e2, e3, e10, e11, e12, e13, e200, e201, e202]
    omega
  · exact I2_c h2 (fun j j0 j1 => by rw [adv_n (by omega) (by omega), up_n (by omega)])
  · exact I3_c h3 (by omega) (by rw [e202]; omega) (fun j j0 j1 => by rw [adv_n (by omega) (by omega), up_n (by omega)])
  · exact I4_c h4 (fun j j0 j1 => by rw [adv_n (by omega) (by omega), up_n (by omega)]) hr (fun j => by
    unfold own kslot pend
    rw [e0, e200, e201, e202]
    omega)
theorem inv_n3 {n fi va : Int} {s : AS} (h : Inv n s) (hq : s 0 = 3) (f0 : s 1 < fi) (f1 : fi ≤ n) : Inv n (adv (up s 204 va) 30 fi) := by
  obtain ⟨h1, h2, h3, h4⟩ := h
  have hr : ∀ j : Int, own s j → 0 ≤ j ∧ j < 19 := fun j q => own_r h1 q
  have h1' := h1
  unfold I1 at h1
  have e0 : (adv (up s 204 va) 30 fi) 0 = 30 := by rw [adv_0]
  have e1 : (adv (up s 204 va) 30 fi) 1 = fi := by rw [adv_1]
  have e2 : (adv (up s 204 va) 30 fi) 2 = s 2 := by rw [adv_n (by omega) (by omega), up_n (by omega)]
  have e3 : (adv (up s 204 va) 30 fi) 3 = s 3 := by rw [adv_n (by omega) (by omega), up_n (by omega)]
  have e10 : (adv (up s 204 va) 30 fi) 10 = s 10 := by rw [adv_n (by omega) (by omega), up_n (by omega)]
  have e11 : (adv (up s 204 va) 30 fi) 11 = s 11 := by rw [adv_n (by omega) (by omega), up_n (by omega)]
  have e12 : (adv (up s 204 va) 30 fi) 12 = s 12 := by rw [adv_n (by omega) (by omega), up_n (by omega)]
  have e13 : (adv (up s 204 va) 30 fi) 13 = s 13 := by rw [adv_n (by omega) (by omega), up_n (by omega)]
  have e200 : (adv (up s 204 va) 30 fi) 200 = s 200 := by rw [adv_n (by omega) (by omega), up_n (by omega)]
  have e201 : (adv (up s 204 va) 30 fi) 201 = s 201 := by rw [adv_n (by omega) (by omega), up_n (by omega)]
  have e202 : (adv (up s 204 va) 30 fi) 202 = s 202 := by rw [adv_n (by omega) (by omega), up_n (by omega)]
  refine ⟨?_, ?_, ?_, ?_⟩
  · unfold I1
    rw [e0, e1, e2, e3, e10, e11, e12, e13, e200, e201, e202]
    omega
  · exact I2_c h2 (fun j j0 j1 => by rw [adv_n (by omega) (by omega), up_n (by omega)])
  · exact I3_c h3 (by omega) (by rw [e202]; omega) (fun j j0 j1 => by rw [adv_n (by omega) (by omega), up_n (by omega)])
  · exact I4_c h4 (fun j j0 j1 => by rw [adv_n (by omega) (by omega), up_n (by omega)]) hr (fun j => by
    unfold own kslot pend
    rw [e0, e200, e201, e202]
    omega)
theorem inv_n4 {n fi va : Int} {s : AS} (h : Inv n s) (hq : s 0 = 4) (f0 : s 1 < fi) (f1 : fi ≤ n) : Inv n (adv (up s 205 va) 30 fi) := by
  obtain ⟨h1, h2, h3, h4⟩ := h
  have hr : ∀ j : Int, own s j → 0 ≤ j ∧ j < 19 := fun j q => own_r h1 q
  have h1' := h1
  unfold I1 at h1
  have e0 : (adv (up s 205 va) 30 fi) 0 = 30 := by rw [adv_0]
  have e1 : (adv (up s 205 va) 30 fi) 1 = fi := by rw [adv_1]
  have e2 : (adv (up s 205 va) 30 fi) 2 = s 2 := by rw [adv_n (by omega) (by omega), up_n (by omega)]
  have e3 : (adv (up s 205 va) 30 fi) 3 = s 3 := by rw [adv_n (by omega) (by omega), up_n (by omega)]
  have e10 : (adv (up s 205 va) 30 fi) 10 = s 10 := by rw [adv_n (by omega) (by omega), up_n (by omega)]
  have e11 : (adv (up s 205 va) 30 fi) 11 = s 11 := by rw [adv_n (by omega) (by omega), up_n (by omega)]
  have e12 : (adv (up s 205 va) 30 fi) 12 = s 12 := by rw [adv_n (by omega) (by omega), up_n (by omega)]
  have e13 : (adv (up s 205 va) 30 fi) 13 = s 13 := by rw [adv_n (by omega) (by omega), up_n (by omega)]
  have e200 : (adv (up s 205 va) 30 fi) 200 = s 200 := by rw [adv_n (by omega) (by omega), up_n (by omega)]
  have e201 : (adv (up s 205 va) 30 fi) 201 = s 201 := by rw [adv_n (by omega) (by omega), up_n (by omega)]
  have e202 : (adv (up s 205 va) 30 fi) 202 = s 202 := by rw [adv_n (by omega) (by omega), up_n (by omega)]
  refine ⟨?_, ?_, ?_, ?_⟩
  · unfold I1
    rw [e0, e1, e2, e3, e10, e11, e12, e13, e200, e201, e202]
    omega
  · exact I2_c h2 (fun j j0 j1 => by rw [adv_n (by omega) (by omega), up_n (by omega)])
  · exact I3_c h3 (by omega) (by rw [e202]; omega) (fun j j0 j1 => by rw [adv_n (by omega) (by omega), up_n (by omega)])
  · exact I4_c h4 (fun j j0 j1 => by rw [adv_n (by omega) (by omega), up_n (by omega)]) hr (fun j => by
    unfold own kslot pend
    rw [e0, e200, e201, e202]
    omega)
theorem inv_n5 {n fi va : Int} {s : AS} (h : Inv n s) (hq : s 0 = 5) (f0 : s 1 < fi) (f1 : fi ≤ n) : Inv n (adv (up s 206 va) 30 fi) := by
  obtain ⟨h1, h2, h3, h4⟩ := h
  have hr : ∀ j : Int, own s j → 0 ≤ j ∧ j < 19 := fun j q => own_r h1 q
  have h1' := h1
  unfold I1 at h1
  have e0 : (adv (up s 206 va) 30 fi) 0 = 30 := by rw [adv_0]
  have e1 : (adv (up s 206 va) 30 fi) 1 = fi := by rw [adv_1]
  have e2 : (adv (up s 206 va) 30 fi) 2 = s 2 := by rw [adv_n (by omega) (by omega), up_n (by omega)]
  have e3 : (adv (up s 206 va) 30 fi) 3 = s 3 := by rw [adv_n (by omega) (by omega), up_n (by omega)]
  have e10 : (adv (up s 206 va) 30 fi) 10 = s 10 := by rw [adv_n (by omega) (by omega), up_n (by omega)]
  have e11 : (adv (up s 206 va) 30 fi) 11 = s 11 := by rw [adv_n (by omega) (by omega), up_n (by omega)]
  have e12 : (adv (up s 206 va) 30 fi) 12 = s 12 := by rw [adv_n (by omega) (by omega), up_n (by omega)]
  have e13 : (adv (up s 206 va) 30 fi) 13 = s 13 := by rw [adv_n (by omega) (by omega), up_n (by omega)]
  have e200 : (adv (up s 206 va) 30 fi) 200 = s 200 := by rw [adv_n (by omega) (by omega), up_n (by omega)]
  have e201 : (adv (up s 206 va) 30 fi) 201 = s 201 := by rw [adv_n (by omega) (by omega), up_n (by omega)]
  have e202 : (adv (up s 206 va) 30 fi) 202 = s 202 := by rw [adv_n (by omega) (by omega), up_n (by omega)]
  refine ⟨?_, ?_, ?_, ?_⟩
  · unfold I1
    rw [e0, e1, e2, e3, e10, e11, e12, e13, e200, e201, e202]
    omega
  · exact I2_c h2 (fun j j0 j1 => by rw [adv_n (by omega) (by omega), up_n (by omega)])
  · exact I3_c h3 (by omega) (by rw [e202]; omega) (fun j j0 j1 => by rw [adv_n (by omega) (by omega), up_n (by omega)])
  · exact I4_c h4 (fun j j0 j1 => by rw [adv_n (by omega) (by omega), up_n (by omega)]) hr (fun j => by
    unfold own kslot pend
    rw [e0, e200, e201, e202]
    omega)
theorem inv_n7 {n fi va : Int} {s : AS} (h : Inv n s) (hq : s 0 = 7) (f0 : s 1 < fi) (f1 : fi ≤ n) : Inv n (adv (up s (208 + s 200) va) 8 fi) := by
  obtain ⟨h1, h2, h3, h4⟩ := h
  have hr : ∀ j : Int, own s j → 0 ≤ j ∧ j < 19 := fun j q => own_r h1 q
  have h1' := h1
  unfold I1 at h1
  have e0 : (adv (up s (208 + s 200) va) 8 fi) 0 = 8 := by rw [adv_0]
  have e1 : (adv (up s (208 + s 200) va) 8 fi) 1 = fi := by rw [adv_1]
  have e2 : (adv (up s (208 + s 200) va) 8 fi) 2 = s 2 := by rw [adv_n (by omega) (by omega), up_n (by omega)]
  have e3 : (adv (up s (208 + s 200) va) 8 fi) 3 = s 3 := by rw [adv_n (by omega) (by omega), up_n (by omega)]
  have e10 : (adv (up s (208 + s 200) va) 8 fi) 10 = s 10 := by rw [adv_n (by omega) (by omega), up_n (by omega)]
  have e11 : (adv (up s (208 + s 200) va) 8 fi) 11 = s 11 := by rw [adv_n (by omega) (by omega), up_n (by omega)]
  have e12 : (adv (up s (208 + s 200) va) 8 fi) 12 = s 12 := by rw [adv_n (by omega) (by omega), up_n (by omega)]
  have e13 : (adv (up s (208 + s 200) va) 8 fi) 13 = s 13 := by rw [adv_n (by omega) (by omega), up_n (by omega)]
  have e200 : (adv (up s (208 + s 200) va) 8 fi) 200 = s 200 := by rw [adv_n (by omega) (by omega), up_n (by omega)]
  have e201 : (adv (up s (208 + s 200) va) 8 fi) 201 = s 201 := by rw [adv_n (by omega) (by omega), up_n (by omega)]
  have e202 : (adv (up s (208 + s 200) va) 8 fi) 202 = s 202 := by rw [adv_n (by omega) (by omega), up_n (by omega)]
  refine ⟨?_, ?_, ?_, ?_⟩
  · unfold I1
    rw [e0, e1, e2, e3, e10, e11, e12, e13, e200, e201, e202]
    omega
  · exact I2_c h2 (fun j j0 j1 => by rw [adv_n (by omega) (by omega), up_n (by omega)])
  · exact I3_c h3 (by omega) (by rw [e202]; omega) (fun j j0 j1 => by rw [adv_n (by omega) (by omega), up_n (by omega)])
  · exact I4_c h4 (fun j j0 j1 => by rw [adv_n (by omega) (by omega), up_n (by omega)]) hr (fun j => by
    unfold own kslot pend
    rw [e0, e200, e201, e202]
    omega)
theorem inv_n11 {n fi va : Int} {s : AS} (h : Inv n s) (hq : s 0 = 11) (f0 : s 1 < fi) (f1 : fi ≤ n) : Inv n (adv (up s (226 + s 201) va) 12 fi) := by
  obtain ⟨h1, h2, h3, h4⟩ := h
  have hr : ∀ j : Int, own s j → 0 ≤ j ∧ j < 19 := fun j q => own_r h1 q
  have h1' := h1
  unfold I1 at h1
  have e0 : (adv (up s (226 + s 201) va) 12 fi) 0 = 12 := by rw [adv_0]
  have e1 : (adv (up s (226 + s 201) va) 12 fi) 1 = fi := by rw [adv_1]
  have e2 : (adv (up s (226 + s 201) va) 12 fi) 2 = s 2 := by rw [adv_n (by omega) (by omega), up_n (by omega)]
  have e3 : (adv (up s (226 + s 201) va) 12 fi) 3 = s 3 := by rw [adv_n (by omega) (by omega), up_n (by omega)]
  have e10 : (adv (up s (226 + s 201) va) 12 fi) 10 = s 10 := by rw [adv_n (by omega) (by omega), up_n (by omega)]
  have e11 : (adv (up s (226 + s 201) va) 12 fi) 11 = s 11 := by rw [adv_n (by omega) (by omega), up_n (by omega)]
  have e12 : (adv (up s (226 + s 201) va) 12 fi) 12 = s 12 := by rw [adv_n (by omega) (by omega), up_n (by omega)]
  have e13 : (adv (up s (226 + s 201) va) 12 fi) 13 = s 13 := by rw [adv_n (by omega) (by omega), up_n (by omega)]
  have e200 : (adv (up s (226 + s 201) va) 12 fi) 200 = s 200 := by rw [adv_n (by omega) (by omega), up_n (by omega)]
  have e201 : (adv (up s (226 + s 201) va) 12 fi) 201 = s 201 := by rw [adv_n (by omega) (by omega), up_n (by omega)]
  have e202 : (adv (up s (226 + s 201) va) 12 fi) 202 = s 202 := by rw [adv_n (by omega) (by omega), up_n (by omega)]
  refine ⟨?_, ?_, ?_, ?_⟩
  · unfold I1
    rw [e0, e1, e2, e3, e10, e11, e12, e13, e200, e201, e202]
    omega
  · exact I2_c h2 (fun j j0 j1 => by rw [adv_n (by omega) (by omega), up_n (by omega)])
  · exact I3_c h3 (by omega) (by rw [e202]; omega) (fun j j0 j1 => by rw [adv_n (by omega) (by omega), up_n (by omega)])
  · exact I4_c h4 (fun j j0 j1 => by rw [adv_n (by omega) (by omega), up_n (by omega)]) hr (fun j => by
    unfold own kslot pend
    rw [e0, e200, e201, e202]
    omega)
theorem inv_n14 {n fi va : Int} {s : AS} (h : Inv n s) (hq : s 0 = 14) (f0 : s 1 < fi) (f1 : fi ≤ n) : Inv n (adv (up s (242 + s 202) va) 15 fi) := by
  obtain ⟨h1, h2, h3, h4⟩ := h
  have hr : ∀ j : Int, own s j → 0 ≤ j ∧ j < 19 := fun j q => own_r h1 q
  have h1' := h1
  unfold I1 at h1
  have e0 : (adv (up s (242 + s 202) va) 15 fi) 0 = 15 := by rw [adv_0]
  have e1 : (adv (up s (242 + s 202) va) 15 fi) 1 = fi := by rw [adv_1]
  have e2 : (adv (up s (242 + s 202) va) 15 fi) 2 = s 2 := by rw [adv_n (by omega) (by omega), up_n (by omega)]
  have e3 : (adv (up s (242 + s 202) va) 15 fi) 3 = s 3 := by rw [adv_n (by omega) (by omega), up_n (by omega)]
  have e10 : (adv (up s (242 + s 202) va) 15 fi) 10 = s 10 := by rw [adv_n (by omega) (by omega), up_n (by omega)]
  have e11 : (adv (up s (242 + s 202) va) 15 fi) 11 = s 11 := by rw [adv_n (by omega) (by omega), up_n (by omega)]
  have e12 : (adv (up s (242 + s 202) va) 15 fi) 12 = s 12 := by rw [adv_n (by omega) (by omega), up_n (by omega)]
  have e13 : (adv (up s (242 + s 202) va) 15 fi) 13 = s 13 := by rw [adv_n (by omega) (by omega), up_n (by omega)]
  have e200 : (adv (up s (242 + s 202) va) 15 fi) 200 = s 200 := by rw [adv_n (by omega) (by omega), up_n (by omega)]
  have e201 : (adv (up s (242 + s 202) va) 15 fi) 201 = s 201 := by rw [adv_n (by omega) (by omega), up_n (by omega)]
  have e202 : (adv (up s (242 + s 202) va) 15 fi) 202 = s 202 := by rw [adv_n (by omega) (by omega), up_n (by omega)]
  refine ⟨?_, ?_, ?_, ?_⟩
  · unfold I1
    rw [e0, e1, e2, e3, e10, e11, e12, e13, e200, e201, e202]
    omega
  · exact I2_c h2 (fun j j0 j1 => by rw [adv_n (by omega) (by omega), up_n (by omega)])
  · exact I3_c h3 (by omega) (by rw [e202]; omega) (fun j j0 j1 => by rw [adv_n (by omega) (by omega), up_n (by omega)])
  · exact I4_c h4 (fun j j0 j1 => by rw [adv_n (by omega) (by omega), up_n (by omega)]) hr (fun j => by
    unfold own kslot pend
    rw [e0, e200, e201, e202]
    omega)
theorem inv_n8 {n fi va : Int} {s : AS} (h : Inv n s) (hq : s 0 = 8) (f0 : s 1 < fi) (f1 : fi ≤ n) : Inv n (adv (up (up s (213 + s 200) va) 200 (s 200 + 1)) 30 fi) := by
  obtain ⟨h1, h2, h3, h4⟩ := h
  have hr : ∀ j : Int, own s j → 0 ≤ j ∧ j < 19 := fun j q => own_r h1 q
  have h1' := h1
  unfold I1 at h1
  have e0 : (adv (up (up s (213 + s 200) va) 200 (s 200 + 1)) 30 fi) 0 = 30 := by rw [adv_0]
  have e1 : (adv (up (up s (213 + s 200) va) 200 (s 200 + 1)) 30 fi) 1 = fi := by rw [adv_1]
  have e2 : (adv (up (up s (213 + s 200) va) 200 (s 200 + 1)) 30 fi) 2 = s 2 := by rw [adv_n (by omega) (by omega), up_n (by omega), up_n (by omega)]
  have e3 : (adv (up (up s (213 + s 200) va) 200 (s 200 + 1)) 30 fi) 3 = s 3 := by rw [adv_n (by omega) (by omega), up_n (by omega), up_n (by omega)]
  have e10 : (adv (up (up s (213 + s 200) va) 200 (s 200 + 1)) 30 fi) 10 = s 10 := by rw [adv_n (by omega) (by omega), up_n (by omega), up_n (by omega)]
  have e11 : (adv (up (up s (213 + s 200) va) 200 (s 200 + 1)) 30 fi) 11 = s 11 := by rw [adv_n (by omega) (by omega), up_n (by omega), up_n (by omega)]
  have e12 : (adv (up (up s (213 + s 200) va) 200 (s 200 + 1)) 30 fi) 12 = s 12 := by rw [adv_n (by omega) (by omega), up_n (by omega), up_n (by omega)]
  have e13 : (adv (up (up s (213 + s 200) va) 200 (s 200 + 1)) 30 fi) 13 = s 13 := by rw [adv_n (by omega) (by omega), up_n (by omega), up_n (by omega)]
  have e200 : (adv (up (up s (213 + s 200) va) 200 (s 200 + 1)) 30 fi) 200 = s 200 + 1 := by rw [adv_n (by omega) (by omega), up_s]
  have e201 : (adv (up (up s (213 + s 200) va) 200 (s 200 + 1)) 30 fi) 201 = s 201 := by rw [adv_n (by omega) (by omega), up_n (by omega), up_n (by omega)]
  have e202 : (adv (up (up s (213 + s 200) va) 200 (s 200 + 1)) 30 fi) 202 = s 202 := by rw [adv_n (by omega) (by omega), up_n (by omega), up_n (by omega)]
  refine ⟨?_, ?_, ?_, ?_⟩
  · unfold I1
    rw [e0, e1, e2, e3, e10, e11, e12, e13, e200, e201, e202]
    omega
  · exact I2_c h2 (fun j j0 j1 => by rw [adv_n (by omega) (by omega), up_n (by omega), up_n (by omega)])
  · exact I3_c h3 (by omega) (by rw [e202]; omega) (fun j j0 j1 => by rw [adv_n (by omega) (by omega), up_n (by omega), up_n (by omega)])
  · exact I4_c h4 (fun j j0 j1 => by rw [adv_n (by omega) (by omega), up_n (by omega), up_n (by omega)]) hr (fun j => by
    unfold own kslot pend
    rw [e0, e200, e201, e202]
    omega)
theorem inv_n12 {n fi va : Int} {s : AS} (h : Inv n s) (hq : s 0 = 12) (f0 : s 1 < fi) (f1 : fi ≤ n) : Inv n (adv (up (up s (234 + s 201) va) 201 (s 201 + 1)) 30 fi) := by
  obtain ⟨h1, h2, h3, h4⟩ := h
  have hr : ∀ j : Int, own s j → 0 ≤ j ∧ j < 19 := fun j q => own_r h1 q
  have h1' := h1
  unfold I1 at h1
  have e0 : (adv (up (up s (234 + s 201) va) 201 (s 201 + 1)) 30 fi) 0 = 30 := by rw [adv_0]
  have e1 : (adv (up (up s (234 + s 201) va) 201 (s 201 + 1)) 30 fi) 1 = fi := by rw [adv_1]
  have e2 : (adv (up (up s (234 + s 201) va) 201 (s 201 + 1)) 30 fi) 2 = s 2 := by rw [adv_n (by omega) (by omega), up_n (by omega), up_n (by omega)]
  have e3 : (adv (up (up s (234 + s 201) va) 201 (s 201 + 1)) 30 fi) 3 = s 3 := by rw [adv_n (by omega) (by omega), up_n (by omega), up_n (by omega)]
  have e10 : (adv (up (up s (234 + s 201) va) 201 (s 201 + 1)) 30 fi) 10 = s 10 := by rw [adv_n (by omega) (by omega), up_n (by omega), up_n (by omega)]
  have e11 : (adv (up (up s (234 + s 201) va) 201 (s 201 + 1)) 30 fi) 11 = s 11 := by rw [adv_n (by omega) (by omega), up_n (by omega), up_n (by omega)]
  have e12 : (adv (up (up s (234 + s 201) va) 201 (s 201 + 1)) 30 fi) 12 = s 12 := by rw [adv_n (by omega) (by omega), up_n (by omega), up_n (by omega)]
  have e13 : (adv (up (up s (234 + s 201) va) 201 (s 201 + 1)) 30 fi) 13 = s 13 := by rw [adv_n (by omega) (by omega), up_n (by omega), up_n (by omega)]
  have e200 : (adv (up (up s (234 + s 201) va) 201 (s 201 + 1)) 30 fi) 200 = s 200 := by rw [adv_n (by omega) (by omega), up_n (by omega), up_n (by omega)]
  have e201 : (adv (up (up s (234 + s 201) va) 201 (s 201 + 1)) 30 fi) 201 = s 201 + 1 := by rw [adv_n (by omega) (by omega), up_s]
  have e202 : (adv (up (up s (234 + s 201) va) 201 (s 201 + 1)) 30 fi) 202 = s 202 := by rw [adv_n (by omega) (by omega), up_n (by omega), up_n (by omega)]
  refine ⟨?_, ?_, ?_, ?_⟩
  · unfold I1
    rw [e0, e1, e2, e3, e10, e11, e12, e13, e200, e201, e202]
    omega
  · exact I2_c h2 (fun j j0 j1 => by rw [adv_n (by omega) (by omega), up_n (by omega), up_n (by omega)])
  · exact I3_c h3 (by omega) (by rw [e202]; omega) (fun j j0 j1 => by rw [adv_n (by omega) (by omega), up_n (by omega), up_n (by omega)])
  · exact I4_c h4 (fun j j0 j1 => by rw [adv_n (by omega) (by omega), up_n (by omega), up_n (by omega)]) hr (fun j => by
    unfold own kslot pend
    rw [e0, e200, e201, e202]
    omega)
theorem inv_n15 {n fi va : Int} {s : AS} (h : Inv n s) (hq : s 0 = 15) (f0 : s 1 < fi) (f1 : fi ≤ n) : Inv n (adv (up (up s (248 + s 202) va) 202 (s 202 + 1)) 30 fi) := by
  obtain ⟨h1, h2, h3, h4⟩ := h
  have hr : ∀ j : Int, own s j → 0 ≤ j ∧ j < 19 := fun j q => own_r h1 q
  have h1' := h1
  unfold I1 at h1
  have e0 : (adv (up (up s (248 + s 202) va) 202 (s 202 + 1)) 30 fi) 0 = 30 := by rw [adv_0]
  have e1 : (adv (up (up s (248 + s 202) va) 202 (s 202 + 1)) 30 fi) 1 = fi := by rw [adv_1]
  have e2 : (adv (up (up s (248 + s 202) va) 202 (s 202 + 1)) 30 fi) 2 = s 2 := by rw [adv_n (by omega) (by omega), up_n (by omega), up_n (by omega)]
  have e3 : (adv (up (up s (248 + s 202) va) 202 (s 202 + 1)) 30 fi) 3 = s 3 := by rw [adv_n (by omega) (by omega), up_n (by omega), up_n (by omega)]
  have e10 : (adv (up (up s (248 + s 202) va) 202 (s 202 + 1)) 30 fi) 10 = s 10 := by rw [adv_n (by omega) (by omega), up_n (by omega), up_n (by omega)]
  have e11 : (adv (up (up s (248 + s 202) va) 202 (s 202 + 1)) 30 fi) 11 = s 11 := by rw [adv_n (by omega) (by omega), up_n (by omega), up_n (by omega)]
  have e12 : (adv (up (up s (248 + s 202) va) 202 (s 202 + 1)) 30 fi) 12 = s 12 := by rw [adv_n (by omega) (by omega), up_n (by omega), up_n (by omega)]
  have e13 : (adv (up (up s (248 + s 202) va) 202 (s 202 + 1)) 30 fi) 13 = s 13 := by rw [adv_n (by omega) (by omega), up_n (by omega), up_n (by omega)]
  have e200 : (adv (up (up s (248 + s 202) va) 202 (s 202 + 1)) 30 fi) 200 = s 200 := by rw [adv_n (by omega) (by omega), up_n (by omega), up_n (by omega)]
  have e201 : (adv (up (up s (248 + s 202) va) 202 (s 202 + 1)) 30 fi) 201 = s 201 := by rw [adv_n (by omega) (by omega), up_n (by omega), up_n (by omega)]
  have e202 : (adv (up (up s (248 + s 202) va) 202 (s 202 + 1)) 30 fi) 202 = s 202 + 1 := by rw [adv_n (by omega) (by omega), up_s]
  refine ⟨?_, ?_, ?_, ?_⟩
  · unfold I1
    rw [e0, e1, e2, e3, e10, e11, e12, e13, e200, e201, e202]
    omega
  · exact I2_c h2 (fun j j0 j1 => by rw [adv_n (by omega) (by omega), up_n (by omega), up_n (by omega)])
  · exact I3_c h3 (by omega) (by rw [e202]; omega) (fun j j0 j1 => by rw [adv_n (by omega) (by omega), up_n (by omega), up_n (by omega)])
  · exact I4_c h4 (fun j j0 j1 => by rw [adv_n (by omega) (by omega), up_n (by omega), up_n (by omega)]) hr (fun j => by
    unfold own kslot pend
    rw [e0, e200, e201, e202]
    omega)
theorem inv_w6 {n fi wo : Int} {s : AS} (h : Inv n s) (hq : s 0 = 6) (hw : vW wo) (f0 : s 1 < fi) (f1 : fi ≤ n) : Inv n (adv (up s (100 + s 200) wo) 7 fi) := by
  obtain ⟨h1, h2, h3, h4⟩ := h
  have hr : ∀ j : Int, own s j → 0 ≤ j ∧ j < 19 := fun j q => own_r h1 q
  have h1' := h1
  unfold I1 at h1
  have e0 : (adv (up s (100 + s 200) wo) 7 fi) 0 = 7 := by rw [adv_0]
  have e1 : (adv (up s (100 + s 200) wo) 7 fi) 1 = fi := by rw [adv_1]
  have e2 : (adv (up s (100 + s 200) wo) 7 fi) 2 = s 2 := by rw [adv_n (by omega) (by omega), up_n (by omega)]
  have e3 : (adv (up s (100 + s 200) wo) 7 fi) 3 = s 3 := by rw [adv_n (by omega) (by omega), up_n (by omega)]
  have e10 : (adv (up s (100 + s 200) wo) 7 fi) 10 = s 10 := by rw [adv_n (by omega) (by omega), up_n (by omega)]
  have e11 : (adv (up s (100 + s 200) wo) 7 fi) 11 = s 11 := by rw [adv_n (by omega) (by omega), up_n (by omega)]
  have e12 : (adv (up s (100 + s 200) wo) 7 fi) 12 = s 12 := by rw [adv_n (by omega) (by omega), up_n (by omega)]
  have e13 : (adv (up s (100 + s 200) wo) 7 fi) 13 = s 13 := by rw [adv_n (by omega) (by omega), up_n (by omega)]
  have e200 : (adv (up s (100 + s 200) wo) 7 fi) 200 = s 200 := by rw [adv_n (by omega) (by omega), up_n (by omega)]
  have e201 : (adv (up s (100 + s 200) wo) 7 fi) 201 = s 201 := by rw [adv_n (by omega) (by omega), up_n (by omega)]
  have e202 : (adv (up s (100 + s 200) wo) 7 fi) 202 = s 202 := by rw [adv_n (by omega) (by omega), up_n (by omega)]
  refine ⟨?_, ?_, ?_, ?_⟩
  · unfold I1
    rw [e0, e1, e2, e3, e10, e11, e12, e13, e200, e201, e202]
    omega
  · exact I2_c h2 (fun j j0 j1 => by rw [adv_n (by omega) (by omega), up_n (by omega)])
  · exact I3_c h3 (by omega) (by rw [e202]; omega) (fun j j0 j1 => by rw [adv_n (by omega) (by omega), up_n (by omega)])
  · exact I4_w (k := s 200) (w := wo) h4 (fun j j0 j1 j2 => by rw [adv_n (by omega) (by omega), up_n (by omega)]) hr (by rw [adv_n (by omega) (by omega), up_s]) hw (fun j => by
    unfold own kslot pend
    rw [e0, e200, e201, e202]
    omega)
theorem inv_w9 {n fi wo : Int} {s : AS} (h : Inv n s) (hq : s 0 = 9) (hw : vW wo) (f0 : s 1 < fi) (f1 : fi ≤ n) : Inv n (adv (up s (100 + (5 + s 201)) wo) 10 fi) := by
  obtain ⟨h1, h2, h3, h4⟩ := h
  have hr : ∀ j : Int, own s j → 0 ≤ j ∧ j < 19 := fun j q => own_r h1 q
  have h1' := h1
  unfold I1 at h1
  have e0 : (adv (up s (100 + (5 + s 201)) wo) 10 fi) 0 = 10 := by rw [adv_0]
  have e1 : (adv (up s (100 + (5 + s 201)) wo) 10 fi) 1 = fi := by rw [adv_1]
  have e2 : (adv (up s (100 + (5 + s 201)) wo) 10 fi) 2 = s 2 := by rw [adv_n (by omega) (by omega), up_n (by omega)]
  have e3 : (adv (up s (100 + (5 + s 201)) wo) 10 fi) 3 = s 3 := by rw [adv_n (by omega) (by omega), up_n (by omega)]
  have e10 : (adv (up s (100 + (5 + s 201)) wo) 10 fi) 10 = s 10 := by rw [adv_n (by omega) (by omega), up_n (by omega)]
  have e11 : (adv (up s (100 + (5 + s 201)) wo) 10 fi) 11 = s 11 := by rw [adv_n (by omega) (by omega), up_n (by omega)]
  have e12 : (adv (up s (100 + (5 + s 201)) wo) 10 fi) 12 = s 12 := by rw [adv_n (by omega) (by omega), up_n (by omega)]
  have e13 : (adv (up s (100 + (5 + s 201)) wo) 10 fi) 13 = s 13 := by rw [adv_n (by omega) (by omega), up_n (by omega)]
  have e200 : (adv (up s (100 + (5 + s 201)) wo) 10 fi) 200 = s 200 := by rw [adv_n (by omega) (by omega), up_n (by omega)]
  have e201 : (adv (up s (100 + (5 + s 201)) wo) 10 fi) 201 = s 201 := by rw [adv_n (by omega) (by omega), up_n (by omega)]
  have e202 : (adv (up s (100 + (5 + s 201)) wo) 10 fi) 202 = s 202 := by rw [adv_n (by omega) (by omega), up_n (by omega)]
  refine ⟨?_, ?_, ?_, ?_⟩
  · unfold I1
    rw [e0, e1, e2, e3, e10, e11, e12, e13, e200, e201, e202]
    omega
  · exact I2_c h2 (fun j j0 j1 => by rw [adv_n (by omega) (by omega), up_n (by omega)])
  · exact I3_c h3 (by omega) (by rw [e202]; omega) (fun j j0 j1 => by rw [adv_n (by omega) (by omega), up_n (by omega)])
  · exact I4_w (k := 5 + s 201) (w := wo) h4 (fun j j0 j1 j2 => by rw [adv_n (by omega) (by omega), up_n (by omega)]) hr (by rw [adv_n (by omega) (by omega), up_s]) hw (fun j => by
    unfold own kslot pend
    rw [e0, e200, e201, e202]
    omega)
theorem inv_w13 {n fi wo : Int} {s : AS} (h : Inv n s) (hq : s 0 = 13) (hw : vW wo) (f0 : s 1 < fi) (f1 : fi ≤ n) : Inv n (adv (up s (100 + (13 + s 202)) wo) 14 fi) := by
  obtain ⟨h1, h2, h3, h4⟩ := h
  have hr : ∀ j : Int, own s j → 0 ≤ j ∧ j < 19 := fun j q => own_r h1 q
  have h1' := h1
  unfold I1 at h1
  have e0 : (adv (up s (100 + (13 + s 202)) wo) 14 fi) 0 = 14 := by rw [adv_0]
  have e1 : (adv (up s (100 + (13 + s 202)) wo) 14 fi) 1 = fi := by rw [adv_1]
  have e2 : (adv (up s (100 + (13 + s 202)) wo) 14 fi) 2 = s 2 := by rw [adv_n (by omega) (by omega), up_n (by omega)]
  have e3 : (adv (up s (100 + (13 + s 202)) wo) 14 fi) 3 = s 3 := by rw [adv_n (by omega) (by omega), up_n (by omega)]
  have e10 : (adv (up s (100 + (13 + s 202)) wo) 14 fi) 10 = s 10 := by rw [adv_n (by omega) (by omega), up_n (by omega)]
  have e11 : (adv (up s (100 + (13 + s 202)) wo) 14 fi) 11 = s 11 := by rw [adv_n (by omega) (by omega), up_n (by omega)]
  have e12 : (adv (up s (100 + (13 + s 202)) wo) 14 fi) 12 = s 12 := by rw [adv_n (by omega) (by omega), up_n (by omega)]
  have e13 : (adv (up s (100 + (13 + s 202)) wo) 14 fi) 13 = s 13 := by rw [adv_n (by omega) (by omega), up_n (by omega)]
  have e200 : (adv (up s (100 + (13 + s 202)) wo) 14 fi) 200 = s 200 := by rw [adv_n (by omega) (by omega), up_n (by omega)]
  have e201 : (adv (up s (100 + (13 + s 202)) wo) 14 fi) 201 = s 201 := by rw [adv_n (by omega) (by omega), up_n (by omega)]
  have e202 : (adv (up s (100 + (13 + s 202)) wo) 14 fi) 202 = s 202 := by rw [adv_n (by omega) (by omega), up_n (by omega)]
  refine ⟨?_, ?_, ?_, ?_⟩
  · unfold I1
    rw [e0, e1, e2, e3, e10, e11, e12, e13, e200, e201, e202]
    omega
  · exact I2_c h2 (fun j j0 j1 => by rw [adv_n (by omega) (by omega), up_n (by omega)])
  · exact I3_c h3 (by omega) (by rw [e202]; omega) (fun j j0 j1 => by rw [adv_n (by omega) (by omega), up_n (by omega)])
  · exact I4_w (k := 13 + s 202) (w := wo) h4 (fun j j0 j1 j2 => by rw [adv_n (by omega) (by omega), up_n (by omega)]) hr (by rw [adv_n (by omega) (by omega), up_s]) hw (fun j => by
    unfold own kslot pend
    rw [e0, e200, e201, e202]
    omega)
theorem inv_f10 {n fi i : Int} {s : AS} (h : Inv n s) (hq : s 0 = 10) (i0 : 0 ≤ i) (i1 : i < s 200) (f0 : s 1 < fi) (f1 : fi ≤ n) : Inv n (adv (up s (218 + s 201) i) 11 fi) := by
  obtain ⟨h1, h2, h3, h4⟩ := h
  have hr : ∀ j : Int, own s j → 0 ≤ j ∧ j < 19 := fun j q => own_r h1 q
  have h1' := h1
  unfold I1 at h1
  have e0 : (adv (up s (218 + s 201) i) 11 fi) 0 = 11 := by rw [adv_0]
  have e1 : (adv (up s (218 + s 201) i) 11 fi) 1 = fi := by rw [adv_1]
  have e2 : (adv (up s (218 + s 201) i) 11 fi) 2 = s 2 := by rw [adv_n (by omega) (by omega), up_n (by omega)]
  have e3 : (adv (up s (218 + s 201) i) 11 fi) 3 = s 3 := by rw [adv_n (by omega) (by omega), up_n (by omega)]
  have e10 : (adv (up s (218 + s 201) i) 11 fi) 10 = s 10 := by rw [adv_n (by omega) (by omega), up_n (by omega)]
  have e11 : (adv (up s (218 + s 201) i) 11 fi) 11 = s 11 := by rw [adv_n (by omega) (by omega), up_n (by omega)]
  have e12 : (adv (up s (218 + s 201) i) 11 fi) 12 = s 12 := by rw [adv_n (by omega) (by omega), up_n (by omega)]
  have e13 : (adv (up s (218 + s 201) i) 11 fi) 13 = s 13 := by rw [adv_n (by omega) (by omega), up_n (by omega)]
  have e200 : (adv (up s (218 + s 201) i) 11 fi) 200 = s 200 := by rw [adv_n (by omega) (by omega), up_n (by omega)]
  have e201 : (adv (up s (218 + s 201) i) 11 fi) 201 = s 201 := by rw [adv_n (by omega) (by omega), up_n (by omega)]
  have e202 : (adv (up s (218 + s 201) i) 11 fi) 202 = s 202 := by rw [adv_n (by omega) (by omega), up_n (by omega)]
  refine ⟨?_, ?_, ?_, ?_⟩
  · unfold I1
    rw [e0, e1, e2, e3, e10, e11, e12, e13, e200, e201, e202]
    omega
  · exact I2_c h2 (fun j j0 j1 => by rw [adv_n (by omega) (by omega), up_n (by omega)])
  · exact I3_c h3 (by omega) (by rw [e202]; omega) (fun j j0 j1 => by rw [adv_n (by omega) (by omega), up_n (by omega)])
  · exact I4_c h4 (fun j j0 j1 => by rw [adv_n (by omega) (by omega), up_n (by omega)]) hr (fun j => by
    unfold own kslot pend
    rw [e0, e200, e201, e202]
    omega)
theorem inv_f16 {n fi i : Int} {s : AS} (h : Inv n s) (hq : s 0 = 16) (i0 : 0 ≤ i) (i1 : i < s 202) (f0 : s 1 < fi) (f1 : fi ≤ n) : Inv n (adv (up s 3 i) 17 fi) := by
  obtain ⟨h1, h2, h3, h4⟩ := h
  have hr : ∀ j : Int, own s j → 0 ≤ j ∧ j < 19 := fun j q => own_r h1 q
  have h1' := h1
  unfold I1 at h1
  have e0 : (adv (up s 3 i) 17 fi) 0 = 17 := by rw [adv_0]
  have e1 : (adv (up s 3 i) 17 fi) 1 = fi := by rw [adv_1]
  have e2 : (adv (up s 3 i) 17 fi) 2 = s 2 := by rw [adv_n (by omega) (by omega), up_n (by omega)]
  have e3 : (adv (up s 3 i) 17 fi) 3 = i := by rw [adv_n (by omega) (by omega), up_s]
  have e10 : (adv (up s 3 i) 17 fi) 10 = s 10 := by rw [adv_n (by omega) (by omega), up_n (by omega)]
  have e11 : (adv (up s 3 i) 17 fi) 11 = s 11 := by rw [adv_n (by omega) (by omega), up_n (by omega)]
  have e12 : (adv (up s 3 i) 17 fi) 12 = s 12 := by rw [adv_n (by omega) (by omega), up_n (by omega)]
  have e13 : (adv (up s 3 i) 17 fi) 13 = s 13 := by rw [adv_n (by omega) (by omega), up_n (by omega)]
  have e200 : (adv (up s 3 i) 17 fi) 200 = s 200 := by rw [adv_n (by omega) (by omega), up_n (by omega)]
  have e201 : (adv (up s 3 i) 17 fi) 201 = s 201 := by rw [adv_n (by omega) (by omega), up_n (by omega)]
  have e202 : (adv (up s 3 i) 17 fi) 202 = s 202 := by rw [adv_n (by omega) (by omega), up_n (by omega)]
  refine ⟨?_, ?_, ?_, ?_⟩
  · unfold I1
    rw [e0, e1, e2, e3, e10, e11, e12, e13, e200, e201, e202]
    omega
  · exact I2_c h2 (fun j j0 j1 => by rw [adv_n (by omega) (by omega), up_n (by omega)])
  · exact I3_c h3 (by omega) (by rw [e202]; omega) (fun j j0 j1 => by rw [adv_n (by omega) (by omega), up_n (by omega)])
  · exact I4_c h4 (fun j j0 j1 => by rw [adv_n (by omega) (by omega), up_n (by omega)]) hr (fun j => by
    unfold own kslot pend
    rw [e0, e200, e201, e202]
    omega)
theorem inv_f17 {n fi i : Int} {s : AS} (h : Inv n s) (hq : s 0 = 17) (i0 : 0 ≤ i) (i1 : i < s 202) (hn : i ≠ s 3) (hb : ¬ bitI (s (254 + s 3)) i = 1) (f0 : s 1 < fi) (f1 : fi ≤ n) : Inv n (adv (up (up (up s (254 + s 3) (s (254 + s 3) + 2 ^ i.toNat)) (254 + i) (s (254 + i) + @ite Int (bitI (s (254 + i)) (s 3) = 1) (Int.instDecidableEq _ _) 0 (2 ^ (s 3).toNat))) 3 0) 30 fi) := by
  obtain ⟨h1, h2, h3, h4⟩ := h
  have hr : ∀ j : Int, own s j → 0 ≤ j ∧ j < 19 := fun j q => own_r h1 q
  have h1' := h1
  unfold I1 at h1
  have e0 : (adv (up (up (up s (254 + s 3) (s (254 + s 3) + 2 ^ i.toNat)) (254 + i) (s (254 + i) + @ite Int (bitI (s (254 + i)) (s 3) = 1) (Int.instDecidableEq _ _) 0 (2 ^ (s 3).toNat))) 3 0) 30 fi) 0 = 30 := by rw [adv_0]
  have e1 : (adv (up (up (up s (254 + s 3) (s (254 + s 3) + 2 ^ i.toNat)) (254 + i) (s (254 + i) + @ite Int (bitI (s (254 + i)) (s 3) = 1) (Int.instDecidableEq _ _) 0 (2 ^ (s 3).toNat))) 3 0) 30 fi) 1 = fi := by rw [adv_1]
  have e2 : (adv (up (up (up s (254 + s 3) (s (254 + s 3) + 2 ^ i.toNat)) (254 + i) (s (254 + i) + @ite Int (bitI (s (254 + i)) (s 3) = 1) (Int.instDecidableEq _ _) 0 (2 ^ (s 3).toNat))) 3 0) 30 fi) 2 = s 2 := by rw [adv_n (by omega) (by omega), up_n (by omega), up_n (by omega), up_n (by omega)]
  have e3 : (adv (up (up (up s (254 + s 3) (s (254 + s 3) + 2 ^ i.toNat)) (254 + i) (s (254 + i) + @ite Int (bitI (s (254 + i)) (s 3) = 1) (Int.instDecidableEq _ _) 0 (2 ^ (s 3).toNat))) 3 0) 30 fi) 3 = 0 := by rw [adv_n (by omega) (by omega), up_s]
  have e10 : (adv (up (up (up s (254 + s 3) (s (254 + s 3) + 2 ^ i.toNat)) (254 + i) (s (254 + i) + @ite Int (bitI (s (254 + i)) (s 3) = 1) (Int.instDecidableEq _ _) 0 (2 ^ (s 3).toNat))) 3 0) 30 fi) 10 = s 10 := by rw [adv_n (by omega) (by omega), up_n (by omega), up_n (by omega), up_n (by omega)]
  have e11 : (adv (up (up (up s (254 + s 3) (s (254 + s 3) + 2 ^ i.toNat)) (254 + i) (s (254 + i) + @ite Int (bitI (s (254 + i)) (s 3) = 1) (Int.instDecidableEq _ _) 0 (2 ^ (s 3).toNat))) 3 0) 30 fi) 11 = s 11 := by rw [adv_n (by omega) (by omega), up_n (by omega), up_n (by omega), up_n (by omega)]
  have e12 : (adv (up (up (up s (254 + s 3) (s (254 + s 3) + 2 ^ i.toNat)) (254 + i) (s (254 + i) + @ite Int (bitI (s (254 + i)) (s 3) = 1) (Int.instDecidableEq _ _) 0 (2 ^ (s 3).toNat))) 3 0) 30 fi) 12 = s 12 := by rw [adv_n (by omega) (by omega), up_n (by omega), up_n (by omega), up_n (by omega)]
  have e13 : (adv (up (up (up s (254 + s 3) (s (254 + s 3) + 2 ^ i.toNat)) (254 + i) (s (254 + i) + @ite Int (bitI (s (254 + i)) (s 3) = 1) (Int.instDecidableEq _ _) 0 (2 ^ (s 3).toNat))) 3 0) 30 fi) 13 = s 13 := by rw [adv_n (by omega) (by omega), up_n (by omega), up_n (by omega), up_n (by omega)]
  have e200 : (adv (up (up (up s (254 + s 3) (s (254 + s 3) + 2 ^ i.toNat)) (254 + i) (s (254 + i) + @ite Int (bitI (s (254 + i)) (s 3) = 1) (Int.instDecidableEq _ _) 0 (2 ^ (s 3).toNat))) 3 0) 30 fi) 200 = s 200 := by rw [adv_n (by omega) (by omega), up_n (by omega), up_n (by omega), up_n (by omega)]
  have e201 : (adv (up (up (up s (254 + s 3) (s (254 + s 3) + 2 ^ i.toNat)) (254 + i) (s (254 + i) + @ite Int (bitI (s (254 + i)) (s 3) = 1) (Int.instDecidableEq _ _) 0 (2 ^ (s 3).toNat))) 3 0) 30 fi) 201 = s 201 := by rw [adv_n (by omega) (by omega), up_n (by omega), up_n (by omega), up_n (by omega)]
  have e202 : (adv (up (up (up s (254 + s 3) (s (254 + s 3) + 2 ^ i.toNat)) (254 + i) (s (254 + i) + @ite Int (bitI (s (254 + i)) (s 3) = 1) (Int.instDecidableEq _ _) 0 (2 ^ (s 3).toNat))) 3 0) 30 fi) 202 = s 202 := by rw [adv_n (by omega) (by omega), up_n (by omega), up_n (by omega), up_n (by omega)]
  refine ⟨?_, ?_, ?_, ?_⟩
  · unfold I1
    rw [e0, e1, e2, e3, e10, e11, e12, e13, e200, e201, e202]
    omega
  · intro j j0 j1
    have b3 := h2 (s 3) (by omega) (by omega)
    have bi := h2 i i0 (by omega)
    rw [adv_n (by omega) (by omega), up_n (by omega)]
    by_cases ej : j = i
    · rw [ej, up_s]
      exact setI_r bi.1 bi.2 (by omega) (by omega)
    · rw [up_n (by omega)]
      by_cases ek : j = s 3
      · rw [ek, up_s]
        have q := setI_r b3.1 b3.2 i0 (by omega)
        rw [if_neg hb] at q
        exact q
      · rw [up_n (by omega)]
        exact h2 j j0 j1
  · exact I3_c h3 (by omega) (by rw [e202]; omega) (fun j j0 j1 => by rw [adv_n (by omega) (by omega), up_n (by omega), up_n (by omega), up_n (by omega)])
  · exact I4_c h4 (fun j j0 j1 => by rw [adv_n (by omega) (by omega), up_n (by omega), up_n (by omega), up_n (by omega)]) hr (fun j => by
    unfold own kslot pend
    rw [e0, e200, e201, e202]
    omega)
theorem inv_f18 {n fi i : Int} {s : AS} (h : Inv n s) (hq : s 0 = 18) (i0 : 0 ≤ i) (i1 : i < s 202) (f0 : s 1 < fi) (f1 : fi ≤ n) : Inv n (adv (up s 3 i) 19 fi) := by
  obtain ⟨h1, h2, h3, h4⟩ := h
  have hr : ∀ j : Int, own s j → 0 ≤ j ∧ j < 19 := fun j q => own_r h1 q
  have h1' := h1
  unfold I1 at h1
  have e0 : (adv (up s 3 i) 19 fi) 0 = 19 := by rw [adv_0]
  have e1 : (adv (up s 3 i) 19 fi) 1 = fi := by rw [adv_1]
  have e2 : (adv (up s 3 i) 19 fi) 2 = s 2 := by rw [adv_n (by omega) (by omega), up_n (by omega)]
  have e3 : (adv (up s 3 i) 19 fi) 3 = i := by rw [adv_n (by omega) (by omega), up_s]
  have e10 : (adv (up s 3 i) 19 fi) 10 = s 10 := by rw [adv_n (by omega) (by omega), up_n (by omega)]
  have e11 : (adv (up s 3 i) 19 fi) 11 = s 11 := by rw [adv_n (by omega) (by omega), up_n (by omega)]
  have e12 : (adv (up s 3 i) 19 fi) 12 = s 12 := by rw [adv_n (by omega) (by omega), up_n (by omega)]
  have e13 : (adv (up s 3 i) 19 fi) 13 = s 13 := by rw [adv_n (by omega) (by omega), up_n (by omega)]
  have e200 : (adv (up s 3 i) 19 fi) 200 = s 200 := by rw [adv_n (by omega) (by omega), up_n (by omega)]
  have e201 : (adv (up s 3 i) 19 fi) 201 = s 201 := by rw [adv_n (by omega) (by omega), up_n (by omega)]
  have e202 : (adv (up s 3 i) 19 fi) 202 = s 202 := by rw [adv_n (by omega) (by omega), up_n (by omega)]
  refine ⟨?_, ?_, ?_, ?_⟩
  · unfold I1
    rw [e0, e1, e2, e3, e10, e11, e12, e13, e200, e201, e202]
    omega
  · exact I2_c h2 (fun j j0 j1 => by rw [adv_n (by omega) (by omega), up_n (by omega)])
  · exact I3_c h3 (by omega) (by rw [e202]; omega) (fun j j0 j1 => by rw [adv_n (by omega) (by omega), up_n (by omega)])
  · exact I4_c h4 (fun j j0 j1 => by rw [adv_n (by omega) (by omega), up_n (by omega)]) hr (fun j => by
    unfold own kslot pend
    rw [e0, e200, e201, e202]
    omega)
theorem inv_f19 {n fi i : Int} {s : AS} (h : Inv n s) (hq : s 0 = 19) (i0 : 0 ≤ i) (i1 : i < s 201) (f0 : s 1 < fi) (f1 : fi ≤ n) : Inv n (adv (up s 3 (s 3 + 8 * i)) 20 fi) := by
  obtain ⟨h1, h2, h3, h4⟩ := h
  have hr : ∀ j : Int, own s j → 0 ≤ j ∧ j < 19 := fun j q => own_r h1 q
  have h1' := h1
  unfold I1 at h1
  have e0 : (adv (up s 3 (s 3 + 8 * i)) 20 fi) 0 = 20 := by rw [adv_0]
  have e1 : (adv (up s 3 (s 3 + 8 * i)) 20 fi) 1 = fi := by rw [adv_1]
  have e2 : (adv (up s 3 (s 3 + 8 * i)) 20 fi) 2 = s 2 := by rw [adv_n (by omega) (by omega), up_n (by omega)]
  have e3 : (adv (up s 3 (s 3 + 8 * i)) 20 fi) 3 = s 3 + 8 * i := by rw [adv_n (by omega) (by omega), up_s]
  have e10 : (adv (up s 3 (s 3 + 8 * i)) 20 fi) 10 = s 10 := by rw [adv_n (by omega) (by omega), up_n (by omega)]
  have e11 : (adv (up s 3 (s 3 + 8 * i)) 20 fi) 11 = s 11 := by rw [adv_n (by omega) (by omega), up_n (by omega)]
  have e12 : (adv (up s 3 (s 3 + 8 * i)) 20 fi) 12 = s 12 := by rw [adv_n (by omega) (by omega), up_n (by omega)]
  have e13 : (adv (up s 3 (s 3 + 8 * i)) 20 fi) 13 = s 13 := by rw [adv_n (by omega) (by omega), up_n (by omega)]
  have e200 : (adv (up s 3 (s 3 + 8 * i)) 20 fi) 200 = s 200 := by rw [adv_n (by omega) (by omega), up_n (by omega)]
  have e201 : (adv (up s 3 (s 3 + 8 * i)) 20 fi) 201 = s 201 := by rw [adv_n (by omega) (by omega), up_n (by omega)]
  have e202 : (adv (up s 3 (s 3 + 8 * i)) 20 fi) 202 = s 202 := by rw [adv_n (by omega) (by omega), up_n (by omega)]
  refine ⟨?_, ?_, ?_, ?_⟩
  · unfold I1
    rw [e0, e1, e2, e3, e10, e11, e12, e13, e200, e201, e202]
    omega
  · exact I2_c h2 (fun j j0 j1 => by rw [adv_n (by omega) (by omega), up_n (by omega)])
  · exact I3_c h3 (by omega) (by rw [e202]; omega) (fun j j0 j1 => by rw [adv_n (by omega) (by omega), up_n (by omega)])
  · exact I4_c h4 (fun j j0 j1 => by rw [adv_n (by omega) (by omega), up_n (by omega)]) hr (fun j => by
    unfold own kslot pend
    rw [e0, e200, e201, e202]
    omega)
theorem inv_n20 {n fi va : Int} {s : AS} (h : Inv n s) (hq : s 0 = 20) (f0 : s 1 < fi) (f1 : fi ≤ n) : Inv n (adv (up (up (up s (260 + s 3 % 8) (s 3 / 8)) (266 + s 3 % 8) va) 3 0) 30 fi) := by
  obtain ⟨h1, h2, h3, h4⟩ := h
  have hr : ∀ j : Int, own s j → 0 ≤ j ∧ j < 19 := fun j q => own_r h1 q
  have h1' := h1
  unfold I1 at h1
  have e0 : (adv (up (up (up s (260 + s 3 % 8) (s 3 / 8)) (266 + s 3 % 8) va) 3 0) 30 fi) 0 = 30 := by rw [adv_0]
  have e1 : (adv (up (up (up s (260 + s 3 % 8) (s 3 / 8)) (266 + s 3 % 8) va) 3 0) 30 fi) 1 = fi := by rw [adv_1]
  have e2 : (adv (up (up (up s (260 + s 3 % 8) (s 3 / 8)) (266 + s 3 % 8) va) 3 0) 30 fi) 2 = s 2 := by rw [adv_n (by omega) (by omega), up_n (by omega), up_n (by omega), up_n (by omega)]
  have e3 : (adv (up (up (up s (260 + s 3 % 8) (s 3 / 8)) (266 + s 3 % 8) va) 3 0) 30 fi) 3 = 0 := by rw [adv_n (by omega) (by omega), up_s]
  have e10 : (adv (up (up (up s (260 + s 3 % 8) (s 3 / 8)) (266 + s 3 % 8) va) 3 0) 30 fi) 10 = s 10 := by rw [adv_n (by omega) (by omega), up_n (by omega), up_n (by omega), up_n (by omega)]
  have e11 : (adv (up (up (up s (260 + s 3 % 8) (s 3 / 8)) (266 + s 3 % 8) va) 3 0) 30 fi) 11 = s 11 := by rw [adv_n (by omega) (by omega), up_n (by omega), up_n (by omega), up_n (by omega)]
  have e12 : (adv (up (up (up s (260 + s 3 % 8) (s 3 / 8)) (266 + s 3 % 8) va) 3 0) 30 fi) 12 = s 12 := by rw [adv_n (by omega) (by omega), up_n (by omega), up_n (by omega), up_n (by omega)]
  have e13 : (adv (up (up (up s (260 + s 3 % 8) (s 3 / 8)) (266 + s 3 % 8) va) 3 0) 30 fi) 13 = s 13 := by rw [adv_n (by omega) (by omega), up_n (by omega), up_n (by omega), up_n (by omega)]
  have e200 : (adv (up (up (up s (260 + s 3 % 8) (s 3 / 8)) (266 + s 3 % 8) va) 3 0) 30 fi) 200 = s 200 := by rw [adv_n (by omega) (by omega), up_n (by omega), up_n (by omega), up_n (by omega)]
  have e201 : (adv (up (up (up s (260 + s 3 % 8) (s 3 / 8)) (266 + s 3 % 8) va) 3 0) 30 fi) 201 = s 201 := by rw [adv_n (by omega) (by omega), up_n (by omega), up_n (by omega), up_n (by omega)]
  have e202 : (adv (up (up (up s (260 + s 3 % 8) (s 3 / 8)) (266 + s 3 % 8) va) 3 0) 30 fi) 202 = s 202 := by rw [adv_n (by omega) (by omega), up_n (by omega), up_n (by omega), up_n (by omega)]
  refine ⟨?_, ?_, ?_, ?_⟩
  · unfold I1
    rw [e0, e1, e2, e3, e10, e11, e12, e13, e200, e201, e202]
    omega
  · exact I2_c h2 (fun j j0 j1 => by rw [adv_n (by omega) (by omega), up_n (by omega), up_n (by omega), up_n (by omega)])
  · exact I3_c h3 (by omega) (by rw [e202]; omega) (fun j j0 j1 => by rw [adv_n (by omega) (by omega), up_n (by omega), up_n (by omega), up_n (by omega)])
  · exact I4_c h4 (fun j j0 j1 => by rw [adv_n (by omega) (by omega), up_n (by omega), up_n (by omega), up_n (by omega)]) hr (fun j => by
    unfold own kslot pend
    rw [e0, e200, e201, e202]
    omega)
theorem inv_s30 {n fi : Int} {s : AS} (h : Inv n s) (hq : s 0 = 30) (f0 : s 1 < fi) (f1 : fi ≤ n) : Inv n (adv (up s 2 (s 2 + 1)) 0 fi) := by
  obtain ⟨h1, h2, h3, h4⟩ := h
  have hr : ∀ j : Int, own s j → 0 ≤ j ∧ j < 19 := fun j q => own_r h1 q
  have h1' := h1
  unfold I1 at h1
  have e0 : (adv (up s 2 (s 2 + 1)) 0 fi) 0 = 0 := by rw [adv_0]
  have e1 : (adv (up s 2 (s 2 + 1)) 0 fi) 1 = fi := by rw [adv_1]
  have e2 : (adv (up s 2 (s 2 + 1)) 0 fi) 2 = s 2 + 1 := by rw [adv_n (by omega) (by omega), up_s]
  have e3 : (adv (up s 2 (s 2 + 1)) 0 fi) 3 = s 3 := by rw [adv_n (by omega) (by omega), up_n (by omega)]
  have e10 : (adv (up s 2 (s 2 + 1)) 0 fi) 10 = s 10 := by rw [adv_n (by omega) (by omega), up_n (by omega)]
  have e11 : (adv (up s 2 (s 2 + 1)) 0 fi) 11 = s 11 := by rw [adv_n (by omega) (by omega), up_n (by omega)]
  have e12 : (adv (up s 2 (s 2 + 1)) 0 fi) 12 = s 12 := by rw [adv_n (by omega) (by omega), up_n (by omega)]
  have e13 : (adv (up s 2 (s 2 + 1)) 0 fi) 13 = s 13 := by rw [adv_n (by omega) (by omega), up_n (by omega)]
  have e200 : (adv (up s 2 (s 2 + 1)) 0 fi) 200 = s 200 := by rw [adv_n (by omega) (by omega), up_n (by omega)]
  have e201 : (adv (up s 2 (s 2 + 1)) 0 fi) 201 = s 201 := by rw [adv_n (by omega) (by omega), up_n (by omega)]
  have e202 : (adv (up s 2 (s 2 + 1)) 0 fi) 202 = s 202 := by rw [adv_n (by omega) (by omega), up_n (by omega)]
  refine ⟨?_, ?_, ?_, ?_⟩
  · unfold I1
    rw [e0, e1, e2, e3, e10, e11, e12, e13, e200, e201, e202]
    omega
  · exact I2_c h2 (fun j j0 j1 => by rw [adv_n (by omega) (by omega), up_n (by omega)])
  · exact I3_c h3 (by omega) (by rw [e202]; omega) (fun j j0 j1 => by rw [adv_n (by omega) (by omega), up_n (by omega)])
  · exact I4_c h4 (fun j j0 j1 => by rw [adv_n (by omega) (by omega), up_n (by omega)]) hr (fun j => by
    unfold own kslot pend
    rw [e0, e200, e201, e202]
    omega)
theorem st_dom {s s' : AS} {kd pl fi kw va wo : Int} (h0 : 0 ≤ s 0) (h : stepA s kd pl fi kw va wo = .inl s') : (0 ≤ s 0 ∧ s 0 ≤ 20) ∨ s 0 = 30 := by
  unfold stepA at h
  split at h <;> first
    | omega
    | exact (hlt_i h).elim
theorem Inv_s {z n kd pl fi kw va wo : Int} {s s' : AS} (h : Inv n s) (hT : Tok z n 900 (s 1) kd pl fi kw va wo) (st : stepA s kd pl fi kw va wo = .inl s') : Inv n s' := by
  obtain ⟨t1, t2, t3, t4, t5, t6, t7, t8⟩ := Tok_p hT
  have h1 := h.1
  unfold I1 at h1
  have hd := st_dom (by omega) st
  have hd2 : s 0 = 0 ∨ s 0 = 1 ∨ s 0 = 2 ∨ s 0 = 3 ∨ s 0 = 4 ∨ s 0 = 5 ∨ s 0 = 6 ∨ s 0 = 7 ∨ s 0 = 8 ∨ s 0 = 9 ∨ s 0 = 10 ∨ s 0 = 11 ∨ s 0 = 12 ∨ s 0 = 13 ∨ s 0 = 14 ∨ s 0 = 15 ∨ s 0 = 16 ∨ s 0 = 17 ∨ s 0 = 18 ∨ s 0 = 19 ∨ s 0 = 20 ∨ s 0 = 30 := by omega
  rcases hd2 with q | q | q | q | q | q | q | q | q | q | q | q | q | q | q | q | q | q | q | q | q | q
  · rw [sA_0 q] at st
    by_cases k1 : kd = 1
    · rw [st0_1 k1] at st
      cases st
    · by_cases kz : kw < 0 ∨ 9 ≤ kw
      · rw [st0_z k1 kz] at st
        exact (hlt_i st).elim
      · have kk : kw = 0 ∨ kw = 1 ∨ kw = 2 ∨ kw = 3 ∨ kw = 4 ∨ kw = 5 ∨ kw = 6 ∨ kw = 7 ∨ kw = 8 := by omega
        have k2 : 2 ≤ kd := by
          by_cases g : kd = 2
          · omega
          · have := t6 g
            omega
        obtain ⟨f0, f1⟩ := t7 k2
        rcases kk with k | k | k | k | k | k | k | k | k
        · by_cases c : s 10 = 1
          · rw [st0_f0 k1 k c] at st
            exact (hlt_i st).elim
          · rw [st0_t0 k1 k c] at st
            cases st
            exact inv_lake h q f0 f1
        · by_cases c : s 11 = 1
          · rw [st0_f1 k1 k c] at st
            exact (hlt_i st).elim
          · rw [st0_t1 k1 k c] at st
            cases st
            exact inv_rain h q f0 f1
        · by_cases c : s 12 = 1
          · rw [st0_f2 k1 k c] at st
            exact (hlt_i st).elim
          · rw [st0_t2 k1 k c] at st
            cases st
            exact inv_mill h q f0 f1
        · by_cases c : s 13 = 1
          · rw [st0_f3 k1 k c] at st
            exact (hlt_i st).elim
          · rw [st0_t3 k1 k c] at st
            cases st
            exact inv_storm h q f0 f1
        · by_cases c : 5 ≤ s 200
          · rw [st0_f4 k1 k c] at st
            exact (hlt_i st).elim
          · rw [st0_t4 k1 k c] at st
            cases st
            exact inv_house h q (by omega) f0 f1
        · by_cases c : 8 ≤ s 201
          · rw [st0_f5 k1 k c] at st
            exact (hlt_i st).elim
          · rw [st0_t5 k1 k c] at st
            cases st
            exact inv_room h q (by omega) f0 f1
        · by_cases c : 6 ≤ s 202
          · rw [st0_f6 k1 k c] at st
            exact (hlt_i st).elim
          · rw [st0_t6 k1 k c] at st
            cases st
            exact inv_guest h q (by omega) f0 f1
        · rw [st0_t7 k1 k] at st
          cases st
          exact inv_quarrel h q f0 f1
        · rw [st0_t8 k1 k] at st
          cases st
          exact inv_sleeps h q f0 f1
  · rw [sA_1 q] at st
    obtain ⟨k1, k2, k3, rfl⟩ := stNum_i st
    obtain ⟨f0, f1⟩ := t7 (by omega)
    exact inv_n1 h q f0 f1
  · rw [sA_2 q] at st
    obtain ⟨k1, k2, k3, rfl⟩ := stNum_i st
    obtain ⟨f0, f1⟩ := t7 (by omega)
    exact inv_n2 h q f0 f1
  · rw [sA_3 q] at st
    obtain ⟨k1, k2, k3, rfl⟩ := stNum_i st
    obtain ⟨f0, f1⟩ := t7 (by omega)
    exact inv_n3 h q f0 f1
  · rw [sA_4 q] at st
    obtain ⟨k1, k2, k3, rfl⟩ := stNum_i st
    obtain ⟨f0, f1⟩ := t7 (by omega)
    exact inv_n4 h q f0 f1
  · rw [sA_5 q] at st
    obtain ⟨k1, k2, k3, rfl⟩ := stNum_i st
    obtain ⟨f0, f1⟩ := t7 (by omega)
    exact inv_n5 h q f0 f1
  · rw [sA_6 q] at st
    obtain ⟨k1, rfl⟩ := stNew_i st
    obtain ⟨f0, f1⟩ := t7 (by omega)
    exact inv_w6 h q (t8 k1).1 f0 f1
  · rw [sA_7 q] at st
    obtain ⟨k1, k2, k3, rfl⟩ := stNum_i st
    obtain ⟨f0, f1⟩ := t7 (by omega)
    exact inv_n7 h q f0 f1
  · rw [sA_8 q] at st
    obtain ⟨k1, k2, k3, rfl⟩ := stNum_i st
    obtain ⟨f0, f1⟩ := t7 (by omega)
    exact inv_n8 h q f0 f1
  · rw [sA_9 q] at st
    obtain ⟨k1, rfl⟩ := stNew_i st
    obtain ⟨f0, f1⟩ := t7 (by omega)
    exact inv_w9 h q (t8 k1).1 f0 f1
  · rw [sA_10 q] at st
    obtain ⟨k1, i, i0, i1, st⟩ := stFnd_i st (by omega)
    obtain ⟨f0, f1⟩ := t7 (by omega)
    cases st
    exact inv_f10 h q i0 i1 f0 f1
  · rw [sA_11 q] at st
    obtain ⟨k1, k2, k3, rfl⟩ := stNum_i st
    obtain ⟨f0, f1⟩ := t7 (by omega)
    exact inv_n11 h q f0 f1
  · rw [sA_12 q] at st
    obtain ⟨k1, k2, k3, rfl⟩ := stNum_i st
    obtain ⟨f0, f1⟩ := t7 (by omega)
    exact inv_n12 h q f0 f1
  · rw [sA_13 q] at st
    obtain ⟨k1, rfl⟩ := stNew_i st
    obtain ⟨f0, f1⟩ := t7 (by omega)
    exact inv_w13 h q (t8 k1).1 f0 f1
  · rw [sA_14 q] at st
    obtain ⟨k1, k2, k3, rfl⟩ := stNum_i st
    obtain ⟨f0, f1⟩ := t7 (by omega)
    exact inv_n14 h q f0 f1
  · rw [sA_15 q] at st
    obtain ⟨k1, k2, k3, rfl⟩ := stNum_i st
    obtain ⟨f0, f1⟩ := t7 (by omega)
    exact inv_n15 h q f0 f1
  · rw [sA_16 q] at st
    obtain ⟨k1, i, i0, i1, st⟩ := stFnd_i st (by omega)
    obtain ⟨f0, f1⟩ := t7 (by omega)
    cases st
    exact inv_f16 h q i0 i1 f0 f1
  · rw [sA_17 q] at st
    obtain ⟨k1, i, i0, i1, st⟩ := stFnd_i st (by omega)
    obtain ⟨f0, f1⟩ := t7 (by omega)
    by_cases c : i = s 3 ∨ bitI (s (254 + s 3)) i = 1
    · rw [cI_t c] at st
      exact (hlt_i st).elim
    · rw [cI_f c] at st
      cases st
      exact inv_f17 h q i0 i1 (fun e => c (Or.inl e)) (fun e => c (Or.inr e)) f0 f1
  · rw [sA_18 q] at st
    obtain ⟨k1, i, i0, i1, st⟩ := stFnd_i st (by omega)
    obtain ⟨f0, f1⟩ := t7 (by omega)
    by_cases c : s (260 + i) = -1
    · rw [cI_t c] at st
      cases st
      exact inv_f18 h q i0 i1 f0 f1
    · rw [cI_f c] at st
      exact (hlt_i st).elim
  · rw [sA_19 q] at st
    obtain ⟨k1, i, i0, i1, st⟩ := stFnd_i st (by omega)
    obtain ⟨f0, f1⟩ := t7 (by omega)
    by_cases c : ∃ j : Int, 0 ≤ j ∧ j < s 202 ∧ s (260 + j) = i
    · rw [cI_t c] at st
      exact (hlt_i st).elim
    · rw [cI_f c] at st
      cases st
      exact inv_f19 h q i0 i1 f0 f1
  · rw [sA_20 q] at st
    obtain ⟨k1, k2, k3, rfl⟩ := stNum_i st
    obtain ⟨f0, f1⟩ := t7 (by omega)
    exact inv_n20 h q f0 f1
  · rw [sA_30 q] at st
    by_cases c : kd = 4 ∧ va = 59
    · rw [cI_t c] at st
      cases st
      obtain ⟨f0, f1⟩ := t7 (by omega)
      exact inv_s30 h q f0 f1
    · rw [cI_f c] at st
      exact (hlt_i st).elim
theorem Inv_0 {n : Int} : Inv n sI := by
  refine ⟨?_, ?_, ?_, ?_, ?_⟩
  · have e : ∀ r : Int, r = 0 ∨ r = 1 ∨ r = 2 ∨ r = 3 ∨ r = 10 ∨ r = 11 ∨ r = 12 ∨ r = 13 ∨ r = 200 ∨ r = 201 ∨ r = 202 → sI r = 0 := fun r hr => by
      rcases hr with rfl | rfl | rfl | rfl | rfl | rfl | rfl | rfl | rfl | rfl | rfl <;> rfl
    unfold I1
    rw [e 0 (by omega), e 1 (by omega), e 2 (by omega), e 3 (by omega), e 10 (by omega), e 11 (by omega), e 12 (by omega), e 13 (by omega), e 200 (by omega), e 201 (by omega), e 202 (by omega)]
    omega
  · intro j j0 j1
    have hj : j = 0 ∨ j = 1 ∨ j = 2 ∨ j = 3 ∨ j = 4 ∨ j = 5 := by omega
    have e : sI (254 + j) = 0 := by rcases hj with rfl | rfl | rfl | rfl | rfl | rfl <;> rfl
    omega
  · intro j j0 j1
    change 0 ≤ j at j0
    have hj : j = 0 ∨ j = 1 ∨ j = 2 ∨ j = 3 ∨ j = 4 ∨ j = 5 := by omega
    rcases hj with rfl | rfl | rfl | rfl | rfl | rfl <;> rfl
  · intro j j0 j1 _
    have hj : j = 0 ∨ j = 1 ∨ j = 2 ∨ j = 3 ∨ j = 4 ∨ j = 5 ∨ j = 6 ∨ j = 7 ∨ j = 8 ∨ j = 9 ∨ j = 10 ∨ j = 11 ∨ j = 12 ∨ j = 13 ∨ j = 14 ∨ j = 15 ∨ j = 16 ∨ j = 17 ∨ j = 18 := by omega
    rcases hj with rfl | rfl | rfl | rfl | rfl | rfl | rfl | rfl | rfl | rfl | rfl | rfl | rfl | rfl | rfl | rfl | rfl | rfl | rfl <;> rfl
  · intro j q
    unfold own kslot pend at q
    rw [show sI 0 = 0 from rfl, show sI 200 = 0 from rfl, show sI 201 = 0 from rfl, show sI 202 = 0 from rfl] at q
    omega
theorem Rch_I {z n : Int} : ∀ {t : Nat} {s : AS}, Rch z n t s → Inv n s
  | 0, s, h => by
    have h' : s = sI := h
    rw [h']
    exact Inv_0
  | t + 1, s, h => by
    obtain ⟨s', kd, pl, fi, kw, va, wo, h1, h2, h3⟩ := h
    exact Inv_s (Rch_I h1) h2 h3
end
