noncomputable section
/-! numbers packed in one: digits of 72 bits -/
theorem p72m : (4722366482869645213695 : Nat) = 2 ^ 72 - 1 := by decide
theorem p71 : (2361183241434822606848 : Nat) = 2 ^ 71 := by decide
def dg (N k : Nat) : Nat := Nat.land (Nat.shiftRight N (Nat.mul 72 k)) 4722366482869645213695
theorem dg_eq (N k : Nat) : dg N k = N / 2 ^ (72 * k) % 2 ^ 72 := by
  have h : dg N k = (N >>> (72 * k)) &&& 4722366482869645213695 := rfl
  rw [h, p72m, Nat.and_two_pow_sub_one_eq_mod, Nat.shiftRight_eq_div_pow]
theorem dg_lt (N k : Nat) : dg N k < 2 ^ 72 := by
  rw [dg_eq]
  exact Nat.mod_lt _ (Nat.two_pow_pos 72)
def dsh (N c : Nat) : Nat := Nat.shiftRight N (Nat.mul 72 c)
theorem dg_div (X m d : Nat) : dg (X / 2 ^ (72 * m)) d = dg X (m + d) := by
  rw [dg_eq, dg_eq, Nat.div_div_eq_div_mul, ← Nat.pow_add, Nat.mul_add]
theorem dg_sh (N c j : Nat) : dg (dsh N c) j = dg N (c + j) := by
  have h : dsh N c = N / 2 ^ (72 * c) := Nat.shiftRight_eq_div_pow N (72 * c)
  rw [h, dg_div]
theorem dg_low {X Y m i : Nat} (h : X % 2 ^ (72 * m) = Y % 2 ^ (72 * m)) (hi : i < m) : dg X i = dg Y i := by
  have hd : 2 ^ (72 * i) * 2 ^ 72 ∣ 2 ^ (72 * m) := by
    rw [← Nat.pow_add]
    exact Nat.pow_dvd_pow 2 (by omega)
  have a : X % (2 ^ (72 * i) * 2 ^ 72) = Y % (2 ^ (72 * i) * 2 ^ 72) := by
    rw [← Nat.mod_mod_of_dvd X hd, h, Nat.mod_mod_of_dvd Y hd]
  rw [dg_eq, dg_eq, ← Nat.mod_mul_right_div_self X, ← Nat.mod_mul_right_div_self Y, a]
def dcat (N m M : Nat) : Nat := Nat.add (Nat.mod N (Nat.pow 2 (Nat.mul 72 m))) (Nat.mul M (Nat.pow 2 (Nat.mul 72 m)))
theorem dcat_eq (N m M : Nat) : dcat N m M = N % 2 ^ (72 * m) + M * 2 ^ (72 * m) := rfl
theorem dg_cat_lo {N m M i : Nat} (hi : i < m) : dg (dcat N m M) i = dg N i := dg_low (m := m) (by rw [dcat_eq, Nat.add_mul_mod_self_right, Nat.mod_mod]) hi
theorem dg_cat_hi (N m M d : Nat) : dg (dcat N m M) (m + d) = dg M d := by
  rw [← dg_div, dcat_eq, Nat.add_mul_div_right _ _ (Nat.two_pow_pos _), Nat.div_eq_of_lt (Nat.mod_lt _ (Nat.two_pow_pos _)), Nat.zero_add]
/-- a digit made greater -/
def drz (N j e : Nat) : Nat := Nat.add N (Nat.mul (Nat.sub e (dg N j)) (Nat.pow 2 (Nat.mul 72 j)))
theorem drz_eq (N j e : Nat) : drz N j e = N + (e - dg N j) * 2 ^ (72 * j) := rfl
theorem drz_hi {N j e : Nat} (he : e < 2 ^ 72) : drz N j e / 2 ^ (72 * (j + 1)) = N / 2 ^ (72 * (j + 1)) := by
  have h1 := dg_eq N j
  rw [show 72 * (j + 1) = 72 * j + 72 by omega, Nat.pow_add, ← Nat.div_div_eq_div_mul, ← Nat.div_div_eq_div_mul, drz_eq, Nat.add_mul_div_right _ _ (Nat.two_pow_pos _), h1]
  generalize N / 2 ^ (72 * j) = q
  omega
theorem dg_rz_ne {N j e i : Nat} (he : e < 2 ^ 72) (h : i ≠ j) : dg (drz N j e) i = dg N i := by
  rcases Nat.lt_or_ge i j with g | g
  · exact dg_low (m := j) (by rw [drz_eq, Nat.add_mul_mod_self_right]) g
  · obtain ⟨d, rfl⟩ : ∃ d, i = (j + 1) + d := ⟨i - (j + 1), by omega⟩
    rw [← dg_div, ← dg_div, drz_hi he]
theorem dg_rz_eq {N j e : Nat} (he : e < 2 ^ 72) : dg (drz N j e) j = dg N j + (e - dg N j) := by
  have h1 := dg_eq N j
  rw [dg_eq (drz N j e) j, drz_eq, Nat.add_mul_div_right _ _ (Nat.two_pow_pos _), h1]
  generalize N / 2 ^ (72 * j) = q
  omega
/-- two digits -/
theorem dg_p0 {a b : Nat} (ha : a < 2 ^ 72) : dg (a + b * 2 ^ 72) 0 = a := by
  rw [dg_eq, Nat.mul_zero, Nat.pow_zero, Nat.div_one]
  omega
theorem dg_p1 {a b d : Nat} (ha : a < 2 ^ 72) : dg (a + b * 2 ^ 72) (d + 1) = dg b d := by
  rw [show d + 1 = 1 + d by omega, ← dg_div, Nat.mul_one]
  congr 1
  omega
/-- many digits compared at once -/
def oo : Nat → Nat
  | 0 => 0
  | m + 1 => 1 + 2 ^ 72 * oo m
theorem oo_pow : ∀ m : Nat, 2 ^ (72 * m) = oo m * (2 ^ 72 - 1) + 1
  | 0 => rfl
  | m + 1 => by
    have ih := oo_pow m
    rw [show 72 * (m + 1) = 72 * m + 72 by omega, Nat.pow_add, ih]
    show _ = (1 + 2 ^ 72 * oo m) * (2 ^ 72 - 1) + 1
    omega
def dG (m : Nat) : Nat := Nat.mul (Nat.div (Nat.sub (Nat.pow 2 (Nat.mul 72 m)) 1) 4722366482869645213695) 2361183241434822606848
theorem dG_eq (m : Nat) : dG m = oo m * 2 ^ 71 := by
  have h : dG m = (2 ^ (72 * m) - 1) / 4722366482869645213695 * 2361183241434822606848 := rfl
  rw [h, p72m, p71, oo_pow m, Nat.add_sub_cancel, Nat.mul_div_cancel _ (by decide)]
theorem dG_succ (m : Nat) : dG (m + 1) = 2 ^ 71 + 2 ^ 72 * dG m := by
  rw [dG_eq, dG_eq]
  show (1 + 2 ^ 72 * oo m) * 2 ^ 71 = _
  omega
theorem bit71 {x : Nat} (hx : x < 2 ^ 72) (h : x &&& 2 ^ 71 = 0) : x < 2 ^ 71 := by
  have h1 : (x &&& 2 ^ 71).testBit 71 = x.testBit 71 := by rw [Nat.testBit_and, Nat.testBit_two_pow_self, Bool.and_true]
  rw [h, Nat.zero_testBit, Nat.testBit_eq_decide_div_mod_eq] at h1
  have h2 := of_decide_eq_false h1.symm
  omega
theorem and_parts {X G g G1 V v V1 : Nat} (h : X &&& G = V) (e1 : G % 2 ^ 72 = g) (e2 : G / 2 ^ 72 = G1) (e3 : V % 2 ^ 72 = v) (e4 : V / 2 ^ 72 = V1) : X % 2 ^ 72 &&& g = v ∧ X / 2 ^ 72 &&& G1 = V1 := by
  subst e1; subst e2; subst e3; subst e4
  rw [← Nat.and_mod_two_pow, ← Nat.and_div_two_pow, h]
  exact ⟨rfl, rfl⟩
theorem sw_ok : ∀ (m X Y : Nat), X &&& dG m = 0 → Y &&& dG m = 0 → (X + dG m - Y) &&& dG m = dG m → ∀ j, j < m → dg Y j ≤ dg X j
  | 0, _, _, _, _, _, j, hj => by omega
  | m + 1, X, Y, h1, h2, h3, j, hj => by
    have eG := dG_succ m
    have gm : dG (m + 1) % 2 ^ 72 = 2 ^ 71 := by omega
    have gd : dG (m + 1) / 2 ^ 72 = dG m := by omega
    obtain ⟨a1, a2⟩ := and_parts h1 gm gd (v := 0) (V1 := 0) (by rfl) (by rfl)
    obtain ⟨b1, b2⟩ := and_parts h2 gm gd (v := 0) (V1 := 0) (by rfl) (by rfl)
    obtain ⟨c1, c2⟩ := and_parts h3 gm gd gm gd
    have x0 := bit71 (Nat.mod_lt X (Nat.two_pow_pos 72)) a1
    have y0 := bit71 (Nat.mod_lt Y (Nat.two_pow_pos 72)) b1
    have hle : Y / 2 ^ 72 ≤ X / 2 ^ 72 + dG m := by
      rcases Nat.lt_or_ge (X / 2 ^ 72 + dG m) (Y / 2 ^ 72) with g | g
      · exfalso
        have z : X + dG (m + 1) - Y = 0 := by omega
        rw [z, Nat.zero_and] at h3
        omega
      · exact g
    have z1 : (X + dG (m + 1) - Y) % 2 ^ 72 = X % 2 ^ 72 + 2 ^ 71 - Y % 2 ^ 72 := by omega
    have z2 : (X + dG (m + 1) - Y) / 2 ^ 72 = X / 2 ^ 72 + dG m - Y / 2 ^ 72 := by omega
    rw [z1] at c1
    rw [z2] at c2
    have c3 : 2 ^ 71 ≤ X % 2 ^ 72 + 2 ^ 71 - Y % 2 ^ 72 := by
      have := Nat.and_le_left (n := X % 2 ^ 72 + 2 ^ 71 - Y % 2 ^ 72) (m := 2 ^ 71)
      rw [c1] at this
      exact this
    cases j with
    | zero =>
      rw [dg_eq, dg_eq, Nat.mul_zero, Nat.pow_zero, Nat.div_one, Nat.div_one]
      omega
    | succ j =>
      have ih := sw_ok m (X / 2 ^ 72) (Y / 2 ^ 72) a2 b2 c2 j (by omega)
      have e1 := dg_div X 1 j
      have e2 := dg_div Y 1 j
      rw [Nat.mul_one] at e1 e2
      rw [e1, e2, show 1 + j = j + 1 by omega] at ih
      exact ih
/-- one of two; a name of its own, so that the kernel comes back from it before it goes on -/
def bq {A : Type} (c : Bool) (a b : A) : A := @Bool.rec (fun _ => A) b a c
def sw1 (G X Y : Nat) : Bool := bq (Nat.beq (Nat.land X G) 0) (bq (Nat.beq (Nat.land Y G) 0) (Nat.beq (Nat.land (Nat.sub (Nat.add X G) Y) G) G) false) false
def swr (m X Y : Nat) : Bool := sw1 (dG m) (Nat.mod X (Nat.pow 2 (Nat.mul 72 m))) (Nat.mod Y (Nat.pow 2 (Nat.mul 72 m)))
theorem bq_t {A : Type} (a b : A) : bq true a b = a := rfl
theorem bq_f {A : Type} (a b : A) : bq false a b = b := rfl
theorem land_eq (a b : Nat) : Nat.land a b = a &&& b := rfl
theorem ads_eq (a b c : Nat) : Nat.sub (Nat.add a b) c = a + b - c := rfl
theorem sw1_ok {m X Y : Nat} (h : sw1 (dG m) X Y = true) : ∀ j, j < m → dg Y j ≤ dg X j := by
  unfold sw1 at h
  simp only [land_eq, ads_eq] at h
  have hs := sw_ok m X Y
  generalize dG m = G at h hs
  cases h1 : Nat.beq (X &&& G) 0
  · rw [h1, bq_f] at h
    cases h
  · rw [h1, bq_t] at h
    cases h2 : Nat.beq (Y &&& G) 0
    · rw [h2, bq_f] at h
      cases h
    · rw [h2, bq_t] at h
      exact hs (Nat.eq_of_beq_eq_true h1) (Nat.eq_of_beq_eq_true h2) (Nat.eq_of_beq_eq_true h)
theorem swr_ok {m X Y : Nat} (h : swr m X Y = true) : ∀ j, j < m → dg Y j ≤ dg X j := by
  intro j hj
  have h1 := sw1_ok (show sw1 (dG m) (X % 2 ^ (72 * m)) (Y % 2 ^ (72 * m)) = true from h) j hj
  rw [dg_low (X := X % 2 ^ (72 * m)) (Y := X) (Nat.mod_mod _ _) hj, dg_low (X := Y % 2 ^ (72 * m)) (Y := Y) (Nat.mod_mod _ _) hj] at h1
  exact h1
/-- two digits again and again -/
def o2 : Nat → Nat
  | 0 => 0
  | m + 1 => 1 + 2 ^ 144 * o2 m
theorem o2_pow : ∀ m : Nat, 2 ^ (144 * m) = o2 m * (2 ^ 144 - 1) + 1
  | 0 => rfl
  | m + 1 => by
    have ih := o2_pow m
    rw [show 144 * (m + 1) = 144 * m + 144 by omega, Nat.pow_add, ih]
    show _ = (1 + 2 ^ 144 * o2 m) * (2 ^ 144 - 1) + 1
    omega
def rpt (m D : Nat) : Nat := Nat.mul (Nat.div (Nat.sub (Nat.pow 2 (Nat.mul 144 m)) 1) 22300745198530623141535718272648361505980415) D
theorem rpt_eq (m D : Nat) : rpt m D = o2 m * D := by
  have h : rpt m D = (2 ^ (144 * m) - 1) / 22300745198530623141535718272648361505980415 * D := rfl
  rw [h, show (22300745198530623141535718272648361505980415 : Nat) = 2 ^ 144 - 1 by decide, o2_pow m, Nat.add_sub_cancel, Nat.mul_div_cancel _ (by decide)]
theorem rpt_succ {m D : Nat} (hD : D < 2 ^ 144) : rpt (m + 1) D = dcat D 2 (rpt m D) := by
  rw [rpt_eq, rpt_eq, dcat_eq]
  show (1 + 2 ^ 144 * o2 m) * D = D % 2 ^ 144 + o2 m * D * 2 ^ 144
  rw [Nat.mod_eq_of_lt hD, Nat.add_mul, Nat.one_mul, Nat.mul_assoc, Nat.mul_comm (2 ^ 144)]
theorem dg_rpt {D : Nat} (hD : D < 2 ^ 144) : ∀ (m i : Nat), i < m → dg (rpt m D) (2 * i) = dg D 0 ∧ dg (rpt m D) (2 * i + 1) = dg D 1
  | 0, i, h => by omega
  | m + 1, 0, _ => by
    rw [rpt_succ hD]
    exact ⟨dg_cat_lo (by omega), dg_cat_lo (by omega)⟩
  | m + 1, i + 1, h => by
    rw [rpt_succ hD, show 2 * (i + 1) = 2 + 2 * i by omega, dg_cat_hi, show 2 + 2 * i + 1 = 2 + (2 * i + 1) by omega, dg_cat_hi]
    exact dg_rpt hD m i (by omega)
end
