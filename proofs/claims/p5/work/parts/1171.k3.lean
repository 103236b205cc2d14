noncomputable section
/-! T3: rules (printed by wip/v5/gen/rules4.py) -/
theorem k_blk_y0 {b r : Int} (p1 : 32 ≤ b ∧ b ≤ 32) (p2 : 1 ≤ r ∧ r ≤ 1) : pBlk b r := by
  unfold pBlk iff1 bBl
  omega
theorem k_blk_y1 {b r : Int} (p1 : 10 ≤ b ∧ b ≤ 10) (p2 : 1 ≤ r ∧ r ≤ 1) : pBlk b r := by
  unfold pBlk iff1 bBl
  omega
theorem k_blk_n0 {b r : Int} (p1 : -128 ≤ b ∧ b ≤ 9) (p2 : 0 ≤ r ∧ r ≤ 0) : pBlk b r := by
  unfold pBlk iff1 bBl
  omega
theorem k_blk_n1 {b r : Int} (p1 : 11 ≤ b ∧ b ≤ 31) (p2 : 0 ≤ r ∧ r ≤ 0) : pBlk b r := by
  unfold pBlk iff1 bBl
  omega
theorem k_blk_n2 {b r : Int} (p1 : 33 ≤ b ∧ b ≤ 255) (p2 : 0 ≤ r ∧ r ≤ 0) : pBlk b r := by
  unfold pBlk iff1 bBl
  omega
theorem k_let_y0 {b r : Int} (p1 : 97 ≤ b ∧ b ≤ 122) (p2 : 1 ≤ r ∧ r ≤ 1) : pLet b r := by
  unfold pLet iff1 bLt
  omega
theorem k_let_n0 {b r : Int} (p1 : -128 ≤ b ∧ b ≤ 96) (p2 : 0 ≤ r ∧ r ≤ 0) : pLet b r := by
  unfold pLet iff1 bLt
  omega
theorem k_let_n1 {b r : Int} (p1 : 123 ≤ b ∧ b ≤ 255) (p2 : 0 ≤ r ∧ r ≤ 0) : pLet b r := by
  unfold pLet iff1 bLt
  omega
theorem k_dig_y0 {b r : Int} (p1 : 48 ≤ b ∧ b ≤ 57) (p2 : 1 ≤ r ∧ r ≤ 1) : pDig b r := by
  unfold pDig iff1 bDg
  omega
theorem k_dig_n0 {b r : Int} (p1 : -128 ≤ b ∧ b ≤ 47) (p2 : 0 ≤ r ∧ r ≤ 0) : pDig b r := by
  unfold pDig iff1 bDg
  omega
theorem k_dig_n1 {b r : Int} (p1 : 58 ≤ b ∧ b ≤ 255) (p2 : 0 ≤ r ∧ r ≤ 0) : pDig b r := by
  unfold pDig iff1 bDg
  omega
theorem k_sig_y0 {b r : Int} (p1 : 59 ≤ b ∧ b ≤ 62) (p2 : 1 ≤ r ∧ r ≤ 1) : pSig b r := by
  unfold pSig iff1 bSg
  omega
theorem k_sig_y1 {b r : Int} (p1 : 40 ≤ b ∧ b ≤ 41) (p2 : 1 ≤ r ∧ r ≤ 1) : pSig b r := by
  unfold pSig iff1 bSg
  omega
theorem k_sig_n0 {b r : Int} (p1 : -128 ≤ b ∧ b ≤ 39) (p2 : 0 ≤ r ∧ r ≤ 0) : pSig b r := by
  unfold pSig iff1 bSg
  omega
theorem k_sig_n1 {b r : Int} (p1 : 42 ≤ b ∧ b ≤ 58) (p2 : 0 ≤ r ∧ r ≤ 0) : pSig b r := by
  unfold pSig iff1 bSg
  omega
theorem k_sig_n2 {b r : Int} (p1 : 63 ≤ b ∧ b ≤ 255) (p2 : 0 ≤ r ∧ r ≤ 0) : pSig b r := by
  unfold pSig iff1 bSg
  omega
theorem k_let_x {b : Int} (p1 : pLet b 1) (p2 : pLet b 0) : False := iff1_f p2 rfl (iff1_t p1 rfl)
theorem k_dec_cb {i x c : Int} (p1 : pCb 0 i x) (p2 : pOp 5 c x 255) (p3 : 0 ≤ x ∧ x ≤ 127) : pCb 0 i c := fun e => ⟨(p1 e).1, by
  have q := op_and255 p2
  have q2 := (p1 e).2
  omega⟩
theorem k_skp_0 {p z : Int} (p1 : -1 * p ≤ 0) : aSp z p p := ⟨by omega, by omega, aAll_0⟩
theorem k_skp_1 {z p i b : Int} (p1 : aSp z p i) (p2 : pDec b z i) (p3 : pBlk b 1) : aSp z p (i + 1) := ⟨p1.1, by have := p1.2.1; omega, aAll_s p1.2.2 (by rw [dec_tB p2]; exact iff1_t p3 rfl)⟩
theorem k_ske_e {z p s n : Int} (p1 : aSp z p s) (p2 : -1 * s + n ≤ 0) (p3 : s + -1 * n ≤ 0) : aSk z n p s := ⟨p1, by omega, Or.inl (by omega)⟩
theorem k_ske_b {z p s b n : Int} (p1 : aSp z p s) (p2 : pDec b z s) (p3 : pBlk b 0) (p4 : s + -1 * n + 1 ≤ 0) : aSk z n p s := ⟨p1, by omega, Or.inr (by rw [dec_tB p2]; exact iff1_f p3 rfl)⟩
theorem k_runc_0 {s z : Int} (p1 : -1 * s ≤ 0) : aRc z s s 0 0 := rc_0 (by omega)
theorem k_runc_l {z s i l d b : Int} (p1 : aRc z s i l d) (p2 : pDec b z i) (p3 : pLet b 1) : aRc z s (i + 1) (l + 1) d := rc_l p1 (by rw [dec_tB p2]; exact iff1_t p3 rfl)
theorem k_runc_d {z s i l d b : Int} (p1 : aRc z s i l d) (p2 : pDec b z i) (p3 : pDig b 1) : aRc z s (i + 1) l (d + 1) := rc_d p1 (by rw [dec_tB p2]; exact iff1_t p3 rfl)
theorem k_runc_ul {z s i l d : Int} (p1 : aRc z s i l d) (p2 : -1 * s ≤ 0) (p3 : i + -940 ≤ 0) (p4 : -2147483648 ≤ l ∧ l ≤ 2147483647) : (0 ≤ l) ∧ (l ≤ 940) := by
  obtain ⟨h1, h2, h3, h4, h5, h6, h7, h8⟩ := p1
  omega
theorem k_runc_ud {z s i l d : Int} (p1 : aRc z s i l d) (p2 : -1 * s ≤ 0) (p3 : i + -940 ≤ 0) (p4 : -2147483648 ≤ d ∧ d ≤ 2147483647) : (0 ≤ d) ∧ (d ≤ 940) := by
  obtain ⟨h1, h2, h3, h4, h5, h6, h7, h8⟩ := p1
  omega
theorem k_rune_e {z s e l d n : Int} (p1 : aRc z s e l d) (p2 : -1 * e + n ≤ 0) (p3 : e + -1 * n ≤ 0) : aRe z n s e := ⟨p1.2.1, by omega, p1.2.2.1, Or.inl (by omega)⟩
theorem k_rune_b {z s e l d b n : Int} (p1 : aRc z s e l d) (p2 : pDec b z e) (p3 : pLet b 0) (p4 : pDig b 0) (p5 : e + -1 * n + 1 ≤ 0) : aRe z n s e := ⟨p1.2.1, by omega, p1.2.2.1, Or.inr (nrn p2 p3 p4)⟩
theorem k_rn_l {b z s : Int} (p1 : pDec b z s) (p2 : pLet b 1) : pRn z s := by
  show bRn _
  rw [dec_tB p1]
  exact Or.inl (iff1_t p2 rfl)
theorem k_rn_d {b z s : Int} (p1 : pDec b z s) (p2 : pDig b 1) : pRn z s := by
  show bRn _
  rw [dec_tB p1]
  exact Or.inr (iff1_t p2 rfl)
theorem k_runk_w {z s e l d k : Int} (p1 : aRc z s e l d) (p2 : 0 ≤ d ∧ d ≤ 0) (p3 : l + -7 ≤ 0) (p4 : 2 ≤ k ∧ k ≤ 2) : aRk z s e k := by
  obtain ⟨h1, h2, h3, h4, h5, h6, h7, h8⟩ := p1
  exact Or.inl ⟨by omega, h7.mp (by omega), by omega⟩
theorem k_runk_n {z s e l d k : Int} (p1 : aRc z s e l d) (p2 : 0 ≤ l ∧ l ≤ 0) (p3 : d + -3 ≤ 0) (p4 : 3 ≤ k ∧ k ≤ 3) : aRk z s e k := by
  obtain ⟨h1, h2, h3, h4, h5, h6, h7, h8⟩ := p1
  exact Or.inr (Or.inl ⟨by omega, h8.mp (by omega), by omega⟩)
theorem k_runk_a {z s e l d k : Int} (p1 : aRc z s e l d) (p2 : -1 * l + 1 ≤ 0) (p3 : -1 * d + 1 ≤ 0) (p4 : 0 ≤ k ∧ k ≤ 0) : aRk z s e k := by
  obtain ⟨h1, h2, h3, h4, h5, h6, h7, h8⟩ := p1
  refine Or.inr (Or.inr ⟨by omega, fun q => ?_, fun q => ?_⟩)
  · have := h7.mpr q.1
    omega
  · have := h8.mpr q.1
    omega
theorem k_runk_b {z s e l d k : Int} (p1 : aRc z s e l d) (p2 : 0 ≤ d ∧ d ≤ 0) (p3 : -1 * l + 8 ≤ 0) (p4 : 0 ≤ k ∧ k ≤ 0) : aRk z s e k := by
  obtain ⟨h1, h2, h3, h4, h5, h6, h7, h8⟩ := p1
  refine Or.inr (Or.inr ⟨by omega, fun q => ?_, fun q => ?_⟩)
  · have := q.2
    omega
  · have := h8.mpr q.1
    omega
theorem k_runk_c {z s e l d k : Int} (p1 : aRc z s e l d) (p2 : 0 ≤ l ∧ l ≤ 0) (p3 : -1 * d + 4 ≤ 0) (p4 : 0 ≤ k ∧ k ≤ 0) : aRk z s e k := by
  obtain ⟨h1, h2, h3, h4, h5, h6, h7, h8⟩ := p1
  refine Or.inr (Or.inr ⟨by omega, fun q => ?_, fun q => ?_⟩)
  · have := h7.mpr q.1
    omega
  · have := q.2
    omega
theorem k_valc_0 {s z : Int} (p1 : -1 * s ≤ 0) : aVal z s s 0 := val_0 (by omega)
theorem k_valc_d {z s i v b : Int} (p1 : aVal z s i v) (p2 : pDec b z i) (p3 : pDig b 1) (p4 : -1 * s + i + -2 ≤ 0) : aVal z s (i + 1) (10 * v + b + -48) := by
  have d := iff1_t p3 rfl
  unfold bDg at d
  have q := val_d p1 (dec_tB p2) (by omega) (by omega) (by omega)
  rw [show 10 * v + b + -48 = 10 * v + b - 48 by omega]
  exact q
theorem k_valc_l {z s i v b : Int} (p1 : aVal z s i v) (p2 : pDec b z i) (p3 : pLet b 1) : aVal z s (i + 1) v := val_l p1 (by rw [dec_tB p2]; exact iff1_t p3 rfl)
theorem k_valc_L {z s i v b : Int} (p1 : aVal z s i v) (p2 : pDec b z i) (p3 : pLet b 1) (p4 : -1 * s + i + -2 ≤ 0) : aVal z s (i + 1) (10 * v + b + -48) := by
  have d := iff1_t p3 rfl
  unfold bLt at d
  have q := val_d p1 (dec_tB p2) (by omega) (by omega) (by omega)
  rw [show 10 * v + b + -48 = 10 * v + b - 48 by omega]
  exact q
theorem k_valc_x {z s i u v : Int} (p1 : aVal z s i u) (p2 : s + -1 * i + 3 ≤ 0) : aVal z s (i + 1) v := val_x p1 (by omega)
theorem k_valc_use {z s i v : Int} (p1 : aVal z s i v) (p2 : -1 * s + i + -2 ≤ 0) (p3 : -2147483648 ≤ v ∧ v ≤ 2147483647) : (0 ≤ v) ∧ (v ≤ 814) := by
  obtain ⟨h1, h2, h3, h4, h5, h6, h7⟩ := p1
  have := h5 (by omega)
  omega
theorem k_valc_use3 {z s i v : Int} (p1 : aVal z s i v) (p2 : -1 * s + i + -3 ≤ 0) (p3 : -2147483648 ≤ v ∧ v ≤ 2147483647) : (0 ≤ v) ∧ (v ≤ 8214) := by
  obtain ⟨h1, h2, h3, h4, h5, h6, h7⟩ := p1
  have := h6 (by omega)
  omega
theorem k_wrdc_0 {s z : Int} (p1 : -1 * s ≤ 0) : aWd z s s 0 := wd_0 (by omega)
theorem k_wrdc_l {z s i w b : Int} (p1 : aWd z s i w) (p2 : pDec b z i) (p3 : pLet b 1) (p4 : -1 * s + i + -6 ≤ 0) : aWd z s (i + 1) (32 * w + b + -96) := by
  have q := wd_l p1 (dec_tB p2) (iff1_t p3 rfl) (by omega)
  rw [show 32 * w + b + -96 = 32 * w + b - 96 by omega]
  exact q
theorem k_wrdc_d {z s i w b : Int} (p1 : aWd z s i w) (p2 : pDec b z i) (p3 : pDig b 1) : aWd z s (i + 1) w := wd_d p1 (by rw [dec_tB p2]; exact iff1_t p3 rfl)
theorem k_wrdc_x {z s i u w : Int} (p1 : aWd z s i u) (p2 : s + -1 * i + 7 ≤ 0) : aWd z s (i + 1) w := wd_x p1 (by omega)
theorem k_wrdc_use {z s i w : Int} (p1 : aWd z s i w) (p2 : -1 * s + i + -6 ≤ 0) (p3 : -9223372036854775808 ≤ w ∧ w ≤ 9223372036854775807) : (0 ≤ w) ∧ (w ≤ 1073741823) := by
  obtain ⟨h1, h2, h3⟩ := p1
  obtain ⟨a1, a2, _⟩ := h3 (by omega)
  have := p32_6 (k := (i + -1 * s).toNat) (by omega)
  rw [show (i - s).toNat = (i + -1 * s).toNat by omega] at a2
  omega
theorem k_wrdr_0 {s z : Int} (p1 : -1 * s ≤ 0) : aWr z s s 0 := wr_0 (by omega)
theorem k_wrdr_l {z s i w b : Int} (p1 : aWr z s i w) (p2 : pDec b z i) (p3 : pLet b 1) (p4 : -1 * s + i + -6 ≤ 0) : aWr z s (i + 1) (27 * w + b + -96) := by
  have d := iff1_t p3 rfl
  unfold bLt at d
  have q := wr_s p1 (dec_tB p2) (by omega) (by omega) (by omega)
  rw [show 27 * w + b + -96 = 27 * w + b - 96 by omega]
  exact q
theorem k_wrdr_d {z s i w b : Int} (p1 : aWr z s i w) (p2 : pDec b z i) (p3 : pDig b 1) (p4 : -1 * s + i + -6 ≤ 0) : aWr z s (i + 1) (27 * w + b + -96) := by
  have d := iff1_t p3 rfl
  unfold bDg at d
  have q := wr_s p1 (dec_tB p2) (by omega) (by omega) (by omega)
  rw [show 27 * w + b + -96 = 27 * w + b - 96 by omega]
  exact q
theorem k_wrdr_x {z s i u w : Int} (p1 : aWr z s i u) (p2 : s + -1 * i + 7 ≤ 0) : aWr z s (i + 1) w := wr_x p1 (by omega)
theorem k_wrdr_use {z s i w : Int} (p1 : aWr z s i w) (p2 : -1 * s + i + -6 ≤ 0) (p3 : -9223372036854775808 ≤ w ∧ w ≤ 9223372036854775807) : (-1000000000 ≤ w) ∧ (w ≤ 1000000000) := by
  obtain ⟨h1, h2, h3⟩ := p1
  obtain ⟨a1, a2, _⟩ := h3 (by omega)
  have := bW_6 (k := (i + -1 * s).toNat) (by omega)
  rw [show (i - s).toNat = (i + -1 * s).toNat by omega] at a1 a2
  omega
theorem k_inl_a {n M s : Int} (p1 : n + -1 * M ≤ 0) : pInl n M s := by
  unfold pInl
  omega
theorem k_inl_b {s M n : Int} (p1 : s + -1 * M + 1 ≤ 0) : pInl n M s := by
  unfold pInl
  omega
theorem k_kwm_0 {s e z : Int} (p1 : -1 * s ≤ 0) (p2 : s + -1 * e ≤ 0) : aKm z s e 0 0 s 1 := km_0 (by omega) (by omega)
theorem k_kwm_hit {z s e i k a c : Int} (p1 : aKm z s e i k a 1) (p2 : pCb 0 i c) (p3 : 32 ≤ c ∧ c ≤ 32) (p4 : -1 * e + a ≤ 0) (p5 : e + -1 * a ≤ 0) (p6 : i + -125 ≤ 0) (p7 : -1 * i ≤ 0) : aKw z s e k := km_hit p1 p2 (by omega) (by omega) (by omega)
theorem k_kwm_s0 {z s e i k a c : Int} (p1 : aKm z s e i k a 0) (p2 : pCb 0 i c) (p3 : 32 ≤ c ∧ c ≤ 32) (p4 : i + -125 ≤ 0) (p5 : -1 * i ≤ 0) : aKm z s e (i + 1) (k + 1) s 1 := km_s p1 p2 (by omega) (by omega) (Or.inl rfl)
theorem k_kwm_s1 {z s e i k a c : Int} (p1 : aKm z s e i k a 1) (p2 : pCb 0 i c) (p3 : 32 ≤ c ∧ c ≤ 32) (p4 : -4294967296 ≤ -1 * e + a ∧ -1 * e + a ≤ -1) (p5 : i + -125 ≤ 0) (p6 : -1 * i ≤ 0) : aKm z s e (i + 1) (k + 1) s 1 := km_s p1 p2 (by omega) (by omega) (Or.inr ⟨rfl, by omega⟩)
theorem k_kwm_s2 {z s e i k a c : Int} (p1 : aKm z s e i k a 1) (p2 : pCb 0 i c) (p3 : 32 ≤ c ∧ c ≤ 32) (p4 : -4294967296 ≤ e + -1 * a ∧ e + -1 * a ≤ -1) (p5 : i + -125 ≤ 0) (p6 : -1 * i ≤ 0) : aKm z s e (i + 1) (k + 1) s 1 := km_s p1 p2 (by omega) (by omega) (Or.inr ⟨rfl, by omega⟩)
theorem k_kwm_nl0 {z s e i k a c y : Int} (p1 : aKm z s e i k a 0) (p2 : pCb 0 i c) (p3 : -65536 ≤ c ∧ c ≤ 31) (p4 : i + -125 ≤ 0) (p5 : -1 * i ≤ 0) : aKm z s e (i + 1) k y 0 := km_n p1 p2 (by omega) (by omega) (Or.inl ⟨rfl, rfl⟩)
theorem k_kwm_nl1 {z s e i k a c y : Int} (p1 : aKm z s e i k a 1) (p2 : pCb 0 i c) (p3 : -65536 ≤ c ∧ c ≤ 31) (p4 : i + -125 ≤ 0) (p5 : -1 * i ≤ 0) (p6 : e + -1 * a ≤ 0) : aKm z s e (i + 1) k y 0 := km_n p1 p2 (by omega) (by omega) (Or.inr (Or.inl ⟨rfl, rfl, Or.inl (by omega)⟩))
theorem k_kwm_nl2 {z s e i k a c b y : Int} (p1 : aKm z s e i k a 1) (p2 : pCb 0 i c) (p3 : -65536 ≤ c ∧ c ≤ 31) (p4 : i + -125 ≤ 0) (p5 : -1 * i ≤ 0) (p6 : pDec b z a) (p7 : -4294967296 ≤ -1 * c + b ∧ -1 * c + b ≤ -1) : aKm z s e (i + 1) k y 0 := km_n p1 p2 (by omega) (by omega) (Or.inr (Or.inl ⟨rfl, rfl, Or.inr (by rw [dec_tB p6]; omega)⟩))
theorem k_kwm_nl3 {z s e i k a c b y : Int} (p1 : aKm z s e i k a 1) (p2 : pCb 0 i c) (p3 : -65536 ≤ c ∧ c ≤ 31) (p4 : i + -125 ≤ 0) (p5 : -1 * i ≤ 0) (p6 : pDec b z a) (p7 : -4294967296 ≤ c + -1 * b ∧ c + -1 * b ≤ -1) : aKm z s e (i + 1) k y 0 := km_n p1 p2 (by omega) (by omega) (Or.inr (Or.inl ⟨rfl, rfl, Or.inr (by rw [dec_tB p6]; omega)⟩))
theorem k_kwm_nl4 {z s e i k a c b : Int} (p1 : aKm z s e i k a 1) (p2 : pCb 0 i c) (p3 : -65536 ≤ c ∧ c ≤ 31) (p4 : i + -125 ≤ 0) (p5 : -1 * i ≤ 0) (p6 : pDec b z a) (p7 : -1 * c + b ≤ 0) (p8 : c + -1 * b ≤ 0) (p9 : -1 * e + a + 1 ≤ 0) : aKm z s e (i + 1) k (a + 1) 1 := km_n p1 p2 (by omega) (by omega) (Or.inr (Or.inr ⟨rfl, rfl, rfl, by omega, by rw [dec_tB p6]; omega⟩))
theorem k_kwm_ng0 {z s e i k a c y : Int} (p1 : aKm z s e i k a 0) (p2 : pCb 0 i c) (p3 : 33 ≤ c ∧ c ≤ 65536) (p4 : i + -125 ≤ 0) (p5 : -1 * i ≤ 0) : aKm z s e (i + 1) k y 0 := km_n p1 p2 (by omega) (by omega) (Or.inl ⟨rfl, rfl⟩)
theorem k_kwm_ng1 {z s e i k a c y : Int} (p1 : aKm z s e i k a 1) (p2 : pCb 0 i c) (p3 : 33 ≤ c ∧ c ≤ 65536) (p4 : i + -125 ≤ 0) (p5 : -1 * i ≤ 0) (p6 : e + -1 * a ≤ 0) : aKm z s e (i + 1) k y 0 := km_n p1 p2 (by omega) (by omega) (Or.inr (Or.inl ⟨rfl, rfl, Or.inl (by omega)⟩))
theorem k_kwm_ng2 {z s e i k a c b y : Int} (p1 : aKm z s e i k a 1) (p2 : pCb 0 i c) (p3 : 33 ≤ c ∧ c ≤ 65536) (p4 : i + -125 ≤ 0) (p5 : -1 * i ≤ 0) (p6 : pDec b z a) (p7 : -4294967296 ≤ -1 * c + b ∧ -1 * c + b ≤ -1) : aKm z s e (i + 1) k y 0 := km_n p1 p2 (by omega) (by omega) (Or.inr (Or.inl ⟨rfl, rfl, Or.inr (by rw [dec_tB p6]; omega)⟩))
theorem k_kwm_ng3 {z s e i k a c b y : Int} (p1 : aKm z s e i k a 1) (p2 : pCb 0 i c) (p3 : 33 ≤ c ∧ c ≤ 65536) (p4 : i + -125 ≤ 0) (p5 : -1 * i ≤ 0) (p6 : pDec b z a) (p7 : -4294967296 ≤ c + -1 * b ∧ c + -1 * b ≤ -1) : aKm z s e (i + 1) k y 0 := km_n p1 p2 (by omega) (by omega) (Or.inr (Or.inl ⟨rfl, rfl, Or.inr (by rw [dec_tB p6]; omega)⟩))
theorem k_kwm_ng4 {z s e i k a c b : Int} (p1 : aKm z s e i k a 1) (p2 : pCb 0 i c) (p3 : 33 ≤ c ∧ c ≤ 65536) (p4 : i + -125 ≤ 0) (p5 : -1 * i ≤ 0) (p6 : pDec b z a) (p7 : -1 * c + b ≤ 0) (p8 : c + -1 * b ≤ 0) (p9 : -1 * e + a + 1 ≤ 0) : aKm z s e (i + 1) k (a + 1) 1 := km_n p1 p2 (by omega) (by omega) (Or.inr (Or.inr ⟨rfl, rfl, rfl, by omega, by rw [dec_tB p6]; omega⟩))
theorem k_kwm_end {z s e i k a b r : Int} (p1 : aKm z s e i k a b) (p2 : -1 * i + 126 ≤ 0) (p3 : -1 ≤ r ∧ r ≤ -1) : aKw z s e r := km_end p1 (by omega) (by omega)
theorem k_kwm_use {z s e i k a b : Int} (p1 : aKm z s e i k a b) (p2 : -1 * i ≤ 0) (p3 : i + -126 ≤ 0) (p4 : -2147483648 ≤ k ∧ k ≤ 2147483647) : (0 ≤ k) ∧ (k ≤ 24) := by
  have h := p1.2.2.2.2.1
  have := kw_le (i := i.toNat) (by omega)
  omega
theorem k_kwm_use2 {z s e i k a b : Int} (p1 : aKm z s e i k a b) (p2 : -1 * i ≤ 0) (p3 : i + -125 ≤ 0) (p4 : -2147483648 ≤ k ∧ k ≤ 2147483647) : (0 ≤ k) ∧ (k ≤ 23) := by
  have h := p1.2.2.2.2.1
  have := (kw_tab i.toNat (by omega)).1
  omega
theorem k_tc_0 {z n p s M kind kw v w : Int} (p1 : aSk z n p s) (p2 : -1 * s + M ≤ 0) (p3 : -1 * n + M + 1 ≤ 0) (p4 : 0 ≤ kind ∧ kind ≤ 0) (p5 : -1 ≤ kw ∧ kw ≤ -1) (p6 : -1 * p ≤ 0) : pTokC z n M p kind M s kw v w := by
  have ekind : kind = 0 := by omega
  subst ekind
  have ekw : kw = -1 := by omega
  subst ekw
  exact tc_tok (t_0 p1 (by omega) (by omega)) (by omega) (by omega) (by omega)
theorem k_tc_1 {z n p s M kind kw f v w : Int} (p1 : aSk z n p s) (p2 : pInl n M s) (p3 : n + -1 * s ≤ 0) (p4 : 1 ≤ kind ∧ kind ≤ 1) (p5 : -1 ≤ kw ∧ kw ≤ -1) : pTokC z n M p kind s f kw v w := by
  have ekind : kind = 1 := by omega
  subst ekind
  have ekw : kw = -1 := by omega
  subst ekw
  exact tc_tok (t_1 p1 p2 (by omega)) (by omega) (by omega) (by omega)
theorem k_tc_2 {z n p s M e kw w kind v : Int} (p1 : aSk z n p s) (p2 : pInl n M s) (p3 : -1 * n + s + 1 ≤ 0) (p4 : pRn z s) (p5 : aRe z n s e) (p6 : aRk z s e 2) (p7 : aKw z s e kw) (p8 : aWd z s e w) (p9 : 2 ≤ kind ∧ kind ≤ 2) : pTokC z n M p kind s e kw v w := by
  have ekind : kind = 2 := by omega
  subst ekind
  exact tc_tok (t_2 p1 p2 (by omega) p4 p5 p6 p7) (fun _ => rfl) (by omega) (fun _ => wd_F p8 (rk_2 p6))
theorem k_tc_3 {z n p s M e v kind kw w : Int} (p1 : aSk z n p s) (p2 : pInl n M s) (p3 : -1 * n + s + 1 ≤ 0) (p4 : pRn z s) (p5 : aRe z n s e) (p6 : aRk z s e 3) (p7 : aVal z s e v) (p8 : 3 ≤ kind ∧ kind ≤ 3) (p9 : -1 ≤ kw ∧ kw ≤ -1) : pTokC z n M p kind s e kw v w := by
  have ekind : kind = 3 := by omega
  subst ekind
  have ekw : kw = -1 := by omega
  subst ekw
  exact tc_tok (t_3 p1 p2 (by omega) p4 p5 p6) (fun _ => rfl) (fun _ => val_F p7 (rk_3 p6)) (by omega)
theorem k_tc_x {z n p s M e kind kw v w : Int} (p1 : aSk z n p s) (p2 : pInl n M s) (p3 : -1 * n + s + 1 ≤ 0) (p4 : pRn z s) (p5 : aRe z n s e) (p6 : aRk z s e 0) (p7 : 0 ≤ kind ∧ kind ≤ 0) (p8 : -1 ≤ kw ∧ kw ≤ -1) : pTokC z n M p kind s e kw v w := by
  have ekind : kind = 0 := by omega
  subst ekind
  have ekw : kw = -1 := by omega
  subst ekw
  exact tc_tok (t_x p1 p2 (by omega) p4 p5 p6) (by omega) (by omega) (by omega)
theorem k_tc_4 {z n p s M b kind kw w : Int} (p1 : aSk z n p s) (p2 : pInl n M s) (p3 : -1 * n + s + 1 ≤ 0) (p4 : pDec b z s) (p5 : pLet b 0) (p6 : pDig b 0) (p7 : pSig b 1) (p8 : 4 ≤ kind ∧ kind ≤ 4) (p9 : -1 ≤ kw ∧ kw ≤ -1) : pTokC z n M p kind s (s + 1) kw b w := by
  have ekind : kind = 4 := by omega
  subst ekind
  have ekw : kw = -1 := by omega
  subst ekw
  exact tc_tok (t_4 p1 p2 (by omega) p4 p5 p6 p7) (fun _ => rfl) (fun _ => rfl) (by omega)
theorem k_tc_y {z n p s M b kind kw f v w : Int} (p1 : aSk z n p s) (p2 : pInl n M s) (p3 : -1 * n + s + 1 ≤ 0) (p4 : pDec b z s) (p5 : pLet b 0) (p6 : pDig b 0) (p7 : pSig b 0) (p8 : 0 ≤ kind ∧ kind ≤ 0) (p9 : -1 ≤ kw ∧ kw ≤ -1) : pTokC z n M p kind s f kw v w := by
  have ekind : kind = 0 := by omega
  subst ekind
  have ekw : kw = -1 := by omega
  subst ekw
  exact tc_tok (t_y p1 p2 (by omega) p4 p5 p6 p7) (by omega) (by omega) (by omega)
theorem k_tr_0 {z n p s M kind v g w : Int} (p1 : aSk z n p s) (p2 : -1 * s + M ≤ 0) (p3 : -1 * n + M + 1 ≤ 0) (p4 : 1 ≤ kind ∧ kind ≤ 1) (p5 : -1 * p ≤ 0) : pTokR z n M p kind M s v g w := by
  have ekind : kind = 1 := by omega
  subst ekind
  exact tr_0 (t_0 p1 (by omega) (by omega))
theorem k_tr_1 {z n p s M kind f v g w : Int} (p1 : aSk z n p s) (p2 : pInl n M s) (p3 : n + -1 * s ≤ 0) (p4 : 0 ≤ kind ∧ kind ≤ 0) : pTokR z n M p kind s f v g w := by
  have ekind : kind = 0 := by omega
  subst ekind
  exact tr_1 (t_1 p1 p2 (by omega))
theorem k_tr_2 {z n p s M e w kind v g : Int} (p1 : aSk z n p s) (p2 : pInl n M s) (p3 : -1 * n + s + 1 ≤ 0) (p4 : pRn z s) (p5 : aRe z n s e) (p6 : aRk z s e 2) (p7 : aWr z s e w) (p8 : 2 ≤ kind ∧ kind ≤ 2) : pTokR z n M p kind s e v g w := by
  have ekind : kind = 2 := by omega
  subst ekind
  exact tr_2 p1 p2 (by omega) p4 p5 p6 p7
theorem k_tr_3 {z n p s M e v kind g w : Int} (p1 : aSk z n p s) (p2 : pInl n M s) (p3 : -1 * n + s + 1 ≤ 0) (p4 : pRn z s) (p5 : aRe z n s e) (p6 : aRk z s e 3) (p7 : aVal z s e v) (p8 : 3 ≤ kind ∧ kind ≤ 3) : pTokR z n M p kind s e v g w := by
  have ekind : kind = 3 := by omega
  subst ekind
  exact tr_3 p1 p2 (by omega) p4 p5 p6 p7
theorem k_tr_x {z n p s M e kind v g w : Int} (p1 : aSk z n p s) (p2 : pInl n M s) (p3 : -1 * n + s + 1 ≤ 0) (p4 : pRn z s) (p5 : aRe z n s e) (p6 : aRk z s e 0) (p7 : 1 ≤ kind ∧ kind ≤ 1) : pTokR z n M p kind s e v g w := by
  have ekind : kind = 1 := by omega
  subst ekind
  exact tr_0 (t_x p1 p2 (by omega) p4 p5 p6)
theorem k_tr_4 {z n p s M b kind v w : Int} (p1 : aSk z n p s) (p2 : pInl n M s) (p3 : -1 * n + s + 1 ≤ 0) (p4 : pDec b z s) (p5 : pLet b 0) (p6 : pDig b 0) (p7 : pSig b 1) (p8 : 4 ≤ kind ∧ kind ≤ 4) : pTokR z n M p kind s (s + 1) v b w := by
  have ekind : kind = 4 := by omega
  subst ekind
  exact tr_4 (t_4 p1 p2 (by omega) p4 p5 p6 p7)
theorem k_tr_y {z n p s M b kind f v g w : Int} (p1 : aSk z n p s) (p2 : pInl n M s) (p3 : -1 * n + s + 1 ≤ 0) (p4 : pDec b z s) (p5 : pLet b 0) (p6 : pDig b 0) (p7 : pSig b 0) (p8 : 1 ≤ kind ∧ kind ≤ 1) : pTokR z n M p kind s f v g w := by
  have ekind : kind = 1 := by omega
  subst ekind
  exact tr_0 (t_y p1 p2 (by omega) p4 p5 p6 p7)
theorem k_nam_1 {kind kw r : Int} (p1 : 2 ≤ kind ∧ kind ≤ 2) (p2 : -1 ≤ kw ∧ kw ≤ -1) (p3 : 1 ≤ r ∧ r ≤ 1) : pNam kind kw r := by
  unfold pNam iff1
  omega
theorem k_nam_a {kind r kw : Int} (p1 : kind + -1 ≤ 0) (p2 : 0 ≤ r ∧ r ≤ 0) : pNam kind kw r := by
  unfold pNam iff1
  omega
theorem k_nam_b {kind r kw : Int} (p1 : -1 * kind + 3 ≤ 0) (p2 : 0 ≤ r ∧ r ≤ 0) : pNam kind kw r := by
  unfold pNam iff1
  omega
theorem k_nam_c {kw r kind : Int} (p1 : -1 * kw ≤ 0) (p2 : 0 ≤ r ∧ r ≤ 0) : pNam kind kw r := by
  unfold pNam iff1
  omega
theorem k_nam_d {kw r kind : Int} (p1 : kw + 2 ≤ 0) (p2 : 0 ≤ r ∧ r ≤ 0) : pNam kind kw r := by
  unfold pNam iff1
  omega
theorem k_sgn_1 {kind v c r : Int} (p1 : 4 ≤ kind ∧ kind ≤ 4) (p2 : v + -1 * c ≤ 0) (p3 : -1 * v + c ≤ 0) (p4 : 1 ≤ r ∧ r ≤ 1) : pSgn kind v c r := by
  unfold pSgn iff1
  omega
theorem k_sgn_a {kind r v c : Int} (p1 : kind + -3 ≤ 0) (p2 : 0 ≤ r ∧ r ≤ 0) : pSgn kind v c r := by
  unfold pSgn iff1
  omega
theorem k_sgn_d {kind r v c : Int} (p1 : -1 * kind + 5 ≤ 0) (p2 : 0 ≤ r ∧ r ≤ 0) : pSgn kind v c r := by
  unfold pSgn iff1
  omega
theorem k_sgn_b {v c r kind : Int} (p1 : -4294967296 ≤ v + -1 * c ∧ v + -1 * c ≤ -1) (p2 : 0 ≤ r ∧ r ≤ 0) : pSgn kind v c r := by
  unfold pSgn iff1
  omega
theorem k_sgn_c {c v r kind : Int} (p1 : -4294967296 ≤ c + -1 * v ∧ c + -1 * v ≤ -1) (p2 : 0 ≤ r ∧ r ≤ 0) : pSgn kind v c r := by
  unfold pSgn iff1
  omega
theorem k_win_1 {l v h r : Int} (p1 : l + -1 * v ≤ 0) (p2 : v + -1 * h ≤ 0) (p3 : 1 ≤ r ∧ r ≤ 1) : pWin v l h r := by
  unfold pWin iff1
  omega
theorem k_win_a {v l r h : Int} (p1 : v + -1 * l + 1 ≤ 0) (p2 : 0 ≤ r ∧ r ≤ 0) : pWin v l h r := by
  unfold pWin iff1
  omega
theorem k_win_b {h v r l : Int} (p1 : h + -1 * v + 1 ≤ 0) (p2 : 0 ≤ r ∧ r ≤ 0) : pWin v l h r := by
  unfold pWin iff1
  omega
theorem k_nkd_a {kind : Int} (p1 : kind + -2 ≤ 0) : kind ≠ 3 := by omega
theorem k_nkd_b {kind : Int} (p1 : -1 * kind + 4 ≤ 0) : kind ≠ 3 := by omega
theorem k_notf_0 {b z w : Int} (p1 : -1 * b ≤ 0) : pNotf z b 0 w := ⟨by omega, by omega, fun j hj => by omega⟩
theorem k_notf_l {z b i w x : Int} (p1 : pNotf z b i w) (p2 : pDec x z (b + i)) (p3 : -18446744073709551616 ≤ -1 * w + x ∧ -1 * w + x ≤ -1) : pNotf z b (i + 1) w := by
  obtain ⟨h1, h2, h3⟩ := p1
  refine ⟨h1, by omega, fun j hj => ?_⟩
  by_cases e : (j : Int) = i
  · have q := p2.2
    rw [e, q]
    omega
  · exact h3 j (by omega)
theorem k_notf_g {z b i w x : Int} (p1 : pNotf z b i w) (p2 : pDec x z (b + i)) (p3 : -18446744073709551616 ≤ w + -1 * x ∧ w + -1 * x ≤ -1) : pNotf z b (i + 1) w := by
  obtain ⟨h1, h2, h3⟩ := p1
  refine ⟨h1, by omega, fun j hj => ?_⟩
  by_cases e : (j : Int) = i
  · have q := p2.2
    rw [e, q]
    omega
  · exact h3 j (by omega)
theorem k_fnd_1 {z b i w x m : Int} (p1 : pNotf z b i w) (p2 : pDec x z (b + i)) (p3 : -1 * w + x ≤ 0) (p4 : w + -1 * x ≤ 0) (p5 : i + -1 * m + 1 ≤ 0) (p6 : -1 * i ≤ 0) : pFnd z b m w i := by
  obtain ⟨h1, h2, h3⟩ := p1
  have q := p2.2
  refine ⟨h1, by omega, ?_⟩
  have e : ((i.toNat : Nat) : Int) = i := by omega
  rw [fndF_hit (i := i.toNat) (by omega) (by show dcd (b + ((i.toNat : Nat) : Int)).toNat z = w; rw [e, q]; omega) (fun j hj => h3 j (by omega)), e]
theorem k_fnd_0 {z b i w m r : Int} (p1 : pNotf z b i w) (p2 : -1 * i + m ≤ 0) (p3 : -1 * m ≤ 0) (p4 : -1 ≤ r ∧ r ≤ -1) : pFnd z b m w r := by
  obtain ⟨h1, h2, h3⟩ := p1
  refine ⟨h1, by omega, ?_⟩
  rw [fndF_miss (fun j hj => h3 j (by omega))]
  omega
theorem k_knw {x z i w : Int} (p1 : pDec x z i) (p2 : x + -1 * w ≤ 0) (p3 : -1 * x + w ≤ 0) (p4 : -1 * i ≤ 0) (p5 : i + -18 ≤ 0) : pKnw z w := ⟨i, by omega, by omega, by rw [p1.2]; omega⟩
theorem k_bit0_0 {x t k r : Int} (p1 : pOp 5 x t 1) (p2 : 0 ≤ x ∧ x ≤ 0) (p3 : 0 ≤ k ∧ k ≤ 0) (p4 : 0 ≤ t ∧ t ≤ 15) (p5 : 0 ≤ r ∧ r ≤ 0) : pBit t k r := by
  have ek : k = ((0 : Nat) : Int) := by omega
  subst ek
  have q := bit_a (k := 0) p1 (by omega) (by omega) (by decide) (by decide) (by decide) (by decide)
  exact ⟨by omega, by omega, by omega, by omega, by omega⟩
theorem k_bit1_0 {x t k r : Int} (p1 : pOp 5 x t 1) (p2 : 1 ≤ x ∧ x ≤ 15) (p3 : 0 ≤ k ∧ k ≤ 0) (p4 : 0 ≤ t ∧ t ≤ 15) (p5 : 1 ≤ r ∧ r ≤ 1) : pBit t k r := by
  have ek : k = ((0 : Nat) : Int) := by omega
  subst ek
  have q := bit_a (k := 0) p1 (by omega) (by omega) (by decide) (by decide) (by decide) (by decide)
  exact ⟨by omega, by omega, by omega, by omega, by omega⟩
theorem k_setb_0 {y t k : Int} (p1 : pOp 6 y t 1) (p2 : 0 ≤ k ∧ k ≤ 0) (p3 : 0 ≤ t ∧ t ≤ 15) : pSetb y t k := by
  have ek : k = ((0 : Nat) : Int) := by omega
  subst ek
  exact set_a p1 (by omega) (by omega) (by decide) (by decide) (by decide) (by decide)
theorem k_bit0_1 {x t k r : Int} (p1 : pOp 5 x t 2) (p2 : 0 ≤ x ∧ x ≤ 0) (p3 : 1 ≤ k ∧ k ≤ 1) (p4 : 0 ≤ t ∧ t ≤ 15) (p5 : 0 ≤ r ∧ r ≤ 0) : pBit t k r := by
  have ek : k = ((1 : Nat) : Int) := by omega
  subst ek
  have q := bit_a (k := 1) p1 (by omega) (by omega) (by decide) (by decide) (by decide) (by decide)
  exact ⟨by omega, by omega, by omega, by omega, by omega⟩
theorem k_bit1_1 {x t k r : Int} (p1 : pOp 5 x t 2) (p2 : 1 ≤ x ∧ x ≤ 15) (p3 : 1 ≤ k ∧ k ≤ 1) (p4 : 0 ≤ t ∧ t ≤ 15) (p5 : 1 ≤ r ∧ r ≤ 1) : pBit t k r := by
  have ek : k = ((1 : Nat) : Int) := by omega
  subst ek
  have q := bit_a (k := 1) p1 (by omega) (by omega) (by decide) (by decide) (by decide) (by decide)
  exact ⟨by omega, by omega, by omega, by omega, by omega⟩
theorem k_setb_1 {y t k : Int} (p1 : pOp 6 y t 2) (p2 : 1 ≤ k ∧ k ≤ 1) (p3 : 0 ≤ t ∧ t ≤ 15) : pSetb y t k := by
  have ek : k = ((1 : Nat) : Int) := by omega
  subst ek
  exact set_a p1 (by omega) (by omega) (by decide) (by decide) (by decide) (by decide)
theorem k_bit0_2 {x t k r : Int} (p1 : pOp 5 x t 4) (p2 : 0 ≤ x ∧ x ≤ 0) (p3 : 2 ≤ k ∧ k ≤ 2) (p4 : 0 ≤ t ∧ t ≤ 15) (p5 : 0 ≤ r ∧ r ≤ 0) : pBit t k r := by
  have ek : k = ((2 : Nat) : Int) := by omega
  subst ek
  have q := bit_a (k := 2) p1 (by omega) (by omega) (by decide) (by decide) (by decide) (by decide)
  exact ⟨by omega, by omega, by omega, by omega, by omega⟩
theorem k_bit1_2 {x t k r : Int} (p1 : pOp 5 x t 4) (p2 : 1 ≤ x ∧ x ≤ 15) (p3 : 2 ≤ k ∧ k ≤ 2) (p4 : 0 ≤ t ∧ t ≤ 15) (p5 : 1 ≤ r ∧ r ≤ 1) : pBit t k r := by
  have ek : k = ((2 : Nat) : Int) := by omega
  subst ek
  have q := bit_a (k := 2) p1 (by omega) (by omega) (by decide) (by decide) (by decide) (by decide)
  exact ⟨by omega, by omega, by omega, by omega, by omega⟩
theorem k_setb_2 {y t k : Int} (p1 : pOp 6 y t 4) (p2 : 2 ≤ k ∧ k ≤ 2) (p3 : 0 ≤ t ∧ t ≤ 15) : pSetb y t k := by
  have ek : k = ((2 : Nat) : Int) := by omega
  subst ek
  exact set_a p1 (by omega) (by omega) (by decide) (by decide) (by decide) (by decide)
theorem k_bit0_3 {x t k r : Int} (p1 : pOp 5 x t 8) (p2 : 0 ≤ x ∧ x ≤ 0) (p3 : 3 ≤ k ∧ k ≤ 3) (p4 : 0 ≤ t ∧ t ≤ 15) (p5 : 0 ≤ r ∧ r ≤ 0) : pBit t k r := by
  have ek : k = ((3 : Nat) : Int) := by omega
  subst ek
  have q := bit_a (k := 3) p1 (by omega) (by omega) (by decide) (by decide) (by decide) (by decide)
  exact ⟨by omega, by omega, by omega, by omega, by omega⟩
theorem k_bit1_3 {x t k r : Int} (p1 : pOp 5 x t 8) (p2 : 1 ≤ x ∧ x ≤ 15) (p3 : 3 ≤ k ∧ k ≤ 3) (p4 : 0 ≤ t ∧ t ≤ 15) (p5 : 1 ≤ r ∧ r ≤ 1) : pBit t k r := by
  have ek : k = ((3 : Nat) : Int) := by omega
  subst ek
  have q := bit_a (k := 3) p1 (by omega) (by omega) (by decide) (by decide) (by decide) (by decide)
  exact ⟨by omega, by omega, by omega, by omega, by omega⟩
theorem k_setb_3 {y t k : Int} (p1 : pOp 6 y t 8) (p2 : 3 ≤ k ∧ k ≤ 3) (p3 : 0 ≤ t ∧ t ≤ 15) : pSetb y t k := by
  have ek : k = ((3 : Nat) : Int) := by omega
  subst ek
  exact set_a p1 (by omega) (by omega) (by decide) (by decide) (by decide) (by decide)
theorem k_bit_sh {y t k x r : Int} (p1 : pOp 9 y t k) (p2 : pOp 5 x y 1) (p3 : 0 ≤ k ∧ k ≤ 5) (p4 : 0 ≤ t ∧ t ≤ 63) (p5 : -1 * x + r ≤ 0) (p6 : x + -1 * r ≤ 0) : pBit t k r := bit_s p1 p2 (by omega) (by omega) (by omega) (by omega) (by omega)
theorem k_bit_rg {t k r : Int} (p1 : pBit t k r) : (0 ≤ r) ∧ (r ≤ 1) := bit_rg p1
theorem k_setb_sh {m k y t : Int} (p1 : pOp 8 m 1 k) (p2 : pOp 6 y t m) (p3 : 0 ≤ k ∧ k ≤ 5) (p4 : 0 ≤ t ∧ t ≤ 63) : pSetb y t k := set_s p1 p2 (by omega) (by omega) (by omega) (by omega)
theorem k_setb_rg {y t k : Int} (p1 : pSetb y t k) (p2 : 0 ≤ t ∧ t ≤ 63) (p3 : 0 ≤ k ∧ k ≤ 5) (p4 : -2147483648 ≤ y ∧ y ≤ 2147483647) : (0 ≤ y) ∧ (y ≤ 63) := by
  obtain ⟨h0, h1, h2, h3, h4⟩ := p1
  have q := setI_r h0 h1 h2 h3
  rw [← h4] at q
  exact q
theorem k_nslp_0 {b z r : Int} (p1 : -1 * b ≤ 0) : pNslp z b 0 r := ⟨by omega, fun j j0 j1 => by omega⟩
theorem k_nslp_l {z b i r x : Int} (p1 : pNslp z b i r) (p2 : pDec x z (b + i)) (p3 : -4294967296 ≤ -1 * r + x ∧ -1 * r + x ≤ -1) : pNslp z b (i + 1) r := by
  obtain ⟨h1, h2⟩ := p1
  refine ⟨h1, fun j j0 j1 => ?_⟩
  by_cases e : j = i
  · have q := p2.2
    rw [e, q]
    omega
  · exact h2 j j0 (by omega)
theorem k_nslp_g {z b i r x : Int} (p1 : pNslp z b i r) (p2 : pDec x z (b + i)) (p3 : -4294967296 ≤ r + -1 * x ∧ r + -1 * x ≤ -1) : pNslp z b (i + 1) r := by
  obtain ⟨h1, h2⟩ := p1
  refine ⟨h1, fun j j0 j1 => ?_⟩
  by_cases e : j = i
  · have q := p2.2
    rw [e, q]
    omega
  · exact h2 j j0 (by omega)
theorem k_slp_1 {x z b i r m o : Int} (p1 : pDec x z (b + i)) (p2 : x + -1 * r ≤ 0) (p3 : -1 * x + r ≤ 0) (p4 : -1 * i ≤ 0) (p5 : -1 * b ≤ 0) (p6 : i + -1 * m + 1 ≤ 0) (p7 : 1 ≤ o ∧ o ≤ 1) : pSlp z b m r o := Or.inl ⟨by omega, i, by omega, by omega, by rw [p1.2]; omega⟩
theorem k_slp_0 {z b i r m o : Int} (p1 : pNslp z b i r) (p2 : -1 * i + m ≤ 0) (p3 : 0 ≤ o ∧ o ≤ 0) : pSlp z b m r o := Or.inr ⟨by omega, fun ⟨j, j0, j1, j2⟩ => p1.2 j j0 (by omega) j2⟩
theorem k_tape_0 {n c r : Int} (p1 : n ≤ 0) : pTape c r n := fun j j0 j1 => by omega
theorem k_tape_le {c r n m : Int} (p1 : pTape c r n) (p2 : -1 * n + m ≤ 0) : pTape c r m := fun j j0 j1 j2 => p1 j j0 (by omega) j2
theorem k_add_c {z1 z n v0 y0 x z2 v1 y1 z3 v2 y2 z4 v3 y3 : Int} (p1 : pUpd z1 z n v0) (p2 : pI2b v0 y0) (p3 : pOp 10 y0 x 24) (p4 : pUpd z2 z1 (n + 1) v1) (p5 : pI2b v1 y1) (p6 : pOp 10 y1 x 16) (p7 : pUpd z3 z2 (n + 2) v2) (p8 : pI2b v2 y2) (p9 : pOp 10 y2 x 8) (p10 : pUpd z4 z3 (n + 3) v3) (p11 : pI2b v3 y3) (p12 : pOp 10 y3 x 0) (p13 : -1 * n ≤ 0) (p14 : n + -940 ≤ 0) : pAdd sg8 z4 z n x := add_mk p1 p4 p7 p10 (by omega) (by omega) (by have u := ush24 p3; have v := p2; unfold pI2b at v; rw [v]; unfold sg8; omega) (by have u := ush16 p6; have v := p5; unfold pI2b at v; rw [v]; unfold sg8; omega) (by have u := ush8 p9; have v := p8; unfold pI2b at v; rw [v]; unfold sg8; omega) (by have u := ush0 p12; have v := p11; unfold pI2b at v; rw [v]; unfold sg8; omega)
theorem k_add_r {z1 z n v0 y0 x z2 v1 y1 z3 v2 y2 z4 v3 y3 : Int} (p1 : pUpd z1 z n v0) (p2 : pOp 5 v0 y0 255) (p3 : pOp 10 y0 x 24) (p4 : pUpd z2 z1 (n + 1) v1) (p5 : pOp 5 v1 y1 255) (p6 : pOp 10 y1 x 16) (p7 : pUpd z3 z2 (n + 2) v2) (p8 : pOp 5 v2 y2 255) (p9 : pOp 10 y2 x 8) (p10 : pUpd z4 z3 (n + 3) v3) (p11 : pOp 5 v3 y3 255) (p12 : pOp 10 y3 x 0) (p13 : -1 * n ≤ 0) (p14 : n + -940 ≤ 0) : pAdd us8 z4 z n x := add_mk p1 p4 p7 p10 (by omega) (by omega) (by have u := ush24 p3; rw [op_and255 p2]; unfold us8; omega) (by have u := ush16 p6; rw [op_and255 p5]; unfold us8; omega) (by have u := ush8 p9; rw [op_and255 p8]; unfold us8; omega) (by have u := ush0 p12; rw [op_and255 p11]; unfold us8; omega)
theorem k_feed_C {z1 z0 n a z2 b z3 c z4 d z5 e : Int} (p1 : pAdd sg8 z1 z0 n a) (p2 : pAdd sg8 z2 z1 (n + 4) b) (p3 : pAdd sg8 z3 z2 (n + 8) c) (p4 : pAdd sg8 z4 z3 (n + 12) d) (p5 : pAdd sg8 z5 z4 (n + 16) e) (p6 : -1 * n ≤ 0) : pFeed sg8 z5 z0 n a b c d e := feed_mk p1 p2 p3 p4 p5
theorem k_feed_R {z1 z0 n a z2 b z3 c z4 d z5 e : Int} (p1 : pAdd us8 z1 z0 n a) (p2 : pAdd us8 z2 z1 (n + 4) b) (p3 : pAdd us8 z3 z2 (n + 8) c) (p4 : pAdd us8 z4 z3 (n + 12) d) (p5 : pAdd us8 z5 z4 (n + 16) e) (p6 : -1 * n ≤ 0) : pFeed us8 z5 z0 n a b c d e := feed_mk p1 p2 p3 p4 p5
theorem k_tape_f {c r n c2 a b x d e r2 : Int} (p1 : pTape c r n) (p2 : pFeed sg8 c2 c n a b x d e) (p3 : pFeed us8 r2 r n a b x d e) (p4 : -1 * n ≤ 0) : pTape c2 r2 (n + 20) := tape_mk p1 p2 p3
theorem k_noe_0 {kd : Int} (p1 : kd ≤ 0) : kd ≠ 1 := by omega
theorem k_noe_2 {kd : Int} (p1 : -1 * kd + 2 ≤ 0) : kd ≠ 1 := by omega
theorem k_unk_l {u i : Int} (p1 : -4294967296 ≤ u + -1 * i ∧ u + -1 * i ≤ -1) : u ≠ i := by omega
theorem k_unk_g {i u : Int} (p1 : -4294967296 ≤ i + -1 * u ∧ i + -1 * u ≤ -1) : u ≠ i := by omega
theorem k_bitf {x zf u i r : Int} (p1 : pDec x zf u) (p2 : pBit x i r) : pBitf zf u i r := ⟨p1.1, by rw [p1.2]; exact p2⟩
theorem k_dig_eq {b z i a : Int} (p1 : pDec b z i) (p2 : pDec a z i) (p3 : pDig a 1) : pDig b 1 := by
  rw [← p1.2, p2.2]
  exact p3
theorem k_let_eq {b z i a : Int} (p1 : pDec b z i) (p2 : pDec a z i) (p3 : pLet a 1) : pLet b 1 := by
  rw [← p1.2, p2.2]
  exact p3
theorem k_dig_x {b : Int} (p1 : pDig b 1) (p2 : pLet b 1) : False := lt_dg (iff1_t p2 rfl) (iff1_t p1 rfl)
theorem k_letf_1 {b z s t : Int} (p1 : pDec b z s) (p2 : pLet b 1) (p3 : 1 ≤ t ∧ t ≤ 1) : aLf z s t := Or.inl ⟨by omega, by rw [dec_tB p1]; exact iff1_t p2 rfl⟩
theorem k_letf_0 {b z s t : Int} (p1 : pDec b z s) (p2 : pDig b 1) (p3 : 0 ≤ t ∧ t ≤ 0) : aLf z s t := Or.inr ⟨by omega, by rw [dec_tB p1]; exact iff1_t p2 rfl⟩
theorem k_rung_0 {s t g z : Int} (p1 : -1 * s ≤ 0) (p2 : 0 ≤ t ∧ t ≤ 1) (p3 : 1 ≤ g ∧ g ≤ 1) : aRg z s s t g := ⟨by omega, by omega, aAll_0, by omega, by omega, fun _ => ⟨fun _ => aAll_0, fun _ => aAll_0⟩, fun e => by omega⟩
theorem k_rung_l1 {z s i t g b : Int} (p1 : aRg z s i t g) (p2 : 1 ≤ t ∧ t ≤ 1) (p3 : pDec b z i) (p4 : pLet b 1) : aRg z s (i + 1) t g := by
  have hb : bLt (tB z i) := by rw [dec_tB p3]; exact iff1_t p4 rfl
  exact rg_s p1 (Or.inl hb) (Or.inl ⟨Or.inl ⟨by omega, hb⟩, rfl⟩)
theorem k_rung_d0 {z s i t g b : Int} (p1 : aRg z s i t g) (p2 : 0 ≤ t ∧ t ≤ 0) (p3 : pDec b z i) (p4 : pDig b 1) : aRg z s (i + 1) t g := by
  have hb : bDg (tB z i) := by rw [dec_tB p3]; exact iff1_t p4 rfl
  exact rg_s p1 (Or.inr hb) (Or.inl ⟨Or.inr ⟨by omega, hb⟩, rfl⟩)
theorem k_rung_l0 {z s i t g b h : Int} (p1 : aRg z s i t g) (p2 : 0 ≤ t ∧ t ≤ 0) (p3 : pDec b z i) (p4 : pLet b 1) (p5 : 0 ≤ h ∧ h ≤ 0) : aRg z s (i + 1) t h := by
  have hb : bLt (tB z i) := by rw [dec_tB p3]; exact iff1_t p4 rfl
  exact rg_s p1 (Or.inl hb) (Or.inr ⟨Or.inr ⟨by omega, hb⟩, by omega⟩)
theorem k_rung_d1 {z s i t g b h : Int} (p1 : aRg z s i t g) (p2 : 1 ≤ t ∧ t ≤ 1) (p3 : pDec b z i) (p4 : pDig b 1) (p5 : 0 ≤ h ∧ h ≤ 0) : aRg z s (i + 1) t h := by
  have hb : bDg (tB z i) := by rw [dec_tB p3]; exact iff1_t p4 rfl
  exact rg_s p1 (Or.inr hb) (Or.inr ⟨Or.inl ⟨by omega, hb⟩, by omega⟩)
theorem k_rung_e {z s e t g n : Int} (p1 : aRg z s e t g) (p2 : -1 * e + n ≤ 0) (p3 : e + -1 * n ≤ 0) : aRe z n s e := ⟨p1.2.1, by omega, p1.2.2.1, Or.inl (by omega)⟩
theorem k_rung_b {z s e t g a b n : Int} (p1 : aRg z s e t g) (p2 : pDec a z e) (p3 : pLet a 0) (p4 : pDec b z e) (p5 : pDig b 0) (p6 : e + -1 * n + 1 ≤ 0) : aRe z n s e := ⟨p1.2.1, by omega, p1.2.2.1, Or.inr (by
  rw [dec_tB p2]
  intro q
  rcases q with q | q
  · exact iff1_f p3 rfl q
  · rw [← p2.2, p4.2] at q
    exact iff1_f p5 rfl q)⟩
theorem k_runk_g {z s e t g k : Int} (p1 : aRg z s e t g) (p2 : 0 ≤ g ∧ g ≤ 0) (p3 : aLf z s t) (p4 : 0 ≤ k ∧ k ≤ 0) : aRk z s e k := by
  obtain ⟨h1, h2, h3, h4, h5, h6, h7⟩ := p1
  obtain ⟨q1, q2, q3⟩ := h7 (by omega)
  refine Or.inr (Or.inr ⟨by omega, fun q => ?_, fun q => ?_⟩)
  · rcases p3 with ⟨a, b⟩ | ⟨a, b⟩
    · exact q2 a q.1
    · exact lt_dg (q.1 s (by omega) q1) b
  · rcases p3 with ⟨a, b⟩ | ⟨a, b⟩
    · exact lt_dg b (q.1 s (by omega) q1)
    · exact q3 a q.1
theorem k_runk_gw {z s e t g k : Int} (p1 : aRg z s e t g) (p2 : 1 ≤ g ∧ g ≤ 1) (p3 : 1 ≤ t ∧ t ≤ 1) (p4 : -1 * s + e + -7 ≤ 0) (p5 : 2 ≤ k ∧ k ≤ 2) : aRk z s e k := by
  obtain ⟨h1, h2, h3, h4, h5, h6, h7⟩ := p1
  have q := h6 (by omega)
  exact Or.inl ⟨by omega, q.1 (by omega), by omega⟩
theorem k_runk_gn {z s e t g k : Int} (p1 : aRg z s e t g) (p2 : 1 ≤ g ∧ g ≤ 1) (p3 : 0 ≤ t ∧ t ≤ 0) (p4 : -1 * s + e + -3 ≤ 0) (p5 : 3 ≤ k ∧ k ≤ 3) : aRk z s e k := by
  obtain ⟨h1, h2, h3, h4, h5, h6, h7⟩ := p1
  have q := h6 (by omega)
  exact Or.inr (Or.inl ⟨by omega, q.2 (by omega), by omega⟩)
theorem k_runk_gx {z s e t g k : Int} (p1 : aRg z s e t g) (p2 : 1 ≤ g ∧ g ≤ 1) (p3 : 1 ≤ t ∧ t ≤ 1) (p4 : s + -1 * e + 8 ≤ 0) (p5 : 0 ≤ k ∧ k ≤ 0) : aRk z s e k := by
  obtain ⟨h1, h2, h3, h4, h5, h6, h7⟩ := p1
  have q := h6 (by omega)
  exact Or.inr (Or.inr ⟨by omega, fun w => by have := w.2; omega, fun w => lt_dg (q.1 (by omega) s (by omega) (by omega)) (w.1 s (by omega) (by omega))⟩)
theorem k_runk_gy {z s e t g k : Int} (p1 : aRg z s e t g) (p2 : 1 ≤ g ∧ g ≤ 1) (p3 : 0 ≤ t ∧ t ≤ 0) (p4 : s + -1 * e + 4 ≤ 0) (p5 : 0 ≤ k ∧ k ≤ 0) : aRk z s e k := by
  obtain ⟨h1, h2, h3, h4, h5, h6, h7⟩ := p1
  have q := h6 (by omega)
  exact Or.inr (Or.inr ⟨by omega, fun w => lt_dg (w.1 s (by omega) (by omega)) (q.2 (by omega) s (by omega) (by omega)), fun w => by have := w.2; omega⟩)
theorem k_wof_0 {k r : Int} (p1 : 0 ≤ k ∧ k ≤ 0) (p2 : 237227 ≤ r ∧ r ≤ 237227) : pWof k r := by
  have ek : k = 0 := by omega
  subst ek
  exact ⟨by decide, by decide, by show r = 237227; omega⟩
theorem k_wof_1 {k r : Int} (p1 : 1 ≤ k ∧ k ≤ 1) (p2 : 355280 ≤ r ∧ r ≤ 355280) : pWof k r := by
  have ek : k = 1 := by omega
  subst ek
  exact ⟨by decide, by decide, by show r = 355280; omega⟩
theorem k_wof_2 {k r : Int} (p1 : 2 ≤ k ∧ k ≤ 2) (p2 : 262776 ≤ r ∧ r ≤ 262776) : pWof k r := by
  have ek : k = 2 := by omega
  subst ek
  exact ⟨by decide, by decide, by show r = 262776; omega⟩
theorem k_wof_3 {k r : Int} (p1 : 3 ≤ k ∧ k ≤ 3) (p2 : 10502473 ≤ r ∧ r ≤ 10502473) : pWof k r := by
  have ek : k = 3 := by omega
  subst ek
  exact ⟨by decide, by decide, by show r = 10502473; omega⟩
theorem k_wof_4 {k r : Int} (p1 : 4 ≤ k ∧ k ≤ 4) (p2 : 4562600 ≤ r ∧ r ≤ 4562600) : pWof k r := by
  have ek : k = 4 := by omega
  subst ek
  exact ⟨by decide, by decide, by show r = 4562600; omega⟩
theorem k_wof_5 {k r : Int} (p1 : 5 ≤ k ∧ k ≤ 5) (p2 : 365647 ≤ r ∧ r ≤ 365647) : pWof k r := by
  have ek : k = 5 := by omega
  subst ek
  exact ⟨by decide, by decide, by show r = 365647; omega⟩
theorem k_wof_6 {k r : Int} (p1 : 6 ≤ k ∧ k ≤ 6) (p2 : 4137608 ≤ r ∧ r ≤ 4137608) : pWof k r := by
  have ek : k = 6 := by omega
  subst ek
  exact ⟨by decide, by decide, by show r = 4137608; omega⟩
theorem k_wof_7 {k r : Int} (p1 : 7 ≤ k ∧ k ≤ 7) (p2 : 6888374364 ≤ r ∧ r ≤ 6888374364) : pWof k r := by
  have ek : k = 7 := by omega
  subst ek
  exact ⟨by decide, by decide, by show r = 6888374364; omega⟩
theorem k_wof_8 {k r : Int} (p1 : 8 ≤ k ∧ k ≤ 8) (p2 : 279109036 ≤ r ∧ r ≤ 279109036) : pWof k r := by
  have ek : k = 8 := by omega
  subst ek
  exact ⟨by decide, by decide, by show r = 279109036; omega⟩
theorem k_wof_9 {k r : Int} (p1 : 9 ≤ k ∧ k ≤ 9) (p2 : 10656676 ≤ r ∧ r ≤ 10656676) : pWof k r := by
  have ek : k = 9 := by omega
  subst ek
  exact ⟨by decide, by decide, by show r = 10656676; omega⟩
theorem k_wof_10 {k r : Int} (p1 : 10 ≤ k ∧ k ≤ 10) (p2 : 174879964 ≤ r ∧ r ≤ 174879964) : pWof k r := by
  have ek : k = 10 := by omega
  subst ek
  exact ⟨by decide, by decide, by show r = 174879964; omega⟩
theorem k_wof_11 {k r : Int} (p1 : 11 ≤ k ∧ k ≤ 11) (p2 : 12384399 ≤ r ∧ r ≤ 12384399) : pWof k r := by
  have ek : k = 11 := by omega
  subst ek
  exact ⟨by decide, by decide, by show r = 12384399; omega⟩
theorem k_wof_12 {k r : Int} (p1 : 12 ≤ k ∧ k ≤ 12) (p2 : 2968 ≤ r ∧ r ≤ 2968) : pWof k r := by
  have ek : k = 12 := by omega
  subst ek
  exact ⟨by decide, by decide, by show r = 2968; omega⟩
theorem k_wof_13 {k r : Int} (p1 : 13 ≤ k ∧ k ≤ 13) (p2 : 423 ≤ r ∧ r ≤ 423) : pWof k r := by
  have ek : k = 13 := by omega
  subst ek
  exact ⟨by decide, by decide, by show r = 423; omega⟩
theorem k_wof_14 {k r : Int} (p1 : 14 ≤ k ∧ k ≤ 14) (p2 : 1111 ≤ r ∧ r ≤ 1111) : pWof k r := by
  have ek : k = 14 := by omega
  subst ek
  exact ⟨by decide, by decide, by show r = 1111; omega⟩
theorem k_wof_15 {k r : Int} (p1 : 15 ≤ k ∧ k ≤ 15) (p2 : 10631 ≤ r ∧ r ≤ 10631) : pWof k r := by
  have ek : k = 15 := by omega
  subst ek
  exact ⟨by decide, by decide, by show r = 10631; omega⟩
theorem k_wof_16 {k r : Int} (p1 : 16 ≤ k ∧ k ≤ 16) (p2 : 16922 ≤ r ∧ r ≤ 16922) : pWof k r := by
  have ek : k = 16 := by omega
  subst ek
  exact ⟨by decide, by decide, by show r = 16922; omega⟩
theorem k_wof_17 {k r : Int} (p1 : 17 ≤ k ∧ k ≤ 17) (p2 : 8903 ≤ r ∧ r ≤ 8903) : pWof k r := by
  have ek : k = 17 := by omega
  subst ek
  exact ⟨by decide, by decide, by show r = 8903; omega⟩
theorem k_wof_18 {k r : Int} (p1 : 18 ≤ k ∧ k ≤ 18) (p2 : 257 ≤ r ∧ r ≤ 257) : pWof k r := by
  have ek : k = 18 := by omega
  subst ek
  exact ⟨by decide, by decide, by show r = 257; omega⟩
theorem k_wof_19 {k r : Int} (p1 : 19 ≤ k ∧ k ≤ 19) (p2 : 5878 ≤ r ∧ r ≤ 5878) : pWof k r := by
  have ek : k = 19 := by omega
  subst ek
  exact ⟨by decide, by decide, by show r = 5878; omega⟩
theorem k_wof_20 {k r : Int} (p1 : 20 ≤ k ∧ k ≤ 20) (p2 : 129458 ≤ r ∧ r ≤ 129458) : pWof k r := by
  have ek : k = 20 := by omega
  subst ek
  exact ⟨by decide, by decide, by show r = 129458; omega⟩
theorem k_wof_21 {k r : Int} (p1 : 21 ≤ k ∧ k ≤ 21) (p2 : 8863997 ≤ r ∧ r ≤ 8863997) : pWof k r := by
  have ek : k = 21 := by omega
  subst ek
  exact ⟨by decide, by decide, by show r = 8863997; omega⟩
theorem k_wof_22 {k r : Int} (p1 : 22 ≤ k ∧ k ≤ 22) (p2 : 2236391 ≤ r ∧ r ≤ 2236391) : pWof k r := by
  have ek : k = 22 := by omega
  subst ek
  exact ⟨by decide, by decide, by show r = 2236391; omega⟩
theorem k_wof_23 {k r : Int} (p1 : 23 ≤ k ∧ k ≤ 23) (p2 : 212302449 ≤ r ∧ r ≤ 212302449) : pWof k r := by
  have ek : k = 23 := by omega
  subst ek
  exact ⟨by decide, by decide, by show r = 212302449; omega⟩
theorem k_isw_1 {k c kd w r : Int} (p1 : pWof k c) (p2 : 2 ≤ kd ∧ kd ≤ 2) (p3 : -1 * c + w ≤ 0) (p4 : c + -1 * w ≤ 0) (p5 : 1 ≤ r ∧ r ≤ 1) : pIsw kd w k r := by
  obtain ⟨a, b, d⟩ := p1
  exact Or.inl ⟨by omega, by omega, by rw [← d]; omega⟩
theorem k_isw_l {k c w r kd : Int} (p1 : pWof k c) (p2 : -18446744073709551616 ≤ -1 * c + w ∧ -1 * c + w ≤ -1) (p3 : 0 ≤ r ∧ r ≤ 0) : pIsw kd w k r := by
  obtain ⟨a, b, d⟩ := p1
  exact Or.inr ⟨by omega, fun q => by rw [← d] at q; omega⟩
theorem k_isw_g {k c w r kd : Int} (p1 : pWof k c) (p2 : -18446744073709551616 ≤ c + -1 * w ∧ c + -1 * w ≤ -1) (p3 : 0 ≤ r ∧ r ≤ 0) : pIsw kd w k r := by
  obtain ⟨a, b, d⟩ := p1
  exact Or.inr ⟨by omega, fun q => by rw [← d] at q; omega⟩
theorem k_isw_a {kd r w k : Int} (p1 : kd + -1 ≤ 0) (p2 : 0 ≤ r ∧ r ≤ 0) : pIsw kd w k r := Or.inr ⟨by omega, fun q => by omega⟩
theorem k_isw_b {kd r w k : Int} (p1 : -1 * kd + 3 ≤ 0) (p2 : 0 ≤ r ∧ r ≤ 0) : pIsw kd w k r := Or.inr ⟨by omega, fun q => by omega⟩
theorem k_isn_0 {w : Int} : pIsn w 0 := fun j j0 => by omega
theorem k_isn_l {w k c : Int} (p1 : pIsn w k) (p2 : pWof k c) (p3 : -18446744073709551616 ≤ w + -1 * c ∧ w + -1 * c ≤ -1) : pIsn w (k + 1) := by
  obtain ⟨a, b, d⟩ := p2
  intro j j0 j1
  by_cases e : (j : Int) = k
  · have ej : j = k.toNat := by omega
    rw [ej, ← d]
    omega
  · exact p1 j (by omega) j1
theorem k_isn_g {w k c : Int} (p1 : pIsn w k) (p2 : pWof k c) (p3 : -18446744073709551616 ≤ -1 * w + c ∧ -1 * w + c ≤ -1) : pIsn w (k + 1) := by
  obtain ⟨a, b, d⟩ := p2
  intro j j0 j1
  by_cases e : (j : Int) = k
  · have ej : j = k.toNat := by omega
    rw [ej, ← d]
    omega
  · exact p1 j (by omega) j1
theorem k_namr_1 {w k kd r : Int} (p1 : pIsn w k) (p2 : -1 * k + 24 ≤ 0) (p3 : 2 ≤ kd ∧ kd ≤ 2) (p4 : 1 ≤ r ∧ r ≤ 1) : pNamr kd w r := Or.inl ⟨by omega, by omega, fun j hj => p1 j (by omega) hj⟩
theorem k_namr_0 {k c w r kd : Int} (p1 : pWof k c) (p2 : -1 * k ≤ 0) (p3 : k + -23 ≤ 0) (p4 : -1 * c + w ≤ 0) (p5 : c + -1 * w ≤ 0) (p6 : 0 ≤ r ∧ r ≤ 0) : pNamr kd w r := by
  obtain ⟨a, b, d⟩ := p1
  exact Or.inr ⟨by omega, fun q => q.2 k.toNat (by omega) (by rw [← d]; omega)⟩
theorem k_namr_a {kd r w : Int} (p1 : kd + -1 ≤ 0) (p2 : 0 ≤ r ∧ r ≤ 0) : pNamr kd w r := Or.inr ⟨by omega, fun q => by omega⟩
theorem k_namr_b {kd r w : Int} (p1 : -1 * kd + 3 ≤ 0) (p2 : 0 ≤ r ∧ r ≤ 0) : pNamr kd w r := Or.inr ⟨by omega, fun q => by omega⟩
theorem k_ctr_d {h z c : Int} (p1 : pDec h z c) : pCtr z c h := ⟨p1.1, p1.2⟩
theorem k_ctr_u {y c h z j v : Int} (p1 : pCtr y c h) (p2 : pUpd z y j v) (p3 : c + -1 * j + 1 ≤ 0) : pCtr z c h := by
  obtain ⟨u1, u2, u3, rfl⟩ := p2
  exact ⟨p1.1, by rw [dcd_un u3 (by have := p1.1; omega) (by have := p1.1; omega)]; exact p1.2⟩
theorem k_cnt_1 {x z c m r : Int} (p1 : pDec x z c) (p2 : x + -1 * m ≤ 0) (p3 : -1 * x + m ≤ 0) (p4 : 1 ≤ r ∧ r ≤ 1) : pCnt z c m r := ⟨Or.inl ⟨by omega, by rw [p1.2]; omega⟩, p1.1⟩
theorem k_cnt_l {x z c m r : Int} (p1 : pDec x z c) (p2 : -4294967296 ≤ x + -1 * m ∧ x + -1 * m ≤ -1) (p3 : 0 ≤ r ∧ r ≤ 0) : pCnt z c m r := ⟨Or.inr ⟨by omega, by rw [p1.2]; omega⟩, p1.1⟩
theorem k_cnt_g {x z c m r : Int} (p1 : pDec x z c) (p2 : -4294967296 ≤ -1 * x + m ∧ -1 * x + m ≤ -1) (p3 : 0 ≤ r ∧ r ≤ 0) : pCnt z c m r := ⟨Or.inr ⟨by omega, by rw [p1.2]; omega⟩, p1.1⟩
theorem k_cnt_u {z c m h : Int} (p1 : pCnt z c m 0) (p2 : pDec h z c) (p3 : -1 * m + h ≤ 0) (p4 : -1 * h ≤ 0) (p5 : 0 ≤ m ∧ m ≤ 1000) : (-1000000000000 ≤ -1 * m + h + 1) ∧ (-1 * m + h + 1 ≤ 0) := by
  have q := iff1_f p1.1 rfl
  rw [p2.2] at q
  omega
theorem k_ctr_le {z c h x m : Int} (p1 : pCtr z c h) (p2 : pDec x z c) (p3 : h + -1 * m ≤ 0) (p4 : -1 * h ≤ 0) (p5 : 0 ≤ m ∧ m ≤ 1000) : (-1000000000000 ≤ x + -1 * m) ∧ (x + -1 * m ≤ 0) := by
  have q := p1.2
  rw [p2.2] at q
  omega
theorem k_fndr {m zr c zm b w i : Int} (p1 : pDec m zr c) (p2 : pFnd zm b m w i) : pFndr zm zr b c w i := ⟨p1.1, by rw [p1.2]; exact p2⟩
theorem k_knr_0 {m zr zm w i : Int} (p1 : pDec m zr 0) (p2 : pFnd zm 0 m w i) (p3 : -1 * i ≤ 0) : pKnr zm zr w := ⟨i, by omega, Or.inl ⟨by decide, by rw [p1.2]; exact p2⟩⟩
theorem k_knr_1 {m zr zm w i : Int} (p1 : pDec m zr 1) (p2 : pFnd zm 5 m w i) (p3 : -1 * i ≤ 0) : pKnr zm zr w := ⟨i, by omega, Or.inr (Or.inl ⟨by decide, by rw [p1.2]; exact p2⟩)⟩
theorem k_knr_2 {m zr zm w i : Int} (p1 : pDec m zr 2) (p2 : pFnd zm 13 m w i) (p3 : -1 * i ≤ 0) : pKnr zm zr w := ⟨i, by omega, Or.inr (Or.inr ⟨by decide, by rw [p1.2]; exact p2⟩)⟩
theorem k_nkr {zm zr w : Int} (p1 : pFndr zm zr 0 0 w (-1)) (p2 : pFndr zm zr 5 1 w (-1)) (p3 : pFndr zm zr 13 2 w (-1)) : pNkr zm zr w := ⟨p1, p2, p3⟩
theorem k_prt {z n q p k zr zm o0 o1 o2 o3 u kd fr to nu sg w : Int} (p1 : pPR z n q p k zr zm o0 o1 o2 o3 u) (p2 : pTokR z n 900 p kd fr to nu sg w) : pPRT z n q k zr zm o0 o1 o2 o3 u kd fr to nu sg w := ⟨p, p1, p2⟩
theorem k_noer {kd : Int} (p1 : -1 * kd + 1 ≤ 0) : 1 ≤ kd := by omega
theorem k_ans_eq {c n a f r b g : Int} (p1 : pAns c n a f) (p2 : pAns r n b g) (p3 : pTape c r n) (p4 : n + -940 ≤ 0) : (0 ≤ a + -1 * b) ∧ (a + -1 * b ≤ 0) ∧ (0 ≤ -1 * a + b) ∧ (-1 * a + b ≤ 0) ∧ (0 ≤ f + -1 * g) ∧ (f + -1 * g ≤ 0) := by
  have e := ans_u (ans_t (tape_eq p3 (by omega)) p1) p2
  omega
end
