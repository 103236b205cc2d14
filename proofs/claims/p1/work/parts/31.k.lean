/-! contracts -/
def k_140 : eK := (109, ([], [.inr (.inr (some 0)), .inl ([], 15), .inl ([], 1)], [(0, z_6)], 12), [([], some (.inl ([], 1)), [(0, z_6)], 12)], 0, 0, 1)
def ak_140 : List eAn := [(0, [], [])]
theorem K_140 {l : Launch} {D : va_G} {ca : Nat → ClassId} : KMet l D ca k_140 := K_gq (KS := []) (ini := false) (n := 9) (an := ak_140) h_109 rfl (by decide +kernel) KS_nil (by decide +kernel)
def k_141 : eK := (110, ([], [.inr (.inr (some 0)), .inl ([], 5), .inl ([], 15), .inl ([], 1)], [(0, z_6)], 12), [([], some (.inl ([], 14)), [(0, z_6)], 12)], 0, 0, 1)
def ak_141 : List eAn := [(0, [], [])]
theorem K_141 {l : Launch} {D : va_G} {ca : Nat → ClassId} : KMet l D ca k_141 := K_gq (KS := []) (ini := false) (n := 22) (an := ak_141) h_110 rfl (by decide +kernel) KS_nil (by decide +kernel)
def z_159 : eSC := .inl (5, [.inr (.inr (some 1)), .inl ([], 6), .inl ([], 14), .inl ([], 1), .inl ([], 6), .inr (.inr (some 2)), .inr (.inr (some 3)), .inr (.inr (some 4)), .inr (.inr (some 5)), .inr (.inr (some 6)), .inl ([], 0)])
def k_142 : eK := (108, ([], [.inr (.inr (some 0))], [(0, z_158), (1, z_13)], 18), [([], none, [(0, z_159), (1, z_13)], 18)], 0, 0, 2)
def ak_142 : List eAn := [(0, [], [1, 7, 8, 9, 10, 11, 12, 13, 14, 15, 16, 17]), (1, [], [1, 7, 8, 9, 10, 11, 12, 13, 14, 15, 16, 17]), (0, [], [])]
theorem K_142 {l : Launch} {D : va_G} {ca : Nat → ClassId} : KMet l D ca k_142 := K_gq (KS := [k_140, k_141]) (ini := false) (n := 39) (an := ak_142) h_108 rfl (by decide +kernel) (KS_cons K_140 (KS_cons K_141 KS_nil)) (by decide +kernel)
def k_143 : eK := (109, ([], [.inr (.inr (some 0)), .inl ([], 14), .inl ([], 1)], [(0, z_6)], 12), [([], some (.inl ([], 0)), [(0, z_6)], 12)], 0, 0, 1)
def ak_143 : List eAn := [(0, [], [])]
theorem K_143 {l : Launch} {D : va_G} {ca : Nat → ClassId} : KMet l D ca k_143 := K_gq (KS := []) (ini := false) (n := 8) (an := ak_143) h_109 rfl (by decide +kernel) KS_nil (by decide +kernel)
def k_144 : eK := (110, ([], [.inr (.inr (some 0)), .inl ([], 6), .inl ([], 14), .inl ([], 1)], [(0, z_6)], 12), [([], some (.inl ([], 16)), [(0, z_6)], 12)], 0, 0, 1)
def ak_144 : List eAn := [(0, [], [])]
theorem K_144 {l : Launch} {D : va_G} {ca : Nat → ClassId} : KMet l D ca k_144 := K_gq (KS := []) (ini := false) (n := 27) (an := ak_144) h_110 rfl (by decide +kernel) KS_nil (by decide +kernel)
def z_160 : eSC := .inl (5, [.inr (.inr (some 1)), .inl ([], 7), .inl ([], 16), .inl ([], 1), .inl ([], 6), .inr (.inr (some 2)), .inr (.inr (some 3)), .inr (.inr (some 4)), .inr (.inr (some 5)), .inr (.inr (some 6)), .inl ([], 0)])
def k_145 : eK := (108, ([], [.inr (.inr (some 0))], [(0, z_159), (1, z_13)], 18), [([], none, [(0, z_160), (1, z_13)], 18)], 0, 0, 2)
def ak_145 : List eAn := [(0, [], [1, 7, 8, 9, 10, 11, 12, 13, 14, 15, 16, 17]), (1, [], [1, 7, 8, 9, 10, 11, 12, 13, 14, 15, 16, 17]), (0, [], [])]
theorem K_145 {l : Launch} {D : va_G} {ca : Nat → ClassId} : KMet l D ca k_145 := K_gq (KS := [k_143, k_144]) (ini := false) (n := 39) (an := ak_145) h_108 rfl (by decide +kernel) (KS_cons K_143 (KS_cons K_144 KS_nil)) (by decide +kernel)
def k_146 : eK := (110, ([], [.inr (.inr (some 0)), .inl ([], 7), .inl ([], 16), .inl ([], 1)], [(0, z_6)], 12), [([], some (.inl ([], 15)), [(0, z_6)], 12)], 0, 0, 1)
def ak_146 : List eAn := [(0, [], [])]
theorem K_146 {l : Launch} {D : va_G} {ca : Nat → ClassId} : KMet l D ca k_146 := K_gq (KS := []) (ini := false) (n := 22) (an := ak_146) h_110 rfl (by decide +kernel) KS_nil (by decide +kernel)
def z_161 : eSC := .inl (5, [.inr (.inr (some 1)), .inl ([], 8), .inl ([], 15), .inl ([], 1), .inl ([], 7), .inr (.inr (some 2)), .inr (.inr (some 3)), .inr (.inr (some 4)), .inr (.inr (some 5)), .inr (.inr (some 6)), .inl ([], 0)])
def k_147 : eK := (108, ([], [.inr (.inr (some 0))], [(0, z_160), (1, z_13)], 18), [([], none, [(0, z_161), (1, z_13)], 18)], 0, 0, 2)
def ak_147 : List eAn := [(0, [], [1, 7, 8, 9, 10, 11, 12, 13, 14, 15, 16, 17]), (1, [], [1, 7, 8, 9, 10, 11, 12, 13, 14, 15, 16, 17]), (0, [], [])]
theorem K_147 {l : Launch} {D : va_G} {ca : Nat → ClassId} : KMet l D ca k_147 := K_gq (KS := [k_137, k_146]) (ini := false) (n := 39) (an := ak_147) h_108 rfl (by decide +kernel) (KS_cons K_137 (KS_cons K_146 KS_nil)) (by decide +kernel)
def k_148 : eK := (110, ([], [.inr (.inr (some 0)), .inl ([], 8), .inl ([], 15), .inl ([], 1)], [(0, z_6)], 12), [([], some (.inl ([], 14)), [(0, z_6)], 12)], 0, 0, 1)
def ak_148 : List eAn := [(0, [], [])]
theorem K_148 {l : Launch} {D : va_G} {ca : Nat → ClassId} : KMet l D ca k_148 := K_gq (KS := []) (ini := false) (n := 22) (an := ak_148) h_110 rfl (by decide +kernel) KS_nil (by decide +kernel)
def z_162 : eSC := .inl (5, [.inr (.inr (some 1)), .inl ([], 9), .inl ([], 14), .inl ([], 1), .inl ([], 8), .inr (.inr (some 2)), .inr (.inr (some 3)), .inr (.inr (some 4)), .inr (.inr (some 5)), .inr (.inr (some 6)), .inl ([], 0)])
def k_149 : eK := (108, ([], [.inr (.inr (some 0))], [(0, z_161), (1, z_13)], 18), [([], none, [(0, z_162), (1, z_13)], 18)], 0, 0, 2)
def ak_149 : List eAn := [(0, [], [1, 7, 8, 9, 10, 11, 12, 13, 14, 15, 16, 17]), (1, [], [1, 7, 8, 9, 10, 11, 12, 13, 14, 15, 16, 17]), (0, [], [])]
theorem K_149 {l : Launch} {D : va_G} {ca : Nat → ClassId} : KMet l D ca k_149 := K_gq (KS := [k_140, k_148]) (ini := false) (n := 39) (an := ak_149) h_108 rfl (by decide +kernel) (KS_cons K_140 (KS_cons K_148 KS_nil)) (by decide +kernel)
def k_150 : eK := (110, ([], [.inr (.inr (some 0)), .inl ([], 9), .inl ([], 14), .inl ([], 1)], [(0, z_6)], 12), [([], some (.inl ([], 13)), [(0, z_6)], 12)], 0, 0, 1)
def ak_150 : List eAn := [(0, [], [])]
theorem K_150 {l : Launch} {D : va_G} {ca : Nat → ClassId} : KMet l D ca k_150 := K_gq (KS := []) (ini := false) (n := 22) (an := ak_150) h_110 rfl (by decide +kernel) KS_nil (by decide +kernel)
def z_163 : eSC := .inl (5, [.inr (.inr (some 1)), .inl ([], 10), .inl ([], 13), .inl ([], 1), .inl ([], 8), .inr (.inr (some 2)), .inr (.inr (some 3)), .inr (.inr (some 4)), .inr (.inr (some 5)), .inr (.inr (some 6)), .inl ([], 0)])
def k_151 : eK := (108, ([], [.inr (.inr (some 0))], [(0, z_162), (1, z_13)], 18), [([], none, [(0, z_163), (1, z_13)], 18)], 0, 0, 2)
def ak_151 : List eAn := [(0, [], [1, 7, 8, 9, 10, 11, 12, 13, 14, 15, 16, 17]), (1, [], [1, 7, 8, 9, 10, 11, 12, 13, 14, 15, 16, 17]), (0, [], [])]
theorem K_151 {l : Launch} {D : va_G} {ca : Nat → ClassId} : KMet l D ca k_151 := K_gq (KS := [k_143, k_150]) (ini := false) (n := 39) (an := ak_151) h_108 rfl (by decide +kernel) (KS_cons K_143 (KS_cons K_150 KS_nil)) (by decide +kernel)
def k_152 : eK := (109, ([], [.inr (.inr (some 0)), .inl ([], 13), .inl ([], 1)], [(0, z_6)], 12), [([], some (.inl ([], 0)), [(0, z_6)], 12)], 0, 0, 1)
def ak_152 : List eAn := [(0, [], [])]
theorem K_152 {l : Launch} {D : va_G} {ca : Nat → ClassId} : KMet l D ca k_152 := K_gq (KS := []) (ini := false) (n := 8) (an := ak_152) h_109 rfl (by decide +kernel) KS_nil (by decide +kernel)
def k_153 : eK := (110, ([], [.inr (.inr (some 0)), .inl ([], 10), .inl ([], 13), .inl ([], 1)], [(0, z_6)], 12), [([], some (.inl ([], 12)), [(0, z_6)], 12)], 0, 0, 1)
def ak_153 : List eAn := [(0, [], [])]
theorem K_153 {l : Launch} {D : va_G} {ca : Nat → ClassId} : KMet l D ca k_153 := K_gq (KS := []) (ini := false) (n := 22) (an := ak_153) h_110 rfl (by decide +kernel) KS_nil (by decide +kernel)
def z_164 : eSC := .inl (5, [.inr (.inr (some 1)), .inl ([], 11), .inl ([], 12), .inl ([], 1), .inl ([], 8), .inr (.inr (some 2)), .inr (.inr (some 3)), .inr (.inr (some 4)), .inr (.inr (some 5)), .inr (.inr (some 6)), .inl ([], 0)])
def k_154 : eK := (108, ([], [.inr (.inr (some 0))], [(0, z_163), (1, z_13)], 18), [([], none, [(0, z_164), (1, z_13)], 18)], 0, 0, 2)
def ak_154 : List eAn := [(0, [], [1, 7, 8, 9, 10, 11, 12, 13, 14, 15, 16, 17]), (1, [], [1, 7, 8, 9, 10, 11, 12, 13, 14, 15, 16, 17]), (0, [], [])]
theorem K_154 {l : Launch} {D : va_G} {ca : Nat → ClassId} : KMet l D ca k_154 := K_gq (KS := [k_152, k_153]) (ini := false) (n := 39) (an := ak_154) h_108 rfl (by decide +kernel) (KS_cons K_152 (KS_cons K_153 KS_nil)) (by decide +kernel)
def k_155 : eK := (109, ([], [.inr (.inr (some 0)), .inl ([], 12), .inl ([], 1)], [(0, z_6)], 12), [([], some (.inl ([], 0)), [(0, z_6)], 12)], 0, 0, 1)
def ak_155 : List eAn := [(0, [], [])]
theorem K_155 {l : Launch} {D : va_G} {ca : Nat → ClassId} : KMet l D ca k_155 := K_gq (KS := []) (ini := false) (n := 8) (an := ak_155) h_109 rfl (by decide +kernel) KS_nil (by decide +kernel)
def k_156 : eK := (110, ([], [.inr (.inr (some 0)), .inl ([], 11), .inl ([], 12), .inl ([], 1)], [(0, z_6)], 12), [([], some (.inl ([], 11)), [(0, z_6)], 12)], 0, 0, 1)
def ak_156 : List eAn := [(0, [], [])]
theorem K_156 {l : Launch} {D : va_G} {ca : Nat → ClassId} : KMet l D ca k_156 := K_gq (KS := []) (ini := false) (n := 22) (an := ak_156) h_110 rfl (by decide +kernel) KS_nil (by decide +kernel)
def z_165 : eSC := .inl (5, [.inr (.inr (some 1)), .inl ([], 12), .inl ([], 11), .inl ([], 1), .inl ([], 8), .inr (.inr (some 2)), .inr (.inr (some 3)), .inr (.inr (some 4)), .inr (.inr (some 5)), .inr (.inr (some 6)), .inl ([], 0)])
def k_157 : eK := (108, ([], [.inr (.inr (some 0))], [(0, z_164), (1, z_13)], 18), [([], none, [(0, z_165), (1, z_13)], 18)], 0, 0, 2)
def ak_157 : List eAn := [(0, [], [1, 7, 8, 9, 10, 11, 12, 13, 14, 15, 16, 17]), (1, [], [1, 7, 8, 9, 10, 11, 12, 13, 14, 15, 16, 17]), (0, [], [])]
theorem K_157 {l : Launch} {D : va_G} {ca : Nat → ClassId} : KMet l D ca k_157 := K_gq (KS := [k_155, k_156]) (ini := false) (n := 39) (an := ak_157) h_108 rfl (by decide +kernel) (KS_cons K_155 (KS_cons K_156 KS_nil)) (by decide +kernel)
def k_158 : eK := (109, ([], [.inr (.inr (some 0)), .inl ([], 11), .inl ([], 1)], [(0, z_6)], 12), [([], some (.inl ([], 0)), [(0, z_6)], 12)], 0, 0, 1)
def ak_158 : List eAn := [(0, [], [])]
theorem K_158 {l : Launch} {D : va_G} {ca : Nat → ClassId} : KMet l D ca k_158 := K_gq (KS := []) (ini := false) (n := 8) (an := ak_158) h_109 rfl (by decide +kernel) KS_nil (by decide +kernel)
def k_159 : eK := (110, ([], [.inr (.inr (some 0)), .inl ([], 12), .inl ([], 11), .inl ([], 1)], [(0, z_6)], 12), [([], some (.inl ([], 10)), [(0, z_6)], 12)], 0, 0, 1)
def ak_159 : List eAn := [(0, [], [])]
theorem K_159 {l : Launch} {D : va_G} {ca : Nat → ClassId} : KMet l D ca k_159 := K_gq (KS := []) (ini := false) (n := 22) (an := ak_159) h_110 rfl (by decide +kernel) KS_nil (by decide +kernel)
def z_166 : eSC := .inl (5, [.inr (.inr (some 1)), .inl ([], 13), .inl ([], 10), .inl ([], 1), .inl ([], 8), .inr (.inr (some 2)), .inr (.inr (some 3)), .inr (.inr (some 4)), .inr (.inr (some 5)), .inr (.inr (some 6)), .inl ([], 0)])
def k_160 : eK := (108, ([], [.inr (.inr (some 0))], [(0, z_165), (1, z_13)], 18), [([], none, [(0, z_166), (1, z_13)], 18)], 0, 0, 2)
def ak_160 : List eAn := [(0, [], [1, 7, 8, 9, 10, 11, 12, 13, 14, 15, 16, 17]), (1, [], [1, 7, 8, 9, 10, 11, 12, 13, 14, 15, 16, 17]), (0, [], [])]
theorem K_160 {l : Launch} {D : va_G} {ca : Nat → ClassId} : KMet l D ca k_160 := K_gq (KS := [k_158, k_159]) (ini := false) (n := 39) (an := ak_160) h_108 rfl (by decide +kernel) (KS_cons K_158 (KS_cons K_159 KS_nil)) (by decide +kernel)
def k_161 : eK := (109, ([], [.inr (.inr (some 0)), .inl ([], 10), .inl ([], 1)], [(0, z_6)], 12), [([], some (.inl ([], 0)), [(0, z_6)], 12)], 0, 0, 1)
def ak_161 : List eAn := [(0, [], [])]
theorem K_161 {l : Launch} {D : va_G} {ca : Nat → ClassId} : KMet l D ca k_161 := K_gq (KS := []) (ini := false) (n := 8) (an := ak_161) h_109 rfl (by decide +kernel) KS_nil (by decide +kernel)
def k_162 : eK := (110, ([], [.inr (.inr (some 0)), .inl ([], 13), .inl ([], 10), .inl ([], 1)], [(0, z_6)], 12), [([], some (.inl ([], 12)), [(0, z_6)], 12)], 0, 0, 1)
def ak_162 : List eAn := [(0, [], [])]
theorem K_162 {l : Launch} {D : va_G} {ca : Nat → ClassId} : KMet l D ca k_162 := K_gq (KS := []) (ini := false) (n := 27) (an := ak_162) h_110 rfl (by decide +kernel) KS_nil (by decide +kernel)
def z_167 : eSC := .inl (5, [.inr (.inr (some 1)), .inl ([], 14), .inl ([], 12), .inl ([], 1), .inl ([], 8), .inr (.inr (some 2)), .inr (.inr (some 3)), .inr (.inr (some 4)), .inr (.inr (some 5)), .inr (.inr (some 6)), .inl ([], 0)])
def k_163 : eK := (108, ([], [.inr (.inr (some 0))], [(0, z_166), (1, z_13)], 18), [([], none, [(0, z_167), (1, z_13)], 18)], 0, 0, 2)
def ak_163 : List eAn := [(0, [], [1, 7, 8, 9, 10, 11, 12, 13, 14, 15, 16, 17]), (1, [], [1, 7, 8, 9, 10, 11, 12, 13, 14, 15, 16, 17]), (0, [], [])]
theorem K_163 {l : Launch} {D : va_G} {ca : Nat → ClassId} : KMet l D ca k_163 := K_gq (KS := [k_161, k_162]) (ini := false) (n := 39) (an := ak_163) h_108 rfl (by decide +kernel) (KS_cons K_161 (KS_cons K_162 KS_nil)) (by decide +kernel)
def k_164 : eK := (110, ([], [.inr (.inr (some 0)), .inl ([], 14), .inl ([], 12), .inl ([], 1)], [(0, z_6)], 12), [([], some (.inl ([], 11)), [(0, z_6)], 12)], 0, 0, 1)
def ak_164 : List eAn := [(0, [], [])]
theorem K_164 {l : Launch} {D : va_G} {ca : Nat → ClassId} : KMet l D ca k_164 := K_gq (KS := []) (ini := false) (n := 22) (an := ak_164) h_110 rfl (by decide +kernel) KS_nil (by decide +kernel)
def z_168 : eSC := .inl (5, [.inr (.inr (some 1)), .inl ([], 15), .inl ([], 11), .inl ([], 1), .inl ([], 8), .inr (.inr (some 2)), .inr (.inr (some 3)), .inr (.inr (some 4)), .inr (.inr (some 5)), .inr (.inr (some 6)), .inl ([], 0)])
def k_165 : eK := (108, ([], [.inr (.inr (some 0))], [(0, z_167), (1, z_13)], 18), [([], none, [(0, z_168), (1, z_13)], 18)], 0, 0, 2)
def ak_165 : List eAn := [(0, [], [1, 7, 8, 9, 10, 11, 12, 13, 14, 15, 16, 17]), (1, [], [1, 7, 8, 9, 10, 11, 12, 13, 14, 15, 16, 17]), (0, [], [])]
theorem K_165 {l : Launch} {D : va_G} {ca : Nat → ClassId} : KMet l D ca k_165 := K_gq (KS := [k_155, k_164]) (ini := false) (n := 39) (an := ak_165) h_108 rfl (by decide +kernel) (KS_cons K_155 (KS_cons K_164 KS_nil)) (by decide +kernel)
def k_166 : eK := (110, ([], [.inr (.inr (some 0)), .inl ([], 15), .inl ([], 11), .inl ([], 1)], [(0, z_6)], 12), [([], some (.inl ([], 10)), [(0, z_6)], 12)], 0, 0, 1)
def ak_166 : List eAn := [(0, [], [])]
theorem K_166 {l : Launch} {D : va_G} {ca : Nat → ClassId} : KMet l D ca k_166 := K_gq (KS := []) (ini := false) (n := 22) (an := ak_166) h_110 rfl (by decide +kernel) KS_nil (by decide +kernel)
def z_169 : eSC := .inl (5, [.inr (.inr (some 1)), .inl ([], 16), .inl ([], 10), .inl ([], 1), .inl ([], 8), .inr (.inr (some 2)), .inr (.inr (some 3)), .inr (.inr (some 4)), .inr (.inr (some 5)), .inr (.inr (some 6)), .inl ([], 0)])
def k_167 : eK := (108, ([], [.inr (.inr (some 0))], [(0, z_168), (1, z_13)], 18), [([], none, [(0, z_169), (1, z_13)], 18)], 0, 0, 2)
def ak_167 : List eAn := [(0, [], [1, 7, 8, 9, 10, 11, 12, 13, 14, 15, 16, 17]), (1, [], [1, 7, 8, 9, 10, 11, 12, 13, 14, 15, 16, 17]), (0, [], [])]
theorem K_167 {l : Launch} {D : va_G} {ca : Nat → ClassId} : KMet l D ca k_167 := K_gq (KS := [k_158, k_166]) (ini := false) (n := 39) (an := ak_167) h_108 rfl (by decide +kernel) (KS_cons K_158 (KS_cons K_166 KS_nil)) (by decide +kernel)
def k_168 : eK := (110, ([], [.inr (.inr (some 0)), .inl ([], 16), .inl ([], 10), .inl ([], 1)], [(0, z_6)], 12), [([], some (.inl ([], 9)), [(0, z_6)], 12)], 0, 0, 1)
def ak_168 : List eAn := [(0, [], [])]
theorem K_168 {l : Launch} {D : va_G} {ca : Nat → ClassId} : KMet l D ca k_168 := K_gq (KS := []) (ini := false) (n := 22) (an := ak_168) h_110 rfl (by decide +kernel) KS_nil (by decide +kernel)
def z_170 : eSC := .inl (5, [.inr (.inr (some 1)), .inl ([], 17), .inl ([], 9), .inl ([], 1), .inl ([], 8), .inr (.inr (some 2)), .inr (.inr (some 3)), .inr (.inr (some 4)), .inr (.inr (some 5)), .inr (.inr (some 6)), .inl ([], 0)])
def k_169 : eK := (108, ([], [.inr (.inr (some 0))], [(0, z_169), (1, z_13)], 18), [([], none, [(0, z_170), (1, z_13)], 18)], 0, 0, 2)
def ak_169 : List eAn := [(0, [], [1, 7, 8, 9, 10, 11, 12, 13, 14, 15, 16, 17]), (1, [], [1, 7, 8, 9, 10, 11, 12, 13, 14, 15, 16, 17]), (0, [], [])]
theorem K_169 {l : Launch} {D : va_G} {ca : Nat → ClassId} : KMet l D ca k_169 := K_gq (KS := [k_161, k_168]) (ini := false) (n := 39) (an := ak_169) h_108 rfl (by decide +kernel) (KS_cons K_161 (KS_cons K_168 KS_nil)) (by decide +kernel)
def k_170 : eK := (109, ([], [.inr (.inr (some 0)), .inl ([], 9), .inl ([], 1)], [(0, z_6)], 12), [([], some (.inl ([], 0)), [(0, z_6)], 12)], 0, 0, 1)
def ak_170 : List eAn := [(0, [], [])]
theorem K_170 {l : Launch} {D : va_G} {ca : Nat → ClassId} : KMet l D ca k_170 := K_gq (KS := []) (ini := false) (n := 8) (an := ak_170) h_109 rfl (by decide +kernel) KS_nil (by decide +kernel)
def k_171 : eK := (110, ([], [.inr (.inr (some 0)), .inl ([], 17), .inl ([], 9), .inl ([], 1)], [(0, z_6)], 12), [([], some (.inl ([], 8)), [(0, z_6)], 12)], 0, 0, 1)
def ak_171 : List eAn := [(0, [], [])]
theorem K_171 {l : Launch} {D : va_G} {ca : Nat → ClassId} : KMet l D ca k_171 := K_gq (KS := []) (ini := false) (n := 22) (an := ak_171) h_110 rfl (by decide +kernel) KS_nil (by decide +kernel)
def z_171 : eSC := .inl (5, [.inr (.inr (some 1)), .inl ([], 18), .inl ([], 8), .inl ([], 1), .inl ([], 8), .inr (.inr (some 2)), .inr (.inr (some 3)), .inr (.inr (some 4)), .inr (.inr (some 5)), .inr (.inr (some 6)), .inl ([], 0)])
def k_172 : eK := (108, ([], [.inr (.inr (some 0))], [(0, z_170), (1, z_13)], 18), [([], none, [(0, z_171), (1, z_13)], 18)], 0, 0, 2)
def ak_172 : List eAn := [(0, [], [1, 7, 8, 9, 10, 11, 12, 13, 14, 15, 16, 17]), (1, [], [1, 7, 8, 9, 10, 11, 12, 13, 14, 15, 16, 17]), (0, [], [])]
theorem K_172 {l : Launch} {D : va_G} {ca : Nat → ClassId} : KMet l D ca k_172 := K_gq (KS := [k_170, k_171]) (ini := false) (n := 39) (an := ak_172) h_108 rfl (by decide +kernel) (KS_cons K_170 (KS_cons K_171 KS_nil)) (by decide +kernel)
def k_173 : eK := (109, ([], [.inr (.inr (some 0)), .inl ([], 8), .inl ([], 1)], [(0, z_6)], 12), [([], some (.inl ([], 0)), [(0, z_6)], 12)], 0, 0, 1)
def ak_173 : List eAn := [(0, [], [])]
theorem K_173 {l : Launch} {D : va_G} {ca : Nat → ClassId} : KMet l D ca k_173 := K_gq (KS := []) (ini := false) (n := 8) (an := ak_173) h_109 rfl (by decide +kernel) KS_nil (by decide +kernel)
def k_174 : eK := (110, ([], [.inr (.inr (some 0)), .inl ([], 18), .inl ([], 8), .inl ([], 1)], [(0, z_6)], 12), [([], some (.inl ([], 7)), [(0, z_6)], 12)], 0, 0, 1)
def ak_174 : List eAn := [(0, [], [])]
theorem K_174 {l : Launch} {D : va_G} {ca : Nat → ClassId} : KMet l D ca k_174 := K_gq (KS := []) (ini := false) (n := 22) (an := ak_174) h_110 rfl (by decide +kernel) KS_nil (by decide +kernel)
def z_172 : eSC := .inl (5, [.inr (.inr (some 1)), .inl ([], 19), .inl ([], 7), .inl ([], 1), .inl ([], 8), .inr (.inr (some 2)), .inr (.inr (some 3)), .inr (.inr (some 4)), .inr (.inr (some 5)), .inr (.inr (some 6)), .inl ([], 0)])
def k_175 : eK := (108, ([], [.inr (.inr (some 0))], [(0, z_171), (1, z_13)], 18), [([], none, [(0, z_172), (1, z_13)], 18)], 0, 0, 2)
def ak_175 : List eAn := [(0, [], [1, 7, 8, 9, 10, 11, 12, 13, 14, 15, 16, 17]), (1, [], [1, 7, 8, 9, 10, 11, 12, 13, 14, 15, 16, 17]), (0, [], [])]
theorem K_175 {l : Launch} {D : va_G} {ca : Nat → ClassId} : KMet l D ca k_175 := K_gq (KS := [k_173, k_174]) (ini := false) (n := 39) (an := ak_175) h_108 rfl (by decide +kernel) (KS_cons K_173 (KS_cons K_174 KS_nil)) (by decide +kernel)
def k_176 : eK := (109, ([], [.inr (.inr (some 0)), .inl ([], 7), .inl ([], 1)], [(0, z_6)], 12), [([], some (.inl ([], 0)), [(0, z_6)], 12)], 0, 0, 1)
def ak_176 : List eAn := [(0, [], [])]
theorem K_176 {l : Launch} {D : va_G} {ca : Nat → ClassId} : KMet l D ca k_176 := K_gq (KS := []) (ini := false) (n := 8) (an := ak_176) h_109 rfl (by decide +kernel) KS_nil (by decide +kernel)
def k_177 : eK := (110, ([], [.inr (.inr (some 0)), .inl ([], 19), .inl ([], 7), .inl ([], 1)], [(0, z_6)], 12), [([], some (.inl ([], 6)), [(0, z_6)], 12)], 0, 0, 1)
def ak_177 : List eAn := [(0, [], [])]
theorem K_177 {l : Launch} {D : va_G} {ca : Nat → ClassId} : KMet l D ca k_177 := K_gq (KS := []) (ini := false) (n := 22) (an := ak_177) h_110 rfl (by decide +kernel) KS_nil (by decide +kernel)
def z_173 : eSC := .inl (5, [.inr (.inr (some 1)), .inl ([], 20), .inl ([], 6), .inl ([], 1), .inl ([], 8), .inr (.inr (some 2)), .inr (.inr (some 3)), .inr (.inr (some 4)), .inr (.inr (some 5)), .inr (.inr (some 6)), .inl ([], 0)])
def k_178 : eK := (108, ([], [.inr (.inr (some 0))], [(0, z_172), (1, z_13)], 18), [([], none, [(0, z_173), (1, z_13)], 18)], 0, 0, 2)
def ak_178 : List eAn := [(0, [], [1, 7, 8, 9, 10, 11, 12, 13, 14, 15, 16, 17]), (1, [], [1, 7, 8, 9, 10, 11, 12, 13, 14, 15, 16, 17]), (0, [], [])]
theorem K_178 {l : Launch} {D : va_G} {ca : Nat → ClassId} : KMet l D ca k_178 := K_gq (KS := [k_176, k_177]) (ini := false) (n := 39) (an := ak_178) h_108 rfl (by decide +kernel) (KS_cons K_176 (KS_cons K_177 KS_nil)) (by decide +kernel)
def k_179 : eK := (109, ([], [.inr (.inr (some 0)), .inl ([], 6), .inl ([], 1)], [(0, z_6)], 12), [([], some (.inl ([], 0)), [(0, z_6)], 12)], 0, 0, 1)
def ak_179 : List eAn := [(0, [], [])]
theorem K_179 {l : Launch} {D : va_G} {ca : Nat → ClassId} : KMet l D ca k_179 := K_gq (KS := []) (ini := false) (n := 8) (an := ak_179) h_109 rfl (by decide +kernel) KS_nil (by decide +kernel)
def k_180 : eK := (110, ([], [.inr (.inr (some 0)), .inl ([], 20), .inl ([], 6), .inl ([], 1)], [(0, z_6)], 12), [([], some (.inl ([], 8)), [(0, z_6)], 12)], 0, 0, 1)
def ak_180 : List eAn := [(0, [], [])]
theorem K_180 {l : Launch} {D : va_G} {ca : Nat → ClassId} : KMet l D ca k_180 := K_gq (KS := []) (ini := false) (n := 27) (an := ak_180) h_110 rfl (by decide +kernel) KS_nil (by decide +kernel)
def z_174 : eSC := .inl (5, [.inr (.inr (some 1)), .inl ([], 21), .inl ([], 8), .inl ([], 1), .inl ([], 8), .inr (.inr (some 2)), .inr (.inr (some 3)), .inr (.inr (some 4)), .inr (.inr (some 5)), .inr (.inr (some 6)), .inl ([], 0)])
def k_181 : eK := (108, ([], [.inr (.inr (some 0))], [(0, z_173), (1, z_13)], 18), [([], none, [(0, z_174), (1, z_13)], 18)], 0, 0, 2)
def ak_181 : List eAn := [(0, [], [1, 7, 8, 9, 10, 11, 12, 13, 14, 15, 16, 17]), (1, [], [1, 7, 8, 9, 10, 11, 12, 13, 14, 15, 16, 17]), (0, [], [])]
theorem K_181 {l : Launch} {D : va_G} {ca : Nat → ClassId} : KMet l D ca k_181 := K_gq (KS := [k_179, k_180]) (ini := false) (n := 39) (an := ak_181) h_108 rfl (by decide +kernel) (KS_cons K_179 (KS_cons K_180 KS_nil)) (by decide +kernel)
def k_182 : eK := (110, ([], [.inr (.inr (some 0)), .inl ([], 21), .inl ([], 8), .inl ([], 1)], [(0, z_6)], 12), [([], some (.inl ([], 7)), [(0, z_6)], 12)], 0, 0, 1)
def ak_182 : List eAn := [(0, [], [])]
theorem K_182 {l : Launch} {D : va_G} {ca : Nat → ClassId} : KMet l D ca k_182 := K_gq (KS := []) (ini := false) (n := 22) (an := ak_182) h_110 rfl (by decide +kernel) KS_nil (by decide +kernel)
def z_175 : eSC := .inl (5, [.inr (.inr (some 1)), .inl ([], 22), .inl ([], 7), .inl ([], 1), .inl ([], 8), .inr (.inr (some 2)), .inr (.inr (some 3)), .inr (.inr (some 4)), .inr (.inr (some 5)), .inr (.inr (some 6)), .inl ([], 0)])
def k_183 : eK := (108, ([], [.inr (.inr (some 0))], [(0, z_174), (1, z_13)], 18), [([], none, [(0, z_175), (1, z_13)], 18)], 0, 0, 2)
def ak_183 : List eAn := [(0, [], [1, 7, 8, 9, 10, 11, 12, 13, 14, 15, 16, 17]), (1, [], [1, 7, 8, 9, 10, 11, 12, 13, 14, 15, 16, 17]), (0, [], [])]
theorem K_183 {l : Launch} {D : va_G} {ca : Nat → ClassId} : KMet l D ca k_183 := K_gq (KS := [k_173, k_182]) (ini := false) (n := 39) (an := ak_183) h_108 rfl (by decide +kernel) (KS_cons K_173 (KS_cons K_182 KS_nil)) (by decide +kernel)
def k_184 : eK := (110, ([], [.inr (.inr (some 0)), .inl ([], 22), .inl ([], 7), .inl ([], 1)], [(0, z_6)], 12), [([], some (.inl ([], 6)), [(0, z_6)], 12)], 0, 0, 1)
def ak_184 : List eAn := [(0, [], [])]
theorem K_184 {l : Launch} {D : va_G} {ca : Nat → ClassId} : KMet l D ca k_184 := K_gq (KS := []) (ini := false) (n := 22) (an := ak_184) h_110 rfl (by decide +kernel) KS_nil (by decide +kernel)
def z_176 : eSC := .inl (5, [.inr (.inr (some 1)), .inl ([], 23), .inl ([], 6), .inl ([], 1), .inl ([], 8), .inr (.inr (some 2)), .inr (.inr (some 3)), .inr (.inr (some 4)), .inr (.inr (some 5)), .inr (.inr (some 6)), .inl ([], 0)])
def k_185 : eK := (108, ([], [.inr (.inr (some 0))], [(0, z_175), (1, z_13)], 18), [([], none, [(0, z_176), (1, z_13)], 18)], 0, 0, 2)
def ak_185 : List eAn := [(0, [], [1, 7, 8, 9, 10, 11, 12, 13, 14, 15, 16, 17]), (1, [], [1, 7, 8, 9, 10, 11, 12, 13, 14, 15, 16, 17]), (0, [], [])]
theorem K_185 {l : Launch} {D : va_G} {ca : Nat → ClassId} : KMet l D ca k_185 := K_gq (KS := [k_176, k_184]) (ini := false) (n := 39) (an := ak_185) h_108 rfl (by decide +kernel) (KS_cons K_176 (KS_cons K_184 KS_nil)) (by decide +kernel)
def k_186 : eK := (110, ([], [.inr (.inr (some 0)), .inl ([], 23), .inl ([], 6), .inl ([], 1)], [(0, z_6)], 12), [([], some (.inl ([], 5)), [(0, z_6)], 12)], 0, 0, 1)
def ak_186 : List eAn := [(0, [], [])]
theorem K_186 {l : Launch} {D : va_G} {ca : Nat → ClassId} : KMet l D ca k_186 := K_gq (KS := []) (ini := false) (n := 22) (an := ak_186) h_110 rfl (by decide +kernel) KS_nil (by decide +kernel)
def z_177 : eSC := .inl (5, [.inr (.inr (some 1)), .inl ([], 24), .inl ([], 5), .inl ([], 1), .inl ([], 8), .inr (.inr (some 2)), .inr (.inr (some 3)), .inr (.inr (some 4)), .inr (.inr (some 5)), .inr (.inr (some 6)), .inl ([], 0)])
def k_187 : eK := (108, ([], [.inr (.inr (some 0))], [(0, z_176), (1, z_13)], 18), [([], none, [(0, z_177), (1, z_13)], 18)], 0, 0, 2)
def ak_187 : List eAn := [(0, [], [1, 7, 8, 9, 10, 11, 12, 13, 14, 15, 16, 17]), (1, [], [1, 7, 8, 9, 10, 11, 12, 13, 14, 15, 16, 17]), (0, [], [])]
theorem K_187 {l : Launch} {D : va_G} {ca : Nat → ClassId} : KMet l D ca k_187 := K_gq (KS := [k_179, k_186]) (ini := false) (n := 39) (an := ak_187) h_108 rfl (by decide +kernel) (KS_cons K_179 (KS_cons K_186 KS_nil)) (by decide +kernel)
def k_188 : eK := (109, ([], [.inr (.inr (some 0)), .inl ([], 5), .inl ([], 1)], [(0, z_6)], 12), [([], some (.inl ([], 0)), [(0, z_6)], 12)], 0, 0, 1)
def ak_188 : List eAn := [(0, [], [])]
theorem K_188 {l : Launch} {D : va_G} {ca : Nat → ClassId} : KMet l D ca k_188 := K_gq (KS := []) (ini := false) (n := 8) (an := ak_188) h_109 rfl (by decide +kernel) KS_nil (by decide +kernel)
def k_189 : eK := (110, ([], [.inr (.inr (some 0)), .inl ([], 24), .inl ([], 5), .inl ([], 1)], [(0, z_6)], 12), [([], some (.inl ([], 4)), [(0, z_6)], 12)], 0, 0, 1)
def ak_189 : List eAn := [(0, [], [])]
theorem K_189 {l : Launch} {D : va_G} {ca : Nat → ClassId} : KMet l D ca k_189 := K_gq (KS := []) (ini := false) (n := 22) (an := ak_189) h_110 rfl (by decide +kernel) KS_nil (by decide +kernel)
def z_178 : eSC := .inl (5, [.inr (.inr (some 1)), .inl ([], 25), .inl ([], 4), .inl ([], 1), .inl ([], 8), .inr (.inr (some 2)), .inr (.inr (some 3)), .inr (.inr (some 4)), .inr (.inr (some 5)), .inr (.inr (some 6)), .inl ([], 0)])
def k_190 : eK := (108, ([], [.inr (.inr (some 0))], [(0, z_177), (1, z_13)], 18), [([], none, [(0, z_178), (1, z_13)], 18)], 0, 0, 2)
def ak_190 : List eAn := [(0, [], [1, 7, 8, 9, 10, 11, 12, 13, 14, 15, 16, 17]), (1, [], [1, 7, 8, 9, 10, 11, 12, 13, 14, 15, 16, 17]), (0, [], [])]
theorem K_190 {l : Launch} {D : va_G} {ca : Nat → ClassId} : KMet l D ca k_190 := K_gq (KS := [k_188, k_189]) (ini := false) (n := 39) (an := ak_190) h_108 rfl (by decide +kernel) (KS_cons K_188 (KS_cons K_189 KS_nil)) (by decide +kernel)
def k_191 : eK := (109, ([], [.inr (.inr (some 0)), .inl ([], 4), .inl ([], 1)], [(0, z_6)], 12), [([], some (.inl ([], 0)), [(0, z_6)], 12)], 0, 0, 1)
def ak_191 : List eAn := [(0, [], [])]
theorem K_191 {l : Launch} {D : va_G} {ca : Nat → ClassId} : KMet l D ca k_191 := K_gq (KS := []) (ini := false) (n := 8) (an := ak_191) h_109 rfl (by decide +kernel) KS_nil (by decide +kernel)
def k_192 : eK := (110, ([], [.inr (.inr (some 0)), .inl ([], 25), .inl ([], 4), .inl ([], 1)], [(0, z_6)], 12), [([], some (.inl ([], 3)), [(0, z_6)], 12)], 0, 0, 1)
def ak_192 : List eAn := [(0, [], [])]
theorem K_192 {l : Launch} {D : va_G} {ca : Nat → ClassId} : KMet l D ca k_192 := K_gq (KS := []) (ini := false) (n := 22) (an := ak_192) h_110 rfl (by decide +kernel) KS_nil (by decide +kernel)
def z_179 : eSC := .inl (5, [.inr (.inr (some 1)), .inl ([], 26), .inl ([], 3), .inl ([], 1), .inl ([], 8), .inr (.inr (some 2)), .inr (.inr (some 3)), .inr (.inr (some 4)), .inr (.inr (some 5)), .inr (.inr (some 6)), .inl ([], 0)])
def k_193 : eK := (108, ([], [.inr (.inr (some 0))], [(0, z_178), (1, z_13)], 18), [([], none, [(0, z_179), (1, z_13)], 18)], 0, 0, 2)
def ak_193 : List eAn := [(0, [], [1, 7, 8, 9, 10, 11, 12, 13, 14, 15, 16, 17]), (1, [], [1, 7, 8, 9, 10, 11, 12, 13, 14, 15, 16, 17]), (0, [], [])]
theorem K_193 {l : Launch} {D : va_G} {ca : Nat → ClassId} : KMet l D ca k_193 := K_gq (KS := [k_191, k_192]) (ini := false) (n := 39) (an := ak_193) h_108 rfl (by decide +kernel) (KS_cons K_191 (KS_cons K_192 KS_nil)) (by decide +kernel)
def k_194 : eK := (109, ([], [.inr (.inr (some 0)), .inl ([], 3), .inl ([], 1)], [(0, z_6)], 12), [([], some (.inl ([], 0)), [(0, z_6)], 12)], 0, 0, 1)
def ak_194 : List eAn := [(0, [], [])]
theorem K_194 {l : Launch} {D : va_G} {ca : Nat → ClassId} : KMet l D ca k_194 := K_gq (KS := []) (ini := false) (n := 8) (an := ak_194) h_109 rfl (by decide +kernel) KS_nil (by decide +kernel)
def k_195 : eK := (110, ([], [.inr (.inr (some 0)), .inl ([], 26), .inl ([], 3), .inl ([], 1)], [(0, z_6)], 12), [([], some (.inl ([], 2)), [(0, z_6)], 12)], 0, 0, 1)
def ak_195 : List eAn := [(0, [], [])]
theorem K_195 {l : Launch} {D : va_G} {ca : Nat → ClassId} : KMet l D ca k_195 := K_gq (KS := []) (ini := false) (n := 22) (an := ak_195) h_110 rfl (by decide +kernel) KS_nil (by decide +kernel)
def z_180 : eSC := .inl (5, [.inr (.inr (some 1)), .inl ([], 27), .inl ([], 2), .inl ([], 1), .inl ([], 8), .inr (.inr (some 2)), .inr (.inr (some 3)), .inr (.inr (some 4)), .inr (.inr (some 5)), .inr (.inr (some 6)), .inl ([], 0)])
def k_196 : eK := (108, ([], [.inr (.inr (some 0))], [(0, z_179), (1, z_13)], 18), [([], none, [(0, z_180), (1, z_13)], 18)], 0, 0, 2)
def ak_196 : List eAn := [(0, [], [1, 7, 8, 9, 10, 11, 12, 13, 14, 15, 16, 17]), (1, [], [1, 7, 8, 9, 10, 11, 12, 13, 14, 15, 16, 17]), (0, [], [])]
theorem K_196 {l : Launch} {D : va_G} {ca : Nat → ClassId} : KMet l D ca k_196 := K_gq (KS := [k_194, k_195]) (ini := false) (n := 39) (an := ak_196) h_108 rfl (by decide +kernel) (KS_cons K_194 (KS_cons K_195 KS_nil)) (by decide +kernel)
def k_197 : eK := (109, ([], [.inr (.inr (some 0)), .inl ([], 2), .inl ([], 1)], [(0, z_6)], 12), [([], some (.inl ([], 0)), [(0, z_6)], 12)], 0, 0, 1)
def ak_197 : List eAn := [(0, [], [])]
theorem K_197 {l : Launch} {D : va_G} {ca : Nat → ClassId} : KMet l D ca k_197 := K_gq (KS := []) (ini := false) (n := 8) (an := ak_197) h_109 rfl (by decide +kernel) KS_nil (by decide +kernel)
def k_198 : eK := (110, ([], [.inr (.inr (some 0)), .inl ([], 27), .inl ([], 2), .inl ([], 1)], [(0, z_6)], 12), [([], some (.inl ([], 4)), [(0, z_6)], 12)], 0, 0, 1)
def ak_198 : List eAn := [(0, [], [])]
theorem K_198 {l : Launch} {D : va_G} {ca : Nat → ClassId} : KMet l D ca k_198 := K_gq (KS := []) (ini := false) (n := 27) (an := ak_198) h_110 rfl (by decide +kernel) KS_nil (by decide +kernel)
def z_181 : eSC := .inl (5, [.inr (.inr (some 1)), .inl ([], 28), .inl ([], 4), .inl ([], 1), .inl ([], 8), .inr (.inr (some 2)), .inr (.inr (some 3)), .inr (.inr (some 4)), .inr (.inr (some 5)), .inr (.inr (some 6)), .inl ([], 0)])
def k_199 : eK := (108, ([], [.inr (.inr (some 0))], [(0, z_180), (1, z_13)], 18), [([], none, [(0, z_181), (1, z_13)], 18)], 0, 0, 2)
def ak_199 : List eAn := [(0, [], [1, 7, 8, 9, 10, 11, 12, 13, 14, 15, 16, 17]), (1, [], [1, 7, 8, 9, 10, 11, 12, 13, 14, 15, 16, 17]), (0, [], [])]
theorem K_199 {l : Launch} {D : va_G} {ca : Nat → ClassId} : KMet l D ca k_199 := K_gq (KS := [k_197, k_198]) (ini := false) (n := 39) (an := ak_199) h_108 rfl (by decide +kernel) (KS_cons K_197 (KS_cons K_198 KS_nil)) (by decide +kernel)
def k_200 : eK := (110, ([], [.inr (.inr (some 0)), .inl ([], 28), .inl ([], 4), .inl ([], 1)], [(0, z_6)], 12), [([], some (.inl ([], 3)), [(0, z_6)], 12)], 0, 0, 1)
def ak_200 : List eAn := [(0, [], [])]
theorem K_200 {l : Launch} {D : va_G} {ca : Nat → ClassId} : KMet l D ca k_200 := K_gq (KS := []) (ini := false) (n := 22) (an := ak_200) h_110 rfl (by decide +kernel) KS_nil (by decide +kernel)
def z_182 : eSC := .inl (5, [.inr (.inr (some 1)), .inl ([], 29), .inl ([], 3), .inl ([], 1), .inl ([], 8), .inr (.inr (some 2)), .inr (.inr (some 3)), .inr (.inr (some 4)), .inr (.inr (some 5)), .inr (.inr (some 6)), .inl ([], 0)])
def k_201 : eK := (108, ([], [.inr (.inr (some 0))], [(0, z_181), (1, z_13)], 18), [([], none, [(0, z_182), (1, z_13)], 18)], 0, 0, 2)
def ak_201 : List eAn := [(0, [], [1, 7, 8, 9, 10, 11, 12, 13, 14, 15, 16, 17]), (1, [], [1, 7, 8, 9, 10, 11, 12, 13, 14, 15, 16, 17]), (0, [], [])]
theorem K_201 {l : Launch} {D : va_G} {ca : Nat → ClassId} : KMet l D ca k_201 := K_gq (KS := [k_191, k_200]) (ini := false) (n := 39) (an := ak_201) h_108 rfl (by decide +kernel) (KS_cons K_191 (KS_cons K_200 KS_nil)) (by decide +kernel)
def k_202 : eK := (110, ([], [.inr (.inr (some 0)), .inl ([], 29), .inl ([], 3), .inl ([], 1)], [(0, z_6)], 12), [([], some (.inl ([], 2)), [(0, z_6)], 12)], 0, 0, 1)
def ak_202 : List eAn := [(0, [], [])]
theorem K_202 {l : Launch} {D : va_G} {ca : Nat → ClassId} : KMet l D ca k_202 := K_gq (KS := []) (ini := false) (n := 22) (an := ak_202) h_110 rfl (by decide +kernel) KS_nil (by decide +kernel)
def z_183 : eSC := .inl (5, [.inr (.inr (some 1)), .inl ([], 30), .inl ([], 2), .inl ([], 1), .inl ([], 8), .inr (.inr (some 2)), .inr (.inr (some 3)), .inr (.inr (some 4)), .inr (.inr (some 5)), .inr (.inr (some 6)), .inl ([], 0)])
def k_203 : eK := (108, ([], [.inr (.inr (some 0))], [(0, z_182), (1, z_13)], 18), [([], none, [(0, z_183), (1, z_13)], 18)], 0, 0, 2)
def ak_203 : List eAn := [(0, [], [1, 7, 8, 9, 10, 11, 12, 13, 14, 15, 16, 17]), (1, [], [1, 7, 8, 9, 10, 11, 12, 13, 14, 15, 16, 17]), (0, [], [])]
theorem K_203 {l : Launch} {D : va_G} {ca : Nat → ClassId} : KMet l D ca k_203 := K_gq (KS := [k_194, k_202]) (ini := false) (n := 39) (an := ak_203) h_108 rfl (by decide +kernel) (KS_cons K_194 (KS_cons K_202 KS_nil)) (by decide +kernel)
def k_204 : eK := (110, ([], [.inr (.inr (some 0)), .inl ([], 30), .inl ([], 2), .inl ([], 1)], [(0, z_6)], 12), [([], some (.inl ([], 1)), [(0, z_6)], 12)], 0, 0, 1)
def ak_204 : List eAn := [(0, [], [])]
theorem K_204 {l : Launch} {D : va_G} {ca : Nat → ClassId} : KMet l D ca k_204 := K_gq (KS := []) (ini := false) (n := 22) (an := ak_204) h_110 rfl (by decide +kernel) KS_nil (by decide +kernel)
def z_184 : eSC := .inl (5, [.inr (.inr (some 1)), .inl ([], 31), .inl ([], 1), .inl ([], 1), .inl ([], 8), .inr (.inr (some 2)), .inr (.inr (some 3)), .inr (.inr (some 4)), .inr (.inr (some 5)), .inr (.inr (some 6)), .inl ([], 0)])
def k_205 : eK := (108, ([], [.inr (.inr (some 0))], [(0, z_183), (1, z_13)], 18), [([], none, [(0, z_184), (1, z_13)], 18)], 0, 0, 2)
def ak_205 : List eAn := [(0, [], [1, 7, 8, 9, 10, 11, 12, 13, 14, 15, 16, 17]), (1, [], [1, 7, 8, 9, 10, 11, 12, 13, 14, 15, 16, 17]), (0, [], [])]
theorem K_205 {l : Launch} {D : va_G} {ca : Nat → ClassId} : KMet l D ca k_205 := K_gq (KS := [k_197, k_204]) (ini := false) (n := 39) (an := ak_205) h_108 rfl (by decide +kernel) (KS_cons K_197 (KS_cons K_204 KS_nil)) (by decide +kernel)
def k_206 : eK := (109, ([], [.inr (.inr (some 0)), .inl ([], 1), .inl ([], 1)], [(0, z_6)], 12), [([], some (.inl ([], 0)), [(0, z_6)], 12)], 0, 0, 1)
def ak_206 : List eAn := [(0, [], [])]
theorem K_206 {l : Launch} {D : va_G} {ca : Nat → ClassId} : KMet l D ca k_206 := K_gq (KS := []) (ini := false) (n := 8) (an := ak_206) h_109 rfl (by decide +kernel) KS_nil (by decide +kernel)
def k_207 : eK := (110, ([], [.inr (.inr (some 0)), .inl ([], 31), .inl ([], 1), .inl ([], 1)], [(0, z_6)], 12), [([], some (.inl ([], 0)), [(0, z_6)], 12)], 0, 0, 1)
def ak_207 : List eAn := [(0, [], [])]
theorem K_207 {l : Launch} {D : va_G} {ca : Nat → ClassId} : KMet l D ca k_207 := K_gq (KS := []) (ini := false) (n := 22) (an := ak_207) h_110 rfl (by decide +kernel) KS_nil (by decide +kernel)
def z_185 : eSC := .inl (5, [.inr (.inr (some 1)), .inl ([], 32), .inl ([], 0), .inl ([], 1), .inl ([], 8), .inr (.inr (some 2)), .inr (.inr (some 3)), .inr (.inr (some 4)), .inr (.inr (some 5)), .inr (.inr (some 6)), .inl ([], 0)])
def k_208 : eK := (108, ([], [.inr (.inr (some 0))], [(0, z_184), (1, z_13)], 18), [([], none, [(0, z_185), (1, z_13)], 18)], 0, 0, 2)
def ak_208 : List eAn := [(0, [], [1, 7, 8, 9, 10, 11, 12, 13, 14, 15, 16, 17]), (1, [], [1, 7, 8, 9, 10, 11, 12, 13, 14, 15, 16, 17]), (0, [], [])]
theorem K_208 {l : Launch} {D : va_G} {ca : Nat → ClassId} : KMet l D ca k_208 := K_gq (KS := [k_206, k_207]) (ini := false) (n := 39) (an := ak_208) h_108 rfl (by decide +kernel) (KS_cons K_206 (KS_cons K_207 KS_nil)) (by decide +kernel)
def k_209 : eK := (109, ([], [.inr (.inr (some 0)), .inl ([], 0), .inl ([], 1)], [(0, z_6)], 12), [([], some (.inl ([], 0)), [(0, z_6)], 12)], 0, 0, 1)
def ak_209 : List eAn := [(0, [], [])]
theorem K_209 {l : Launch} {D : va_G} {ca : Nat → ClassId} : KMet l D ca k_209 := K_gq (KS := []) (ini := false) (n := 8) (an := ak_209) h_109 rfl (by decide +kernel) KS_nil (by decide +kernel)
def k_210 : eK := (110, ([], [.inr (.inr (some 0)), .inl ([], 32), .inl ([], 0), .inl ([], 1)], [(0, z_6)], 12), [([], some (.inl ([], 0)), [(0, z_6)], 12)], 0, 0, 1)
def ak_210 : List eAn := [(0, [], [])]
theorem K_210 {l : Launch} {D : va_G} {ca : Nat → ClassId} : KMet l D ca k_210 := K_gq (KS := []) (ini := false) (n := 22) (an := ak_210) h_110 rfl (by decide +kernel) KS_nil (by decide +kernel)
def z_186 : eSC := .inl (5, [.inr (.inr (some 1)), .inl ([], 33), .inl ([], 0), .inl ([], 1), .inl ([], 8), .inr (.inr (some 2)), .inr (.inr (some 3)), .inr (.inr (some 4)), .inr (.inr (some 5)), .inr (.inr (some 6)), .inl ([], 0)])
def k_211 : eK := (108, ([], [.inr (.inr (some 0))], [(0, z_185), (1, z_13)], 18), [([], none, [(0, z_186), (1, z_13)], 18)], 0, 0, 2)
def ak_211 : List eAn := [(0, [], [1, 7, 8, 9, 10, 11, 12, 13, 14, 15, 16, 17]), (1, [], [1, 7, 8, 9, 10, 11, 12, 13, 14, 15, 16, 17]), (0, [], [])]
theorem K_211 {l : Launch} {D : va_G} {ca : Nat → ClassId} : KMet l D ca k_211 := K_gq (KS := [k_209, k_210]) (ini := false) (n := 39) (an := ak_211) h_108 rfl (by decide +kernel) (KS_cons K_209 (KS_cons K_210 KS_nil)) (by decide +kernel)
def k_212 : eK := (110, ([], [.inr (.inr (some 0)), .inl ([], 33), .inl ([], 0), .inl ([], 1)], [(0, z_6)], 12), [([], some (.inl ([], 0)), [(0, z_6)], 12)], 0, 0, 1)
def ak_212 : List eAn := [(0, [], [])]
theorem K_212 {l : Launch} {D : va_G} {ca : Nat → ClassId} : KMet l D ca k_212 := K_gq (KS := []) (ini := false) (n := 22) (an := ak_212) h_110 rfl (by decide +kernel) KS_nil (by decide +kernel)
def z_187 : eSC := .inl (5, [.inr (.inr (some 1)), .inl ([], 34), .inl ([], 0), .inl ([], 1), .inl ([], 8), .inr (.inr (some 2)), .inr (.inr (some 3)), .inr (.inr (some 4)), .inr (.inr (some 5)), .inr (.inr (some 6)), .inl ([], 0)])
def k_213 : eK := (108, ([], [.inr (.inr (some 0))], [(0, z_186), (1, z_13)], 18), [([], none, [(0, z_187), (1, z_13)], 18)], 0, 0, 2)
def ak_213 : List eAn := [(0, [], [1, 7, 8, 9, 10, 11, 12, 13, 14, 15, 16, 17]), (1, [], [1, 7, 8, 9, 10, 11, 12, 13, 14, 15, 16, 17]), (0, [], [])]
theorem K_213 {l : Launch} {D : va_G} {ca : Nat → ClassId} : KMet l D ca k_213 := K_gq (KS := [k_209, k_212]) (ini := false) (n := 39) (an := ak_213) h_108 rfl (by decide +kernel) (KS_cons K_209 (KS_cons K_212 KS_nil)) (by decide +kernel)
def k_214 : eK := (110, ([], [.inr (.inr (some 0)), .inl ([], 34), .inl ([], 0), .inl ([], 1)], [(0, z_6)], 12), [([], some (.inl ([], 2)), [(0, z_6)], 12)], 0, 0, 1)
def ak_214 : List eAn := [(0, [], [])]
theorem K_214 {l : Launch} {D : va_G} {ca : Nat → ClassId} : KMet l D ca k_214 := K_gq (KS := []) (ini := false) (n := 27) (an := ak_214) h_110 rfl (by decide +kernel) KS_nil (by decide +kernel)
def z_188 : eSC := .inl (5, [.inr (.inr (some 1)), .inl ([], 35), .inl ([], 2), .inl ([], 1), .inl ([], 8), .inr (.inr (some 2)), .inr (.inr (some 3)), .inr (.inr (some 4)), .inr (.inr (some 5)), .inr (.inr (some 6)), .inl ([], 0)])
def k_215 : eK := (108, ([], [.inr (.inr (some 0))], [(0, z_187), (1, z_13)], 18), [([], none, [(0, z_188), (1, z_13)], 18)], 0, 0, 2)
def ak_215 : List eAn := [(0, [], [1, 7, 8, 9, 10, 11, 12, 13, 14, 15, 16, 17]), (1, [], [1, 7, 8, 9, 10, 11, 12, 13, 14, 15, 16, 17]), (0, [], [])]
theorem K_215 {l : Launch} {D : va_G} {ca : Nat → ClassId} : KMet l D ca k_215 := K_gq (KS := [k_209, k_214]) (ini := false) (n := 39) (an := ak_215) h_108 rfl (by decide +kernel) (KS_cons K_209 (KS_cons K_214 KS_nil)) (by decide +kernel)
def k_216 : eK := (110, ([], [.inr (.inr (some 0)), .inl ([], 35), .inl ([], 2), .inl ([], 1)], [(0, z_6)], 12), [([], some (.inl ([], 1)), [(0, z_6)], 12)], 0, 0, 1)
def ak_216 : List eAn := [(0, [], [])]
theorem K_216 {l : Launch} {D : va_G} {ca : Nat → ClassId} : KMet l D ca k_216 := K_gq (KS := []) (ini := false) (n := 22) (an := ak_216) h_110 rfl (by decide +kernel) KS_nil (by decide +kernel)
def z_189 : eSC := .inl (5, [.inr (.inr (some 1)), .inl ([], 36), .inl ([], 1), .inl ([], 1), .inl ([], 8), .inr (.inr (some 2)), .inr (.inr (some 3)), .inr (.inr (some 4)), .inr (.inr (some 5)), .inr (.inr (some 6)), .inl ([], 0)])
def k_217 : eK := (108, ([], [.inr (.inr (some 0))], [(0, z_188), (1, z_13)], 18), [([], none, [(0, z_189), (1, z_13)], 18)], 0, 0, 2)
def ak_217 : List eAn := [(0, [], [1, 7, 8, 9, 10, 11, 12, 13, 14, 15, 16, 17]), (1, [], [1, 7, 8, 9, 10, 11, 12, 13, 14, 15, 16, 17]), (0, [], [])]
theorem K_217 {l : Launch} {D : va_G} {ca : Nat → ClassId} : KMet l D ca k_217 := K_gq (KS := [k_197, k_216]) (ini := false) (n := 39) (an := ak_217) h_108 rfl (by decide +kernel) (KS_cons K_197 (KS_cons K_216 KS_nil)) (by decide +kernel)
def k_218 : eK := (110, ([], [.inr (.inr (some 0)), .inl ([], 36), .inl ([], 1), .inl ([], 1)], [(0, z_6)], 12), [([], some (.inl ([], 0)), [(0, z_6)], 12)], 0, 0, 1)
def ak_218 : List eAn := [(0, [], [])]
theorem K_218 {l : Launch} {D : va_G} {ca : Nat → ClassId} : KMet l D ca k_218 := K_gq (KS := []) (ini := false) (n := 22) (an := ak_218) h_110 rfl (by decide +kernel) KS_nil (by decide +kernel)
def z_190 : eSC := .inl (5, [.inr (.inr (some 1)), .inl ([], 37), .inl ([], 0), .inl ([], 1), .inl ([], 8), .inr (.inr (some 2)), .inr (.inr (some 3)), .inr (.inr (some 4)), .inr (.inr (some 5)), .inr (.inr (some 6)), .inl ([], 0)])
def k_219 : eK := (108, ([], [.inr (.inr (some 0))], [(0, z_189), (1, z_13)], 18), [([], none, [(0, z_190), (1, z_13)], 18)], 0, 0, 2)
def ak_219 : List eAn := [(0, [], [1, 7, 8, 9, 10, 11, 12, 13, 14, 15, 16, 17]), (1, [], [1, 7, 8, 9, 10, 11, 12, 13, 14, 15, 16, 17]), (0, [], [])]
theorem K_219 {l : Launch} {D : va_G} {ca : Nat → ClassId} : KMet l D ca k_219 := K_gq (KS := [k_206, k_218]) (ini := false) (n := 39) (an := ak_219) h_108 rfl (by decide +kernel) (KS_cons K_206 (KS_cons K_218 KS_nil)) (by decide +kernel)
def k_220 : eK := (110, ([], [.inr (.inr (some 0)), .inl ([], 37), .inl ([], 0), .inl ([], 1)], [(0, z_6)], 12), [([], some (.inl ([], 0)), [(0, z_6)], 12)], 0, 0, 1)
def ak_220 : List eAn := [(0, [], [])]
theorem K_220 {l : Launch} {D : va_G} {ca : Nat → ClassId} : KMet l D ca k_220 := K_gq (KS := []) (ini := false) (n := 22) (an := ak_220) h_110 rfl (by decide +kernel) KS_nil (by decide +kernel)
def z_191 : eSC := .inl (5, [.inr (.inr (some 1)), .inl ([], 38), .inl ([], 0), .inl ([], 1), .inl ([], 8), .inr (.inr (some 2)), .inr (.inr (some 3)), .inr (.inr (some 4)), .inr (.inr (some 5)), .inr (.inr (some 6)), .inl ([], 0)])
def k_221 : eK := (108, ([], [.inr (.inr (some 0))], [(0, z_190), (1, z_13)], 18), [([], none, [(0, z_191), (1, z_13)], 18)], 0, 0, 2)
def ak_221 : List eAn := [(0, [], [1, 7, 8, 9, 10, 11, 12, 13, 14, 15, 16, 17]), (1, [], [1, 7, 8, 9, 10, 11, 12, 13, 14, 15, 16, 17]), (0, [], [])]
theorem K_221 {l : Launch} {D : va_G} {ca : Nat → ClassId} : KMet l D ca k_221 := K_gq (KS := [k_209, k_220]) (ini := false) (n := 39) (an := ak_221) h_108 rfl (by decide +kernel) (KS_cons K_209 (KS_cons K_220 KS_nil)) (by decide +kernel)
def k_222 : eK := (110, ([], [.inr (.inr (some 0)), .inl ([], 38), .inl ([], 0), .inl ([], 1)], [(0, z_6)], 12), [([], some (.inl ([], 0)), [(0, z_6)], 12)], 0, 0, 1)
def ak_222 : List eAn := [(0, [], [])]
theorem K_222 {l : Launch} {D : va_G} {ca : Nat → ClassId} : KMet l D ca k_222 := K_gq (KS := []) (ini := false) (n := 22) (an := ak_222) h_110 rfl (by decide +kernel) KS_nil (by decide +kernel)
def z_192 : eSC := .inl (5, [.inr (.inr (some 1)), .inl ([], 39), .inl ([], 0), .inl ([], 1), .inl ([], 8), .inr (.inr (some 2)), .inr (.inr (some 3)), .inr (.inr (some 4)), .inr (.inr (some 5)), .inr (.inr (some 6)), .inl ([], 0)])
def k_223 : eK := (108, ([], [.inr (.inr (some 0))], [(0, z_191), (1, z_13)], 18), [([], none, [(0, z_192), (1, z_13)], 18)], 0, 0, 2)
def ak_223 : List eAn := [(0, [], [1, 7, 8, 9, 10, 11, 12, 13, 14, 15, 16, 17]), (1, [], [1, 7, 8, 9, 10, 11, 12, 13, 14, 15, 16, 17]), (0, [], [])]
theorem K_223 {l : Launch} {D : va_G} {ca : Nat → ClassId} : KMet l D ca k_223 := K_gq (KS := [k_209, k_222]) (ini := false) (n := 39) (an := ak_223) h_108 rfl (by decide +kernel) (KS_cons K_209 (KS_cons K_222 KS_nil)) (by decide +kernel)
def k_224 : eK := (110, ([], [.inr (.inr (some 0)), .inl ([], 39), .inl ([], 0), .inl ([], 1)], [(0, z_6)], 12), [([], some (.inl ([], 0)), [(0, z_6)], 12)], 0, 0, 1)
def ak_224 : List eAn := [(0, [], [])]
theorem K_224 {l : Launch} {D : va_G} {ca : Nat → ClassId} : KMet l D ca k_224 := K_gq (KS := []) (ini := false) (n := 22) (an := ak_224) h_110 rfl (by decide +kernel) KS_nil (by decide +kernel)
def z_193 : eSC := .inl (5, [.inr (.inr (some 1)), .inl ([], 40), .inl ([], 0), .inl ([], 1), .inl ([], 8), .inr (.inr (some 2)), .inr (.inr (some 3)), .inr (.inr (some 4)), .inr (.inr (some 5)), .inr (.inr (some 6)), .inl ([], 0)])
def k_225 : eK := (108, ([], [.inr (.inr (some 0))], [(0, z_192), (1, z_13)], 18), [([], none, [(0, z_193), (1, z_13)], 18)], 0, 0, 2)
def ak_225 : List eAn := [(0, [], [1, 7, 8, 9, 10, 11, 12, 13, 14, 15, 16, 17]), (1, [], [1, 7, 8, 9, 10, 11, 12, 13, 14, 15, 16, 17]), (0, [], [])]
theorem K_225 {l : Launch} {D : va_G} {ca : Nat → ClassId} : KMet l D ca k_225 := K_gq (KS := [k_209, k_224]) (ini := false) (n := 39) (an := ak_225) h_108 rfl (by decide +kernel) (KS_cons K_209 (KS_cons K_224 KS_nil)) (by decide +kernel)
def k_226 : eK := (110, ([], [.inr (.inr (some 0)), .inl ([], 40), .inl ([], 0), .inl ([], 1)], [(0, z_6)], 12), [([], some (.inl ([], 0)), [(0, z_6)], 12)], 0, 0, 1)
def ak_226 : List eAn := [(0, [], [])]
theorem K_226 {l : Launch} {D : va_G} {ca : Nat → ClassId} : KMet l D ca k_226 := K_gq (KS := []) (ini := false) (n := 22) (an := ak_226) h_110 rfl (by decide +kernel) KS_nil (by decide +kernel)
def z_194 : eSC := .inl (5, [.inr (.inr (some 1)), .inl ([], 41), .inl ([], 0), .inl ([], 1), .inl ([], 8), .inr (.inr (some 2)), .inr (.inr (some 3)), .inr (.inr (some 4)), .inr (.inr (some 5)), .inr (.inr (some 6)), .inl ([], 0)])
def k_227 : eK := (108, ([], [.inr (.inr (some 0))], [(0, z_193), (1, z_13)], 18), [([], none, [(0, z_194), (1, z_13)], 18)], 0, 0, 2)
def ak_227 : List eAn := [(0, [], [1, 7, 8, 9, 10, 11, 12, 13, 14, 15, 16, 17]), (1, [], [1, 7, 8, 9, 10, 11, 12, 13, 14, 15, 16, 17]), (0, [], [])]
theorem K_227 {l : Launch} {D : va_G} {ca : Nat → ClassId} : KMet l D ca k_227 := K_gq (KS := [k_209, k_226]) (ini := false) (n := 39) (an := ak_227) h_108 rfl (by decide +kernel) (KS_cons K_209 (KS_cons K_226 KS_nil)) (by decide +kernel)
def k_228 : eK := (110, ([], [.inr (.inr (some 0)), .inl ([], 41), .inl ([], 0), .inl ([], 1)], [(0, z_6)], 12), [([], some (.inl ([], 2)), [(0, z_6)], 12)], 0, 0, 1)
def ak_228 : List eAn := [(0, [], [])]
theorem K_228 {l : Launch} {D : va_G} {ca : Nat → ClassId} : KMet l D ca k_228 := K_gq (KS := []) (ini := false) (n := 27) (an := ak_228) h_110 rfl (by decide +kernel) KS_nil (by decide +kernel)
def z_195 : eSC := .inl (5, [.inr (.inr (some 1)), .inl ([], 42), .inl ([], 2), .inl ([], 1), .inl ([], 8), .inr (.inr (some 2)), .inr (.inr (some 3)), .inr (.inr (some 4)), .inr (.inr (some 5)), .inr (.inr (some 6)), .inl ([], 0)])
def k_229 : eK := (108, ([], [.inr (.inr (some 0))], [(0, z_194), (1, z_13)], 18), [([], none, [(0, z_195), (1, z_13)], 18)], 0, 0, 2)
def ak_229 : List eAn := [(0, [], [1, 7, 8, 9, 10, 11, 12, 13, 14, 15, 16, 17]), (1, [], [1, 7, 8, 9, 10, 11, 12, 13, 14, 15, 16, 17]), (0, [], [])]
theorem K_229 {l : Launch} {D : va_G} {ca : Nat → ClassId} : KMet l D ca k_229 := K_gq (KS := [k_209, k_228]) (ini := false) (n := 39) (an := ak_229) h_108 rfl (by decide +kernel) (KS_cons K_209 (KS_cons K_228 KS_nil)) (by decide +kernel)
def k_230 : eK := (110, ([], [.inr (.inr (some 0)), .inl ([], 42), .inl ([], 2), .inl ([], 1)], [(0, z_6)], 12), [([], some (.inl ([], 1)), [(0, z_6)], 12)], 0, 0, 1)
def ak_230 : List eAn := [(0, [], [])]
theorem K_230 {l : Launch} {D : va_G} {ca : Nat → ClassId} : KMet l D ca k_230 := K_gq (KS := []) (ini := false) (n := 22) (an := ak_230) h_110 rfl (by decide +kernel) KS_nil (by decide +kernel)
def z_196 : eSC := .inl (5, [.inr (.inr (some 1)), .inl ([], 43), .inl ([], 1), .inl ([], 1), .inl ([], 8), .inr (.inr (some 2)), .inr (.inr (some 3)), .inr (.inr (some 4)), .inr (.inr (some 5)), .inr (.inr (some 6)), .inl ([], 0)])
def k_231 : eK := (108, ([], [.inr (.inr (some 0))], [(0, z_195), (1, z_13)], 18), [([], none, [(0, z_196), (1, z_13)], 18)], 0, 0, 2)
def ak_231 : List eAn := [(0, [], [1, 7, 8, 9, 10, 11, 12, 13, 14, 15, 16, 17]), (1, [], [1, 7, 8, 9, 10, 11, 12, 13, 14, 15, 16, 17]), (0, [], [])]
theorem K_231 {l : Launch} {D : va_G} {ca : Nat → ClassId} : KMet l D ca k_231 := K_gq (KS := [k_197, k_230]) (ini := false) (n := 39) (an := ak_231) h_108 rfl (by decide +kernel) (KS_cons K_197 (KS_cons K_230 KS_nil)) (by decide +kernel)
def k_232 : eK := (110, ([], [.inr (.inr (some 0)), .inl ([], 43), .inl ([], 1), .inl ([], 1)], [(0, z_6)], 12), [([], some (.inl ([], 0)), [(0, z_6)], 12)], 0, 0, 1)
def ak_232 : List eAn := [(0, [], [])]
theorem K_232 {l : Launch} {D : va_G} {ca : Nat → ClassId} : KMet l D ca k_232 := K_gq (KS := []) (ini := false) (n := 22) (an := ak_232) h_110 rfl (by decide +kernel) KS_nil (by decide +kernel)
def z_197 : eSC := .inl (5, [.inr (.inr (some 1)), .inl ([], 44), .inl ([], 0), .inl ([], 1), .inl ([], 8), .inr (.inr (some 2)), .inr (.inr (some 3)), .inr (.inr (some 4)), .inr (.inr (some 5)), .inr (.inr (some 6)), .inl ([], 0)])
def k_233 : eK := (108, ([], [.inr (.inr (some 0))], [(0, z_196), (1, z_13)], 18), [([], none, [(0, z_197), (1, z_13)], 18)], 0, 0, 2)
def ak_233 : List eAn := [(0, [], [1, 7, 8, 9, 10, 11, 12, 13, 14, 15, 16, 17]), (1, [], [1, 7, 8, 9, 10, 11, 12, 13, 14, 15, 16, 17]), (0, [], [])]
theorem K_233 {l : Launch} {D : va_G} {ca : Nat → ClassId} : KMet l D ca k_233 := K_gq (KS := [k_206, k_232]) (ini := false) (n := 39) (an := ak_233) h_108 rfl (by decide +kernel) (KS_cons K_206 (KS_cons K_232 KS_nil)) (by decide +kernel)
def k_234 : eK := (110, ([], [.inr (.inr (some 0)), .inl ([], 44), .inl ([], 0), .inl ([], 1)], [(0, z_6)], 12), [([], some (.inl ([], 0)), [(0, z_6)], 12)], 0, 0, 1)
def ak_234 : List eAn := [(0, [], [])]
theorem K_234 {l : Launch} {D : va_G} {ca : Nat → ClassId} : KMet l D ca k_234 := K_gq (KS := []) (ini := false) (n := 22) (an := ak_234) h_110 rfl (by decide +kernel) KS_nil (by decide +kernel)
def z_198 : eSC := .inl (5, [.inr (.inr (some 1)), .inl ([], 45), .inl ([], 0), .inl ([], 1), .inl ([], 8), .inr (.inr (some 2)), .inr (.inr (some 3)), .inr (.inr (some 4)), .inr (.inr (some 5)), .inr (.inr (some 6)), .inl ([], 0)])
def k_235 : eK := (108, ([], [.inr (.inr (some 0))], [(0, z_197), (1, z_13)], 18), [([], none, [(0, z_198), (1, z_13)], 18)], 0, 0, 2)
def ak_235 : List eAn := [(0, [], [1, 7, 8, 9, 10, 11, 12, 13, 14, 15, 16, 17]), (1, [], [1, 7, 8, 9, 10, 11, 12, 13, 14, 15, 16, 17]), (0, [], [])]
theorem K_235 {l : Launch} {D : va_G} {ca : Nat → ClassId} : KMet l D ca k_235 := K_gq (KS := [k_209, k_234]) (ini := false) (n := 39) (an := ak_235) h_108 rfl (by decide +kernel) (KS_cons K_209 (KS_cons K_234 KS_nil)) (by decide +kernel)
def k_236 : eK := (110, ([], [.inr (.inr (some 0)), .inl ([], 45), .inl ([], 0), .inl ([], 1)], [(0, z_6)], 12), [([], some (.inl ([], 0)), [(0, z_6)], 12)], 0, 0, 1)
def ak_236 : List eAn := [(0, [], [])]
theorem K_236 {l : Launch} {D : va_G} {ca : Nat → ClassId} : KMet l D ca k_236 := K_gq (KS := []) (ini := false) (n := 22) (an := ak_236) h_110 rfl (by decide +kernel) KS_nil (by decide +kernel)
def z_199 : eSC := .inl (5, [.inr (.inr (some 1)), .inl ([], 46), .inl ([], 0), .inl ([], 1), .inl ([], 8), .inr (.inr (some 2)), .inr (.inr (some 3)), .inr (.inr (some 4)), .inr (.inr (some 5)), .inr (.inr (some 6)), .inl ([], 0)])
def k_237 : eK := (108, ([], [.inr (.inr (some 0))], [(0, z_198), (1, z_13)], 18), [([], none, [(0, z_199), (1, z_13)], 18)], 0, 0, 2)
def ak_237 : List eAn := [(0, [], [1, 7, 8, 9, 10, 11, 12, 13, 14, 15, 16, 17]), (1, [], [1, 7, 8, 9, 10, 11, 12, 13, 14, 15, 16, 17]), (0, [], [])]
theorem K_237 {l : Launch} {D : va_G} {ca : Nat → ClassId} : KMet l D ca k_237 := K_gq (KS := [k_209, k_236]) (ini := false) (n := 39) (an := ak_237) h_108 rfl (by decide +kernel) (KS_cons K_209 (KS_cons K_236 KS_nil)) (by decide +kernel)
def k_238 : eK := (110, ([], [.inr (.inr (some 0)), .inl ([], 46), .inl ([], 0), .inl ([], 1)], [(0, z_6)], 12), [([], some (.inl ([], 0)), [(0, z_6)], 12)], 0, 0, 1)
def ak_238 : List eAn := [(0, [], [])]
theorem K_238 {l : Launch} {D : va_G} {ca : Nat → ClassId} : KMet l D ca k_238 := K_gq (KS := []) (ini := false) (n := 22) (an := ak_238) h_110 rfl (by decide +kernel) KS_nil (by decide +kernel)
def z_200 : eSC := .inl (5, [.inr (.inr (some 1)), .inl ([], 47), .inl ([], 0), .inl ([], 1), .inl ([], 8), .inr (.inr (some 2)), .inr (.inr (some 3)), .inr (.inr (some 4)), .inr (.inr (some 5)), .inr (.inr (some 6)), .inl ([], 0)])
def k_239 : eK := (108, ([], [.inr (.inr (some 0))], [(0, z_199), (1, z_13)], 18), [([], none, [(0, z_200), (1, z_13)], 18)], 0, 0, 2)
def ak_239 : List eAn := [(0, [], [1, 7, 8, 9, 10, 11, 12, 13, 14, 15, 16, 17]), (1, [], [1, 7, 8, 9, 10, 11, 12, 13, 14, 15, 16, 17]), (0, [], [])]
theorem K_239 {l : Launch} {D : va_G} {ca : Nat → ClassId} : KMet l D ca k_239 := K_gq (KS := [k_209, k_238]) (ini := false) (n := 39) (an := ak_239) h_108 rfl (by decide +kernel) (KS_cons K_209 (KS_cons K_238 KS_nil)) (by decide +kernel)
def k_240 : eK := (110, ([], [.inr (.inr (some 0)), .inl ([], 47), .inl ([], 0), .inl ([], 1)], [(0, z_6)], 12), [([], some (.inl ([], 0)), [(0, z_6)], 12)], 0, 0, 1)
def ak_240 : List eAn := [(0, [], [])]
theorem K_240 {l : Launch} {D : va_G} {ca : Nat → ClassId} : KMet l D ca k_240 := K_gq (KS := []) (ini := false) (n := 22) (an := ak_240) h_110 rfl (by decide +kernel) KS_nil (by decide +kernel)
def z_201 : eSC := .inl (5, [.inr (.inr (some 1)), .inl ([], 48), .inl ([], 0), .inl ([], 1), .inl ([], 8), .inr (.inr (some 2)), .inr (.inr (some 3)), .inr (.inr (some 4)), .inr (.inr (some 5)), .inr (.inr (some 6)), .inl ([], 0)])
def k_241 : eK := (108, ([], [.inr (.inr (some 0))], [(0, z_200), (1, z_13)], 18), [([], none, [(0, z_201), (1, z_13)], 18)], 0, 0, 2)
def ak_241 : List eAn := [(0, [], [1, 7, 8, 9, 10, 11, 12, 13, 14, 15, 16, 17]), (1, [], [1, 7, 8, 9, 10, 11, 12, 13, 14, 15, 16, 17]), (0, [], [])]
theorem K_241 {l : Launch} {D : va_G} {ca : Nat → ClassId} : KMet l D ca k_241 := K_gq (KS := [k_209, k_240]) (ini := false) (n := 39) (an := ak_241) h_108 rfl (by decide +kernel) (KS_cons K_209 (KS_cons K_240 KS_nil)) (by decide +kernel)
def k_242 : eK := (110, ([], [.inr (.inr (some 0)), .inl ([], 48), .inl ([], 0), .inl ([], 1)], [(0, z_6)], 12), [([], some (.inl ([], 2)), [(0, z_6)], 12)], 0, 0, 1)
def ak_242 : List eAn := [(0, [], [])]
theorem K_242 {l : Launch} {D : va_G} {ca : Nat → ClassId} : KMet l D ca k_242 := K_gq (KS := []) (ini := false) (n := 27) (an := ak_242) h_110 rfl (by decide +kernel) KS_nil (by decide +kernel)
def z_202 : eSC := .inl (5, [.inr (.inr (some 1)), .inl ([], 49), .inl ([], 2), .inl ([], 1), .inl ([], 8), .inr (.inr (some 2)), .inr (.inr (some 3)), .inr (.inr (some 4)), .inr (.inr (some 5)), .inr (.inr (some 6)), .inl ([], 0)])
def k_243 : eK := (108, ([], [.inr (.inr (some 0))], [(0, z_201), (1, z_13)], 18), [([], none, [(0, z_202), (1, z_13)], 18)], 0, 0, 2)
def ak_243 : List eAn := [(0, [], [1, 7, 8, 9, 10, 11, 12, 13, 14, 15, 16, 17]), (1, [], [1, 7, 8, 9, 10, 11, 12, 13, 14, 15, 16, 17]), (0, [], [])]
theorem K_243 {l : Launch} {D : va_G} {ca : Nat → ClassId} : KMet l D ca k_243 := K_gq (KS := [k_209, k_242]) (ini := false) (n := 39) (an := ak_243) h_108 rfl (by decide +kernel) (KS_cons K_209 (KS_cons K_242 KS_nil)) (by decide +kernel)
def k_244 : eK := (110, ([], [.inr (.inr (some 0)), .inl ([], 49), .inl ([], 2), .inl ([], 1)], [(0, z_6)], 12), [([], some (.inl ([], 1)), [(0, z_6)], 12)], 0, 0, 1)
def ak_244 : List eAn := [(0, [], [])]
theorem K_244 {l : Launch} {D : va_G} {ca : Nat → ClassId} : KMet l D ca k_244 := K_gq (KS := []) (ini := false) (n := 22) (an := ak_244) h_110 rfl (by decide +kernel) KS_nil (by decide +kernel)
def z_203 : eSC := .inl (5, [.inr (.inr (some 1)), .inl ([], 50), .inl ([], 1), .inl ([], 1), .inl ([], 8), .inr (.inr (some 2)), .inr (.inr (some 3)), .inr (.inr (some 4)), .inr (.inr (some 5)), .inr (.inr (some 6)), .inl ([], 0)])
def k_245 : eK := (108, ([], [.inr (.inr (some 0))], [(0, z_202), (1, z_13)], 18), [([], none, [(0, z_203), (1, z_13)], 18)], 0, 0, 2)
def ak_245 : List eAn := [(0, [], [1, 7, 8, 9, 10, 11, 12, 13, 14, 15, 16, 17]), (1, [], [1, 7, 8, 9, 10, 11, 12, 13, 14, 15, 16, 17]), (0, [], [])]
theorem K_245 {l : Launch} {D : va_G} {ca : Nat → ClassId} : KMet l D ca k_245 := K_gq (KS := [k_197, k_244]) (ini := false) (n := 39) (an := ak_245) h_108 rfl (by decide +kernel) (KS_cons K_197 (KS_cons K_244 KS_nil)) (by decide +kernel)
def k_246 : eK := (110, ([], [.inr (.inr (some 0)), .inl ([], 50), .inl ([], 1), .inl ([], 1)], [(0, z_6)], 12), [([], some (.inl ([], 0)), [(0, z_6)], 12)], 0, 0, 1)
def ak_246 : List eAn := [(0, [], [])]
theorem K_246 {l : Launch} {D : va_G} {ca : Nat → ClassId} : KMet l D ca k_246 := K_gq (KS := []) (ini := false) (n := 22) (an := ak_246) h_110 rfl (by decide +kernel) KS_nil (by decide +kernel)
def z_204 : eSC := .inl (5, [.inr (.inr (some 1)), .inl ([], 51), .inl ([], 0), .inl ([], 1), .inl ([], 8), .inr (.inr (some 2)), .inr (.inr (some 3)), .inr (.inr (some 4)), .inr (.inr (some 5)), .inr (.inr (some 6)), .inl ([], 0)])
def k_247 : eK := (108, ([], [.inr (.inr (some 0))], [(0, z_203), (1, z_13)], 18), [([], none, [(0, z_204), (1, z_13)], 18)], 0, 0, 2)
def ak_247 : List eAn := [(0, [], [1, 7, 8, 9, 10, 11, 12, 13, 14, 15, 16, 17]), (1, [], [1, 7, 8, 9, 10, 11, 12, 13, 14, 15, 16, 17]), (0, [], [])]
theorem K_247 {l : Launch} {D : va_G} {ca : Nat → ClassId} : KMet l D ca k_247 := K_gq (KS := [k_206, k_246]) (ini := false) (n := 39) (an := ak_247) h_108 rfl (by decide +kernel) (KS_cons K_206 (KS_cons K_246 KS_nil)) (by decide +kernel)
def k_248 : eK := (110, ([], [.inr (.inr (some 0)), .inl ([], 51), .inl ([], 0), .inl ([], 1)], [(0, z_6)], 12), [([], some (.inl ([], 0)), [(0, z_6)], 12)], 0, 0, 1)
def ak_248 : List eAn := [(0, [], [])]
theorem K_248 {l : Launch} {D : va_G} {ca : Nat → ClassId} : KMet l D ca k_248 := K_gq (KS := []) (ini := false) (n := 22) (an := ak_248) h_110 rfl (by decide +kernel) KS_nil (by decide +kernel)
def z_205 : eSC := .inl (5, [.inr (.inr (some 1)), .inl ([], 52), .inl ([], 0), .inl ([], 1), .inl ([], 8), .inr (.inr (some 2)), .inr (.inr (some 3)), .inr (.inr (some 4)), .inr (.inr (some 5)), .inr (.inr (some 6)), .inl ([], 0)])
def k_249 : eK := (108, ([], [.inr (.inr (some 0))], [(0, z_204), (1, z_13)], 18), [([], none, [(0, z_205), (1, z_13)], 18)], 0, 0, 2)
def ak_249 : List eAn := [(0, [], [1, 7, 8, 9, 10, 11, 12, 13, 14, 15, 16, 17]), (1, [], [1, 7, 8, 9, 10, 11, 12, 13, 14, 15, 16, 17]), (0, [], [])]
theorem K_249 {l : Launch} {D : va_G} {ca : Nat → ClassId} : KMet l D ca k_249 := K_gq (KS := [k_209, k_248]) (ini := false) (n := 39) (an := ak_249) h_108 rfl (by decide +kernel) (KS_cons K_209 (KS_cons K_248 KS_nil)) (by decide +kernel)
def k_250 : eK := (110, ([], [.inr (.inr (some 0)), .inl ([], 52), .inl ([], 0), .inl ([], 1)], [(0, z_6)], 12), [([], some (.inl ([], 0)), [(0, z_6)], 12)], 0, 0, 1)
def ak_250 : List eAn := [(0, [], [])]
theorem K_250 {l : Launch} {D : va_G} {ca : Nat → ClassId} : KMet l D ca k_250 := K_gq (KS := []) (ini := false) (n := 22) (an := ak_250) h_110 rfl (by decide +kernel) KS_nil (by decide +kernel)
def z_206 : eSC := .inl (5, [.inr (.inr (some 1)), .inl ([], 53), .inl ([], 0), .inl ([], 1), .inl ([], 8), .inr (.inr (some 2)), .inr (.inr (some 3)), .inr (.inr (some 4)), .inr (.inr (some 5)), .inr (.inr (some 6)), .inl ([], 0)])
def k_251 : eK := (108, ([], [.inr (.inr (some 0))], [(0, z_205), (1, z_13)], 18), [([], none, [(0, z_206), (1, z_13)], 18)], 0, 0, 2)
def ak_251 : List eAn := [(0, [], [1, 7, 8, 9, 10, 11, 12, 13, 14, 15, 16, 17]), (1, [], [1, 7, 8, 9, 10, 11, 12, 13, 14, 15, 16, 17]), (0, [], [])]
theorem K_251 {l : Launch} {D : va_G} {ca : Nat → ClassId} : KMet l D ca k_251 := K_gq (KS := [k_209, k_250]) (ini := false) (n := 39) (an := ak_251) h_108 rfl (by decide +kernel) (KS_cons K_209 (KS_cons K_250 KS_nil)) (by decide +kernel)
def k_252 : eK := (110, ([], [.inr (.inr (some 0)), .inl ([], 53), .inl ([], 0), .inl ([], 1)], [(0, z_6)], 12), [([], some (.inl ([], 0)), [(0, z_6)], 12)], 0, 0, 1)
def ak_252 : List eAn := [(0, [], [])]
theorem K_252 {l : Launch} {D : va_G} {ca : Nat → ClassId} : KMet l D ca k_252 := K_gq (KS := []) (ini := false) (n := 22) (an := ak_252) h_110 rfl (by decide +kernel) KS_nil (by decide +kernel)
def z_207 : eSC := .inl (5, [.inr (.inr (some 1)), .inl ([], 54), .inl ([], 0), .inl ([], 1), .inl ([], 8), .inr (.inr (some 2)), .inr (.inr (some 3)), .inr (.inr (some 4)), .inr (.inr (some 5)), .inr (.inr (some 6)), .inl ([], 0)])
def k_253 : eK := (108, ([], [.inr (.inr (some 0))], [(0, z_206), (1, z_13)], 18), [([], none, [(0, z_207), (1, z_13)], 18)], 0, 0, 2)
def ak_253 : List eAn := [(0, [], [1, 7, 8, 9, 10, 11, 12, 13, 14, 15, 16, 17]), (1, [], [1, 7, 8, 9, 10, 11, 12, 13, 14, 15, 16, 17]), (0, [], [])]
theorem K_253 {l : Launch} {D : va_G} {ca : Nat → ClassId} : KMet l D ca k_253 := K_gq (KS := [k_209, k_252]) (ini := false) (n := 39) (an := ak_253) h_108 rfl (by decide +kernel) (KS_cons K_209 (KS_cons K_252 KS_nil)) (by decide +kernel)
def k_254 : eK := (110, ([], [.inr (.inr (some 0)), .inl ([], 54), .inl ([], 0), .inl ([], 1)], [(0, z_6)], 12), [([], some (.inl ([], 0)), [(0, z_6)], 12)], 0, 0, 1)
def ak_254 : List eAn := [(0, [], [])]
theorem K_254 {l : Launch} {D : va_G} {ca : Nat → ClassId} : KMet l D ca k_254 := K_gq (KS := []) (ini := false) (n := 22) (an := ak_254) h_110 rfl (by decide +kernel) KS_nil (by decide +kernel)
def z_208 : eSC := .inl (5, [.inr (.inr (some 1)), .inl ([], 55), .inl ([], 0), .inl ([], 1), .inl ([], 8), .inr (.inr (some 2)), .inr (.inr (some 3)), .inr (.inr (some 4)), .inr (.inr (some 5)), .inr (.inr (some 6)), .inl ([], 0)])
def k_255 : eK := (108, ([], [.inr (.inr (some 0))], [(0, z_207), (1, z_13)], 18), [([], none, [(0, z_208), (1, z_13)], 18)], 0, 0, 2)
def ak_255 : List eAn := [(0, [], [1, 7, 8, 9, 10, 11, 12, 13, 14, 15, 16, 17]), (1, [], [1, 7, 8, 9, 10, 11, 12, 13, 14, 15, 16, 17]), (0, [], [])]
theorem K_255 {l : Launch} {D : va_G} {ca : Nat → ClassId} : KMet l D ca k_255 := K_gq (KS := [k_209, k_254]) (ini := false) (n := 39) (an := ak_255) h_108 rfl (by decide +kernel) (KS_cons K_209 (KS_cons K_254 KS_nil)) (by decide +kernel)
def k_256 : eK := (110, ([], [.inr (.inr (some 0)), .inl ([], 55), .inl ([], 0), .inl ([], 1)], [(0, z_6)], 12), [([], some (.inl ([], 2)), [(0, z_6)], 12)], 0, 0, 1)
def ak_256 : List eAn := [(0, [], [])]
theorem K_256 {l : Launch} {D : va_G} {ca : Nat → ClassId} : KMet l D ca k_256 := K_gq (KS := []) (ini := false) (n := 27) (an := ak_256) h_110 rfl (by decide +kernel) KS_nil (by decide +kernel)
def z_209 : eSC := .inl (5, [.inr (.inr (some 1)), .inl ([], 56), .inl ([], 2), .inl ([], 1), .inl ([], 8), .inr (.inr (some 2)), .inr (.inr (some 3)), .inr (.inr (some 4)), .inr (.inr (some 5)), .inr (.inr (some 6)), .inl ([], 0)])
def k_257 : eK := (108, ([], [.inr (.inr (some 0))], [(0, z_208), (1, z_13)], 18), [([], none, [(0, z_209), (1, z_13)], 18)], 0, 0, 2)
def ak_257 : List eAn := [(0, [], [1, 7, 8, 9, 10, 11, 12, 13, 14, 15, 16, 17]), (1, [], [1, 7, 8, 9, 10, 11, 12, 13, 14, 15, 16, 17]), (0, [], [])]
theorem K_257 {l : Launch} {D : va_G} {ca : Nat → ClassId} : KMet l D ca k_257 := K_gq (KS := [k_209, k_256]) (ini := false) (n := 39) (an := ak_257) h_108 rfl (by decide +kernel) (KS_cons K_209 (KS_cons K_256 KS_nil)) (by decide +kernel)
def k_258 : eK := (110, ([], [.inr (.inr (some 0)), .inl ([], 56), .inl ([], 2), .inl ([], 1)], [(0, z_6)], 12), [([], some (.inl ([], 1)), [(0, z_6)], 12)], 0, 0, 1)
def ak_258 : List eAn := [(0, [], [])]
theorem K_258 {l : Launch} {D : va_G} {ca : Nat → ClassId} : KMet l D ca k_258 := K_gq (KS := []) (ini := false) (n := 22) (an := ak_258) h_110 rfl (by decide +kernel) KS_nil (by decide +kernel)
def z_210 : eSC := .inl (5, [.inr (.inr (some 1)), .inl ([], 57), .inl ([], 1), .inl ([], 1), .inl ([], 8), .inr (.inr (some 2)), .inr (.inr (some 3)), .inr (.inr (some 4)), .inr (.inr (some 5)), .inr (.inr (some 6)), .inl ([], 0)])
def k_259 : eK := (108, ([], [.inr (.inr (some 0))], [(0, z_209), (1, z_13)], 18), [([], none, [(0, z_210), (1, z_13)], 18)], 0, 0, 2)
def ak_259 : List eAn := [(0, [], [1, 7, 8, 9, 10, 11, 12, 13, 14, 15, 16, 17]), (1, [], [1, 7, 8, 9, 10, 11, 12, 13, 14, 15, 16, 17]), (0, [], [])]
theorem K_259 {l : Launch} {D : va_G} {ca : Nat → ClassId} : KMet l D ca k_259 := K_gq (KS := [k_197, k_258]) (ini := false) (n := 39) (an := ak_259) h_108 rfl (by decide +kernel) (KS_cons K_197 (KS_cons K_258 KS_nil)) (by decide +kernel)
def k_260 : eK := (110, ([], [.inr (.inr (some 0)), .inl ([], 57), .inl ([], 1), .inl ([], 1)], [(0, z_6)], 12), [([], some (.inl ([], 0)), [(0, z_6)], 12)], 0, 0, 1)
def ak_260 : List eAn := [(0, [], [])]
theorem K_260 {l : Launch} {D : va_G} {ca : Nat → ClassId} : KMet l D ca k_260 := K_gq (KS := []) (ini := false) (n := 22) (an := ak_260) h_110 rfl (by decide +kernel) KS_nil (by decide +kernel)
def z_211 : eSC := .inl (5, [.inr (.inr (some 1)), .inl ([], 58), .inl ([], 0), .inl ([], 1), .inl ([], 8), .inr (.inr (some 2)), .inr (.inr (some 3)), .inr (.inr (some 4)), .inr (.inr (some 5)), .inr (.inr (some 6)), .inl ([], 0)])
def k_261 : eK := (108, ([], [.inr (.inr (some 0))], [(0, z_210), (1, z_13)], 18), [([], none, [(0, z_211), (1, z_13)], 18)], 0, 0, 2)
def ak_261 : List eAn := [(0, [], [1, 7, 8, 9, 10, 11, 12, 13, 14, 15, 16, 17]), (1, [], [1, 7, 8, 9, 10, 11, 12, 13, 14, 15, 16, 17]), (0, [], [])]
theorem K_261 {l : Launch} {D : va_G} {ca : Nat → ClassId} : KMet l D ca k_261 := K_gq (KS := [k_206, k_260]) (ini := false) (n := 39) (an := ak_261) h_108 rfl (by decide +kernel) (KS_cons K_206 (KS_cons K_260 KS_nil)) (by decide +kernel)
def k_262 : eK := (110, ([], [.inr (.inr (some 0)), .inl ([], 58), .inl ([], 0), .inl ([], 1)], [(0, z_6)], 12), [([], some (.inl ([], 0)), [(0, z_6)], 12)], 0, 0, 1)
def ak_262 : List eAn := [(0, [], [])]
theorem K_262 {l : Launch} {D : va_G} {ca : Nat → ClassId} : KMet l D ca k_262 := K_gq (KS := []) (ini := false) (n := 22) (an := ak_262) h_110 rfl (by decide +kernel) KS_nil (by decide +kernel)
def z_212 : eSC := .inl (5, [.inr (.inr (some 1)), .inl ([], 59), .inl ([], 0), .inl ([], 1), .inl ([], 8), .inr (.inr (some 2)), .inr (.inr (some 3)), .inr (.inr (some 4)), .inr (.inr (some 5)), .inr (.inr (some 6)), .inl ([], 0)])
def k_263 : eK := (108, ([], [.inr (.inr (some 0))], [(0, z_211), (1, z_13)], 18), [([], none, [(0, z_212), (1, z_13)], 18)], 0, 0, 2)
def ak_263 : List eAn := [(0, [], [1, 7, 8, 9, 10, 11, 12, 13, 14, 15, 16, 17]), (1, [], [1, 7, 8, 9, 10, 11, 12, 13, 14, 15, 16, 17]), (0, [], [])]
theorem K_263 {l : Launch} {D : va_G} {ca : Nat → ClassId} : KMet l D ca k_263 := K_gq (KS := [k_209, k_262]) (ini := false) (n := 39) (an := ak_263) h_108 rfl (by decide +kernel) (KS_cons K_209 (KS_cons K_262 KS_nil)) (by decide +kernel)
def k_264 : eK := (110, ([], [.inr (.inr (some 0)), .inl ([], 59), .inl ([], 0), .inl ([], 1)], [(0, z_6)], 12), [([], some (.inl ([], 0)), [(0, z_6)], 12)], 0, 0, 1)
def ak_264 : List eAn := [(0, [], [])]
theorem K_264 {l : Launch} {D : va_G} {ca : Nat → ClassId} : KMet l D ca k_264 := K_gq (KS := []) (ini := false) (n := 22) (an := ak_264) h_110 rfl (by decide +kernel) KS_nil (by decide +kernel)
def z_213 : eSC := .inl (5, [.inr (.inr (some 1)), .inl ([], 60), .inl ([], 0), .inl ([], 1), .inl ([], 8), .inr (.inr (some 2)), .inr (.inr (some 3)), .inr (.inr (some 4)), .inr (.inr (some 5)), .inr (.inr (some 6)), .inl ([], 0)])
def k_265 : eK := (108, ([], [.inr (.inr (some 0))], [(0, z_212), (1, z_13)], 18), [([], none, [(0, z_213), (1, z_13)], 18)], 0, 0, 2)
def ak_265 : List eAn := [(0, [], [1, 7, 8, 9, 10, 11, 12, 13, 14, 15, 16, 17]), (1, [], [1, 7, 8, 9, 10, 11, 12, 13, 14, 15, 16, 17]), (0, [], [])]
theorem K_265 {l : Launch} {D : va_G} {ca : Nat → ClassId} : KMet l D ca k_265 := K_gq (KS := [k_209, k_264]) (ini := false) (n := 39) (an := ak_265) h_108 rfl (by decide +kernel) (KS_cons K_209 (KS_cons K_264 KS_nil)) (by decide +kernel)
def k_266 : eK := (107, ([(1, 60)], [.inr (.inr (some 0)), .inl ([(0, 1)], 0)], [(0, z_14), (1, z_13)], 18), [([(1, 1)], some (.inl ([(0, 1)], 0)), [(0, z_154), (1, z_13)], 18), ([(2, 2)], some (.inl ([(0, 1)], 0)), [(0, z_155), (1, z_13)], 18), ([(3, 3)], some (.inl ([(0, 1)], 0)), [(0, z_156), (1, z_13)], 18), ([(4, 4)], some (.inl ([(0, 1)], 0)), [(0, z_157), (1, z_13)], 18), ([(5, 5)], some (.inl ([(0, 1)], 0)), [(0, z_158), (1, z_13)], 18), ([(6, 6)], some (.inl ([(0, 1)], 0)), [(0, z_159), (1, z_13)], 18), ([(7, 7)], some (.inl ([(0, 1)], 0)), [(0, z_160), (1, z_13)], 18), ([(8, 8)], some (.inl ([(0, 1)], 0)), [(0, z_161), (1, z_13)], 18), ([(9, 9)], some (.inl ([(0, 1)], 0)), [(0, z_162), (1, z_13)], 18), ([(10, 10)], some (.inl ([(0, 1)], 0)), [(0, z_163), (1, z_13)], 18), ([(11, 11)], some (.inl ([(0, 1)], 0)), [(0, z_164), (1, z_13)], 18), ([(12, 12)], some (.inl ([(0, 1)], 0)), [(0, z_165), (1, z_13)], 18), ([(13, 13)], some (.inl ([(0, 1)], 0)), [(0, z_166), (1, z_13)], 18), ([(14, 14)], some (.inl ([(0, 1)], 0)), [(0, z_167), (1, z_13)], 18), ([(15, 15)], some (.inl ([(0, 1)], 0)), [(0, z_168), (1, z_13)], 18), ([(16, 16)], some (.inl ([(0, 1)], 0)), [(0, z_169), (1, z_13)], 18), ([(17, 17)], some (.inl ([(0, 1)], 0)), [(0, z_170), (1, z_13)], 18), ([(18, 18)], some (.inl ([(0, 1)], 0)), [(0, z_171), (1, z_13)], 18), ([(19, 19)], some (.inl ([(0, 1)], 0)), [(0, z_172), (1, z_13)], 18), ([(20, 20)], some (.inl ([(0, 1)], 0)), [(0, z_173), (1, z_13)], 18), ([(21, 21)], some (.inl ([(0, 1)], 0)), [(0, z_174), (1, z_13)], 18), ([(22, 22)], some (.inl ([(0, 1)], 0)), [(0, z_175), (1, z_13)], 18), ([(23, 23)], some (.inl ([(0, 1)], 0)), [(0, z_176), (1, z_13)], 18), ([(24, 24)], some (.inl ([(0, 1)], 0)), [(0, z_177), (1, z_13)], 18), ([(25, 25)], some (.inl ([(0, 1)], 0)), [(0, z_178), (1, z_13)], 18), ([(26, 26)], some (.inl ([(0, 1)], 0)), [(0, z_179), (1, z_13)], 18), ([(27, 27)], some (.inl ([(0, 1)], 0)), [(0, z_180), (1, z_13)], 18), ([(28, 28)], some (.inl ([(0, 1)], 0)), [(0, z_181), (1, z_13)], 18), ([(29, 29)], some (.inl ([(0, 1)], 0)), [(0, z_182), (1, z_13)], 18), ([(30, 30)], some (.inl ([(0, 1)], 0)), [(0, z_183), (1, z_13)], 18), ([(31, 31)], some (.inl ([(0, 1)], 0)), [(0, z_184), (1, z_13)], 18), ([(32, 32)], some (.inl ([(0, 1)], 0)), [(0, z_185), (1, z_13)], 18), ([(33, 33)], some (.inl ([(0, 1)], 0)), [(0, z_186), (1, z_13)], 18), ([(34, 34)], some (.inl ([(0, 1)], 0)), [(0, z_187), (1, z_13)], 18), ([(35, 35)], some (.inl ([(0, 1)], 0)), [(0, z_188), (1, z_13)], 18), ([(36, 36)], some (.inl ([(0, 1)], 0)), [(0, z_189), (1, z_13)], 18), ([(37, 37)], some (.inl ([(0, 1)], 0)), [(0, z_190), (1, z_13)], 18), ([(38, 38)], some (.inl ([(0, 1)], 0)), [(0, z_191), (1, z_13)], 18), ([(39, 39)], some (.inl ([(0, 1)], 0)), [(0, z_192), (1, z_13)], 18), ([(40, 40)], some (.inl ([(0, 1)], 0)), [(0, z_193), (1, z_13)], 18), ([(41, 41)], some (.inl ([(0, 1)], 0)), [(0, z_194), (1, z_13)], 18), ([(42, 42)], some (.inl ([(0, 1)], 0)), [(0, z_195), (1, z_13)], 18), ([(43, 43)], some (.inl ([(0, 1)], 0)), [(0, z_196), (1, z_13)], 18), ([(44, 44)], some (.inl ([(0, 1)], 0)), [(0, z_197), (1, z_13)], 18), ([(45, 45)], some (.inl ([(0, 1)], 0)), [(0, z_198), (1, z_13)], 18), ([(46, 46)], some (.inl ([(0, 1)], 0)), [(0, z_199), (1, z_13)], 18), ([(47, 47)], some (.inl ([(0, 1)], 0)), [(0, z_200), (1, z_13)], 18), ([(48, 48)], some (.inl ([(0, 1)], 0)), [(0, z_201), (1, z_13)], 18), ([(49, 49)], some (.inl ([(0, 1)], 0)), [(0, z_202), (1, z_13)], 18), ([(50, 50)], some (.inl ([(0, 1)], 0)), [(0, z_203), (1, z_13)], 18), ([(51, 51)], some (.inl ([(0, 1)], 0)), [(0, z_204), (1, z_13)], 18), ([(52, 52)], some (.inl ([(0, 1)], 0)), [(0, z_205), (1, z_13)], 18), ([(53, 53)], some (.inl ([(0, 1)], 0)), [(0, z_206), (1, z_13)], 18), ([(54, 54)], some (.inl ([(0, 1)], 0)), [(0, z_207), (1, z_13)], 18), ([(55, 55)], some (.inl ([(0, 1)], 0)), [(0, z_208), (1, z_13)], 18), ([(56, 56)], some (.inl ([(0, 1)], 0)), [(0, z_209), (1, z_13)], 18), ([(57, 57)], some (.inl ([(0, 1)], 0)), [(0, z_210), (1, z_13)], 18), ([(58, 58)], some (.inl ([(0, 1)], 0)), [(0, z_211), (1, z_13)], 18), ([(59, 59)], some (.inl ([(0, 1)], 0)), [(0, z_212), (1, z_13)], 18), ([(60, 60)], some (.inl ([(0, 1)], 0)), [(0, z_213), (1, z_13)], 18)], 0, 0, 3)
def ak_266 : List eAn := [(0, [], List.range 7), (1, [], List.range 18), (0, [], []), (2, [], List.range 18), (1, [], []), (3, [], List.range 18), (2, [], []), (4, [], List.range 18), (3, [], []), (5, [], List.range 18), (4, [], []), (6, [], List.range 18), (5, [], []), (7, [], List.range 18), (6, [], []), (8, [], List.range 18), (7, [], []), (9, [], List.range 18), (8, [], []), (10, [], List.range 18), (9, [], []), (11, [], List.range 18), (10, [], []), (12, [], List.range 18), (11, [], []), (13, [], List.range 18), (12, [], []), (14, [], List.range 18), (13, [], []), (15, [], List.range 18), (14, [], []), (16, [], List.range 18), (15, [], []), (17, [], List.range 18), (16, [], []), (18, [], List.range 18), (17, [], []), (19, [], List.range 18), (18, [], []), (20, [], List.range 18), (19, [], []), (21, [], List.range 18), (20, [], []), (22, [], List.range 18), (21, [], []), (23, [], List.range 18), (22, [], []), (24, [], List.range 18), (23, [], []), (25, [], List.range 18), (24, [], []), (26, [], List.range 18), (25, [], []), (27, [], List.range 18), (26, [], []), (28, [], List.range 18), (27, [], []), (29, [], List.range 18), (28, [], []), (30, [], List.range 18), (29, [], []), (31, [], List.range 18), (30, [], []), (32, [], List.range 18), (31, [], []), (33, [], List.range 18), (32, [], []), (34, [], List.range 18), (33, [], []), (35, [], List.range 18), (34, [], []), (36, [], List.range 18), (35, [], []), (37, [], List.range 18), (36, [], []), (38, [], List.range 18), (37, [], []), (39, [], List.range 18), (38, [], []), (40, [], List.range 18), (39, [], []), (41, [], List.range 18), (40, [], []), (42, [], List.range 18), (41, [], []), (43, [], List.range 18), (42, [], []), (44, [], List.range 18), (43, [], []), (45, [], List.range 18), (44, [], []), (46, [], List.range 18), (45, [], []), (47, [], List.range 18), (46, [], []), (48, [], List.range 18), (47, [], []), (49, [], List.range 18), (48, [], []), (50, [], List.range 18), (49, [], []), (51, [], List.range 18), (50, [], []), (52, [], List.range 18), (51, [], []), (53, [], List.range 18), (52, [], []), (54, [], List.range 18), (53, [], []), (55, [], List.range 18), (54, [], []), (56, [], List.range 18), (55, [], []), (57, [], List.range 18), (56, [], []), (58, [], List.range 18), (57, [], []), (59, [], List.range 18), (58, [], []), (60, [], List.range 18), (59, [], [])]
theorem K_266 {l : Launch} {D : va_G} {ca : Nat → ClassId} : KMet l D ca k_266 := K_gq (KS := [k_124, k_127, k_130, k_133, k_136, k_139, k_142, k_145, k_147, k_149, k_151, k_154, k_157, k_160, k_163, k_165, k_167, k_169, k_172, k_175, k_178, k_181, k_183, k_185, k_187, k_190, k_193, k_196, k_199, k_201, k_203, k_205, k_208, k_211, k_213, k_215, k_217, k_219, k_221, k_223, k_225, k_227, k_229, k_231, k_233, k_235, k_237, k_239, k_241, k_243, k_245, k_247, k_249, k_251, k_253, k_255, k_257, k_259, k_261, k_263, k_265]) (ini := false) (n := 434) (an := ak_266) h_107 rfl (by decide +kernel) (KS_cons K_124 (KS_cons K_127 (KS_cons K_130 (KS_cons K_133 (KS_cons K_136 (KS_cons K_139 (KS_cons K_142 (KS_cons K_145 (KS_cons K_147 (KS_cons K_149 (KS_cons K_151 (KS_cons K_154 (KS_cons K_157 (KS_cons K_160 (KS_cons K_163 (KS_cons K_165 (KS_cons K_167 (KS_cons K_169 (KS_cons K_172 (KS_cons K_175 (KS_cons K_178 (KS_cons K_181 (KS_cons K_183 (KS_cons K_185 (KS_cons K_187 (KS_cons K_190 (KS_cons K_193 (KS_cons K_196 (KS_cons K_199 (KS_cons K_201 (KS_cons K_203 (KS_cons K_205 (KS_cons K_208 (KS_cons K_211 (KS_cons K_213 (KS_cons K_215 (KS_cons K_217 (KS_cons K_219 (KS_cons K_221 (KS_cons K_223 (KS_cons K_225 (KS_cons K_227 (KS_cons K_229 (KS_cons K_231 (KS_cons K_233 (KS_cons K_235 (KS_cons K_237 (KS_cons K_239 (KS_cons K_241 (KS_cons K_243 (KS_cons K_245 (KS_cons K_247 (KS_cons K_249 (KS_cons K_251 (KS_cons K_253 (KS_cons K_255 (KS_cons K_257 (KS_cons K_259 (KS_cons K_261 (KS_cons K_263 (KS_cons K_265 KS_nil))))))))))))))))))))))))))))))))))))))))))))))))))))))))))))) (by decide +kernel)
def z_214 : eSC := .inl (3, [.inr (.inr (some 32)), .inl ([], 0), .inl ([], 0)])
def z_215 : eSC := .inr (.inr (.inr (5, 8, [(1, .inr (.inr (.inr (some 33)))), (1, .inr (.inr (.inr (some 34)))), (1, .inr (.inr (.inr (some 35)))), (1, .inr (.inr (.inr (some 36)))), (1, .inr (.inr (.inr (some 37)))), (1, .inr (.inr (.inr (some 38)))), (1, .inr (.inr (.inr (some 39)))), (1, .inr (.inr (.inr (some 40))))])))
def k_267 : eK := (105, ([((-2147483648), 2147483647)], [.inr (.inr (some 0)), .inl ([(0, 1)], 0)], [(0, z_51), (2, z_138), (4, z_139), (6, z_214), (27, z_7), (28, z_5), (29, z_5), (30, z_5), (31, z_10), (32, z_215), (33, z_55), (41, z_7), (42, z_5), (43, z_5), (44, z_5), (45, z_10)], 46), [([((-2147483648), 0)], some (.inl ([], (-1))), [], 46), ([(61, 2147483647)], some (.inl ([], (-1))), [], 46), ([(1, 60)], some (.inl ([(0, 1)], 0)), [], 46)], 0, 0, 4)
def ak_267 : List eAn := [(0, [([(0, 1)], 0)], []), (0, [], []), (1, [], []), (1, [], [4, 2, 27, 28, 29, 30, 31]), (2, [], [6, 4, 32, 2, 27, 28, 29, 30, 31, 33, 34, 35, 36, 37, 38, 39, 40, 41, 42, 43, 44, 45]), (3, [([(0, 1)], 0)], [4, 2, 27, 28, 29, 30, 31, 16, 17, 18, 19, 20, 21, 22, 23, 24, 25, 26]), (2, [], []), (2, [], []), (2, [], []), (2, [], []), (2, [], []), (2, [], []), (2, [], []), (2, [], []), (2, [], []), (2, [], []), (2, [], []), (2, [], []), (2, [], []), (2, [], []), (2, [], []), (2, [], []), (2, [], []), (2, [], []), (2, [], []), (2, [], []), (2, [], []), (2, [], []), (2, [], []), (2, [], []), (2, [], []), (2, [], []), (2, [], []), (2, [], []), (2, [], []), (2, [], []), (2, [], []), (2, [], []), (2, [], []), (2, [], []), (2, [], []), (2, [], []), (2, [], []), (2, [], []), (2, [], []), (2, [], []), (2, [], []), (2, [], []), (2, [], []), (2, [], []), (2, [], []), (2, [], []), (2, [], []), (2, [], []), (2, [], []), (2, [], []), (2, [], []), (2, [], []), (2, [], []), (2, [], []), (2, [], []), (2, [], []), (2, [], []), (2, [], []), (2, [], []), (2, [], [])]
theorem K_267 {l : Launch} {D : va_G} {ca : Nat → ClassId} : KMet l D ca k_267 := K_gq (KS := [k_123, k_124, k_100, k_266]) (ini := false) (n := 21) (an := ak_267) h_105 rfl (by decide +kernel) (KS_cons K_123 (KS_cons K_124 (KS_cons K_100 (KS_cons K_266 KS_nil)))) (by decide +kernel)
def k_268 : eK := (272, ([((-2147483648), 0)], [.inl ([(0, 1)], 0), .inl ([], 1), .inl ([], 60)], [], 0), [([((-2147483648), 0)], some (.inl ([], 0)), [], 0)], 0, 0, 1)
def ak_268 : List eAn := [(0, [], [])]
theorem K_268 {l : Launch} {D : va_G} {ca : Nat → ClassId} : KMet l D ca k_268 := K_gq (KS := []) (ini := false) (n := 7) (an := ak_268) h_272 rfl (by decide +kernel) KS_nil (by decide +kernel)
def k_269 : eK := (309, ([((-2147483648), 0)], [.inr (.inr (some 0)), .inl ([(0, 1)], 0)], [(0, z_83)], 24), [([((-2147483648), 0)], some (.inl ([], (-1))), [], 24)], 0, 0, 2)
def ak_269 : List eAn := [(0, [([(0, 1)], 0)], []), (0, [], [])]
theorem K_269 {l : Launch} {D : va_G} {ca : Nat → ClassId} : KMet l D ca k_269 := K_gq (KS := [k_268]) (ini := false) (n := 12) (an := ak_269) h_309 rfl (by decide +kernel) (KS_cons K_268 KS_nil) (by decide +kernel)
def k_270 : eK := (272, ([(61, 2147483647)], [.inl ([(0, 1)], 0), .inl ([], 1), .inl ([], 60)], [], 0), [([(61, 2147483647)], some (.inl ([], 0)), [], 0)], 0, 0, 1)
def ak_270 : List eAn := [(0, [], [])]
theorem K_270 {l : Launch} {D : va_G} {ca : Nat → ClassId} : KMet l D ca k_270 := K_gq (KS := []) (ini := false) (n := 10) (an := ak_270) h_272 rfl (by decide +kernel) KS_nil (by decide +kernel)
def k_271 : eK := (309, ([(61, 2147483647)], [.inr (.inr (some 0)), .inl ([(0, 1)], 0)], [(0, z_83)], 24), [([(61, 2147483647)], some (.inl ([], (-1))), [], 24)], 0, 0, 2)
def ak_271 : List eAn := [(0, [([(0, 1)], 0)], []), (0, [], [])]
theorem K_271 {l : Launch} {D : va_G} {ca : Nat → ClassId} : KMet l D ca k_271 := K_gq (KS := [k_270]) (ini := false) (n := 12) (an := ak_271) h_309 rfl (by decide +kernel) (KS_cons K_270 KS_nil) (by decide +kernel)
def k_272 : eK := (272, ([(1, 60)], [.inl ([(0, 1)], 0), .inl ([], 1), .inl ([], 60)], [], 0), [([(1, 60)], some (.inl ([], 1)), [], 0)], 0, 0, 1)
def ak_272 : List eAn := [(0, [], [])]
theorem K_272 {l : Launch} {D : va_G} {ca : Nat → ClassId} : KMet l D ca k_272 := K_gq (KS := []) (ini := false) (n := 11) (an := ak_272) h_272 rfl (by decide +kernel) KS_nil (by decide +kernel)
def k_273 : eK := (311, ([(1, 60)], [.inl ([(0, 1)], 0), .inl ([], 400)], [], 0), [([(1, 60)], some (.inl ([(0, 1)], 0)), [], 0)], 0, 0, 1)
def ak_273 : List eAn := [(0, [], [])]
theorem K_273 {l : Launch} {D : va_G} {ca : Nat → ClassId} : KMet l D ca k_273 := K_gq (KS := []) (ini := false) (n := 8) (an := ak_273) h_311 rfl (by decide +kernel) KS_nil (by decide +kernel)
def k_274 : eK := (311, ([], [.inl ([], 99), .inl ([], 19)], [], 0), [([], some (.inl ([], 19)), [], 0)], 0, 0, 1)
def ak_274 : List eAn := [(0, [], [])]
theorem K_274 {l : Launch} {D : va_G} {ca : Nat → ClassId} : KMet l D ca k_274 := K_gq (KS := []) (ini := false) (n := 7) (an := ak_274) h_311 rfl (by decide +kernel) KS_nil (by decide +kernel)
def z_216 : eSC := .inr (.inl (1, 350, [(3, .inr (.inl ([], 0))), (1, .inr (.inl ([], 7))), (1, .inr (.inl ([], 3))), (1, .inr (.inl ([], 15))), (1, .inr (.inl ([], 0))), (1, .inr (.inl ([], 20))), (52, .inr (.inl ([], 0))), (1, .inr (.inl ([], (-1)))), (1, .inr (.inl ([], (-1)))), (1, .inr (.inl ([], (-1)))), (1, .inr (.inl ([], (-1)))), (1, .inr (.inl ([], (-1)))), (1, .inr (.inl ([], (-1)))), (7, .inr (.inl ([], 0))), (1, .inr (.inl ([], 20))), (1, .inr (.inl ([], 1))), (1, .inr (.inl ([], 1))), (6, .inr (.inl ([], 0))), (1, .inr (.inl ([], (-1)))), (1, .inr (.inl ([], (-1)))), (1, .inr (.inl ([], (-1)))), (1, .inr (.inl ([], (-1)))), (1, .inr (.inl ([], (-1)))), (1, .inr (.inl ([], (-1)))), (262, .inr (.inl ([], 0)))]))
def k_275 : eK := (313, ([], [.inr (.inr (some 0)), .inl ([], 0), .inl ([], 20), .inl ([], 1)], [(0, z_151), (2, z_216)], 24), [([], some (.inl ([], 19)), [(0, z_151), (2, z_216)], 24)], 0, 0, 2)
def ak_275 : List eAn := [(0, [], []), (0, [], [])]
theorem K_275 {l : Launch} {D : va_G} {ca : Nat → ClassId} : KMet l D ca k_275 := K_gq (KS := [k_274]) (ini := false) (n := 23) (an := ak_275) h_313 rfl (by decide +kernel) (KS_cons K_274 KS_nil) (by decide +kernel)
def z_217 : eSC := .inr (.inl (1, 350, [(3, .inr (.inl ([], 0))), (1, .inr (.inl ([], 7))), (1, .inr (.inl ([], 3))), (1, .inr (.inl ([], 15))), (1, .inr (.inl ([], 0))), (1, .inr (.inl ([], 20))), (52, .inr (.inl ([], 0))), (1, .inr (.inl ([], (-1)))), (1, .inr (.inl ([], (-1)))), (1, .inr (.inl ([], (-1)))), (1, .inr (.inl ([], (-1)))), (1, .inr (.inl ([], (-1)))), (1, .inr (.inl ([], (-1)))), (6, .inr (.inl ([], 0))), (1, .inr (.inl ([], 1))), (1, .inr (.inl ([], 19))), (1, .inr (.inl ([], 1))), (1, .inr (.inl ([], 1))), (6, .inr (.inl ([], 0))), (1, .inr (.inl ([], (-1)))), (1, .inr (.inl ([], (-1)))), (1, .inr (.inl ([], (-1)))), (1, .inr (.inl ([], (-1)))), (1, .inr (.inl ([], (-1)))), (1, .inr (.inl ([], (-1)))), (262, .inr (.inl ([], 0)))]))
def k_276 : eK := (312, ([], [.inr (.inr (some 0))], [(0, z_151), (2, z_88)], 24), [([], none, [(0, z_151), (2, z_217)], 24)], 0, 0, 3)
def ak_276 : List eAn := [(0, [], List.range 24), (0, [], [])]
theorem K_276 {l : Launch} {D : va_G} {ca : Nat → ClassId} : KMet l D ca k_276 := K_gq (KS := [k_275]) (ini := false) (n := 57) (an := ak_276) h_312 rfl (by decide +kernel) (KS_cons K_275 KS_nil) (by decide +kernel)
def k_277 : eK := (311, ([], [.inl ([], 99), .inl ([], 18)], [], 0), [([], some (.inl ([], 18)), [], 0)], 0, 0, 1)
def ak_277 : List eAn := [(0, [], [])]
theorem K_277 {l : Launch} {D : va_G} {ca : Nat → ClassId} : KMet l D ca k_277 := K_gq (KS := []) (ini := false) (n := 7) (an := ak_277) h_311 rfl (by decide +kernel) KS_nil (by decide +kernel)
def z_218 : eSC := .inr (.inl (1, 350, [(3, .inr (.inl ([], 0))), (1, .inr (.inl ([], 7))), (1, .inr (.inl ([], 3))), (1, .inr (.inl ([], 15))), (1, .inr (.inl ([], 0))), (1, .inr (.inl ([], 20))), (52, .inr (.inl ([], 0))), (1, .inr (.inl ([], (-1)))), (1, .inr (.inl ([], (-1)))), (1, .inr (.inl ([], (-1)))), (1, .inr (.inl ([], (-1)))), (1, .inr (.inl ([], (-1)))), (1, .inr (.inl ([], (-1)))), (6, .inr (.inl ([], 0))), (1, .inr (.inl ([], 1))), (1, .inr (.inl ([], 19))), (1, .inr (.inl ([], 1))), (1, .inr (.inl ([], 2))), (6, .inr (.inl ([], 0))), (1, .inr (.inl ([], (-1)))), (1, .inr (.inl ([], (-1)))), (1, .inr (.inl ([], (-1)))), (1, .inr (.inl ([], (-1)))), (1, .inr (.inl ([], (-1)))), (1, .inr (.inl ([], (-1)))), (262, .inr (.inl ([], 0)))]))
def k_278 : eK := (313, ([], [.inr (.inr (some 0)), .inl ([], 1), .inl ([], 19), .inl ([], 1)], [(0, z_151), (2, z_218)], 24), [([], some (.inl ([], 18)), [(0, z_151), (2, z_218)], 24)], 0, 0, 2)
def ak_278 : List eAn := [(0, [], []), (0, [], [])]
theorem K_278 {l : Launch} {D : va_G} {ca : Nat → ClassId} : KMet l D ca k_278 := K_gq (KS := [k_277]) (ini := false) (n := 23) (an := ak_278) h_313 rfl (by decide +kernel) (KS_cons K_277 KS_nil) (by decide +kernel)
def z_219 : eSC := .inr (.inl (1, 350, [(3, .inr (.inl ([], 0))), (1, .inr (.inl ([], 7))), (1, .inr (.inl ([], 3))), (1, .inr (.inl ([], 15))), (1, .inr (.inl ([], 0))), (1, .inr (.inl ([], 20))), (52, .inr (.inl ([], 0))), (1, .inr (.inl ([], (-1)))), (1, .inr (.inl ([], (-1)))), (1, .inr (.inl ([], (-1)))), (1, .inr (.inl ([], (-1)))), (1, .inr (.inl ([], (-1)))), (1, .inr (.inl ([], (-1)))), (6, .inr (.inl ([], 0))), (1, .inr (.inl ([], 2))), (1, .inr (.inl ([], 18))), (1, .inr (.inl ([], 1))), (1, .inr (.inl ([], 2))), (6, .inr (.inl ([], 0))), (1, .inr (.inl ([], (-1)))), (1, .inr (.inl ([], (-1)))), (1, .inr (.inl ([], (-1)))), (1, .inr (.inl ([], (-1)))), (1, .inr (.inl ([], (-1)))), (1, .inr (.inl ([], (-1)))), (262, .inr (.inl ([], 0)))]))
def k_279 : eK := (312, ([], [.inr (.inr (some 0))], [(0, z_151), (2, z_217)], 24), [([], none, [(0, z_151), (2, z_219)], 24)], 0, 0, 3)
def ak_279 : List eAn := [(0, [], List.range 24), (0, [], [])]
theorem K_279 {l : Launch} {D : va_G} {ca : Nat → ClassId} : KMet l D ca k_279 := K_gq (KS := [k_278]) (ini := false) (n := 57) (an := ak_279) h_312 rfl (by decide +kernel) (KS_cons K_278 KS_nil) (by decide +kernel)
def k_280 : eK := (311, ([], [.inl ([], 99), .inl ([], 17)], [], 0), [([], some (.inl ([], 17)), [], 0)], 0, 0, 1)
def ak_280 : List eAn := [(0, [], [])]
theorem K_280 {l : Launch} {D : va_G} {ca : Nat → ClassId} : KMet l D ca k_280 := K_gq (KS := []) (ini := false) (n := 7) (an := ak_280) h_311 rfl (by decide +kernel) KS_nil (by decide +kernel)
def z_220 : eSC := .inr (.inl (1, 350, [(3, .inr (.inl ([], 0))), (1, .inr (.inl ([], 7))), (1, .inr (.inl ([], 3))), (1, .inr (.inl ([], 15))), (1, .inr (.inl ([], 0))), (1, .inr (.inl ([], 20))), (52, .inr (.inl ([], 0))), (1, .inr (.inl ([], (-1)))), (1, .inr (.inl ([], (-1)))), (1, .inr (.inl ([], (-1)))), (1, .inr (.inl ([], (-1)))), (1, .inr (.inl ([], (-1)))), (1, .inr (.inl ([], (-1)))), (6, .inr (.inl ([], 0))), (1, .inr (.inl ([], 2))), (1, .inr (.inl ([], 18))), (1, .inr (.inl ([], 1))), (1, .inr (.inl ([], 3))), (6, .inr (.inl ([], 0))), (1, .inr (.inl ([], (-1)))), (1, .inr (.inl ([], (-1)))), (1, .inr (.inl ([], (-1)))), (1, .inr (.inl ([], (-1)))), (1, .inr (.inl ([], (-1)))), (1, .inr (.inl ([], (-1)))), (262, .inr (.inl ([], 0)))]))
def k_281 : eK := (313, ([], [.inr (.inr (some 0)), .inl ([], 2), .inl ([], 18), .inl ([], 1)], [(0, z_151), (2, z_220)], 24), [([], some (.inl ([], 17)), [(0, z_151), (2, z_220)], 24)], 0, 0, 2)
def ak_281 : List eAn := [(0, [], []), (0, [], [])]
theorem K_281 {l : Launch} {D : va_G} {ca : Nat → ClassId} : KMet l D ca k_281 := K_gq (KS := [k_280]) (ini := false) (n := 23) (an := ak_281) h_313 rfl (by decide +kernel) (KS_cons K_280 KS_nil) (by decide +kernel)
def z_221 : eSC := .inr (.inl (1, 350, [(3, .inr (.inl ([], 0))), (1, .inr (.inl ([], 7))), (1, .inr (.inl ([], 3))), (1, .inr (.inl ([], 15))), (1, .inr (.inl ([], 0))), (1, .inr (.inl ([], 20))), (52, .inr (.inl ([], 0))), (1, .inr (.inl ([], (-1)))), (1, .inr (.inl ([], (-1)))), (1, .inr (.inl ([], (-1)))), (1, .inr (.inl ([], (-1)))), (1, .inr (.inl ([], (-1)))), (1, .inr (.inl ([], (-1)))), (6, .inr (.inl ([], 0))), (1, .inr (.inl ([], 3))), (1, .inr (.inl ([], 17))), (1, .inr (.inl ([], 1))), (1, .inr (.inl ([], 3))), (6, .inr (.inl ([], 0))), (1, .inr (.inl ([], (-1)))), (1, .inr (.inl ([], (-1)))), (1, .inr (.inl ([], (-1)))), (1, .inr (.inl ([], (-1)))), (1, .inr (.inl ([], (-1)))), (1, .inr (.inl ([], (-1)))), (262, .inr (.inl ([], 0)))]))
def k_282 : eK := (312, ([], [.inr (.inr (some 0))], [(0, z_151), (2, z_219)], 24), [([], none, [(0, z_151), (2, z_221)], 24)], 0, 0, 3)
def ak_282 : List eAn := [(0, [], List.range 24), (0, [], [])]
theorem K_282 {l : Launch} {D : va_G} {ca : Nat → ClassId} : KMet l D ca k_282 := K_gq (KS := [k_281]) (ini := false) (n := 57) (an := ak_282) h_312 rfl (by decide +kernel) (KS_cons K_281 KS_nil) (by decide +kernel)
def k_283 : eK := (311, ([], [.inl ([], 99), .inl ([], 16)], [], 0), [([], some (.inl ([], 16)), [], 0)], 0, 0, 1)
def ak_283 : List eAn := [(0, [], [])]
theorem K_283 {l : Launch} {D : va_G} {ca : Nat → ClassId} : KMet l D ca k_283 := K_gq (KS := []) (ini := false) (n := 7) (an := ak_283) h_311 rfl (by decide +kernel) KS_nil (by decide +kernel)
def z_222 : eSC := .inr (.inl (1, 350, [(3, .inr (.inl ([], 0))), (1, .inr (.inl ([], 7))), (1, .inr (.inl ([], 3))), (1, .inr (.inl ([], 15))), (1, .inr (.inl ([], 0))), (1, .inr (.inl ([], 20))), (52, .inr (.inl ([], 0))), (1, .inr (.inl ([], (-1)))), (1, .inr (.inl ([], (-1)))), (1, .inr (.inl ([], (-1)))), (1, .inr (.inl ([], (-1)))), (1, .inr (.inl ([], (-1)))), (1, .inr (.inl ([], (-1)))), (6, .inr (.inl ([], 0))), (1, .inr (.inl ([], 3))), (1, .inr (.inl ([], 17))), (1, .inr (.inl ([], 1))), (1, .inr (.inl ([], 4))), (6, .inr (.inl ([], 0))), (1, .inr (.inl ([], (-1)))), (1, .inr (.inl ([], (-1)))), (1, .inr (.inl ([], (-1)))), (1, .inr (.inl ([], (-1)))), (1, .inr (.inl ([], (-1)))), (1, .inr (.inl ([], (-1)))), (262, .inr (.inl ([], 0)))]))
def k_284 : eK := (313, ([], [.inr (.inr (some 0)), .inl ([], 3), .inl ([], 17), .inl ([], 1)], [(0, z_151), (2, z_222)], 24), [([], some (.inl ([], 16)), [(0, z_151), (2, z_222)], 24)], 0, 0, 2)
def ak_284 : List eAn := [(0, [], []), (0, [], [])]
theorem K_284 {l : Launch} {D : va_G} {ca : Nat → ClassId} : KMet l D ca k_284 := K_gq (KS := [k_283]) (ini := false) (n := 23) (an := ak_284) h_313 rfl (by decide +kernel) (KS_cons K_283 KS_nil) (by decide +kernel)
def z_223 : eSC := .inr (.inl (1, 350, [(3, .inr (.inl ([], 0))), (1, .inr (.inl ([], 7))), (1, .inr (.inl ([], 3))), (1, .inr (.inl ([], 15))), (1, .inr (.inl ([], 0))), (1, .inr (.inl ([], 20))), (52, .inr (.inl ([], 0))), (1, .inr (.inl ([], (-1)))), (1, .inr (.inl ([], (-1)))), (1, .inr (.inl ([], (-1)))), (1, .inr (.inl ([], (-1)))), (1, .inr (.inl ([], (-1)))), (1, .inr (.inl ([], (-1)))), (6, .inr (.inl ([], 0))), (1, .inr (.inl ([], 4))), (1, .inr (.inl ([], 16))), (1, .inr (.inl ([], 1))), (1, .inr (.inl ([], 4))), (6, .inr (.inl ([], 0))), (1, .inr (.inl ([], (-1)))), (1, .inr (.inl ([], (-1)))), (1, .inr (.inl ([], (-1)))), (1, .inr (.inl ([], (-1)))), (1, .inr (.inl ([], (-1)))), (1, .inr (.inl ([], (-1)))), (262, .inr (.inl ([], 0)))]))
def k_285 : eK := (312, ([], [.inr (.inr (some 0))], [(0, z_151), (2, z_221)], 24), [([], none, [(0, z_151), (2, z_223)], 24)], 0, 0, 3)
def ak_285 : List eAn := [(0, [], List.range 24), (0, [], [])]
theorem K_285 {l : Launch} {D : va_G} {ca : Nat → ClassId} : KMet l D ca k_285 := K_gq (KS := [k_284]) (ini := false) (n := 57) (an := ak_285) h_312 rfl (by decide +kernel) (KS_cons K_284 KS_nil) (by decide +kernel)
def k_286 : eK := (311, ([], [.inl ([], 99), .inl ([], 15)], [], 0), [([], some (.inl ([], 15)), [], 0)], 0, 0, 1)
def ak_286 : List eAn := [(0, [], [])]
theorem K_286 {l : Launch} {D : va_G} {ca : Nat → ClassId} : KMet l D ca k_286 := K_gq (KS := []) (ini := false) (n := 7) (an := ak_286) h_311 rfl (by decide +kernel) KS_nil (by decide +kernel)
def z_224 : eSC := .inr (.inl (1, 350, [(3, .inr (.inl ([], 0))), (1, .inr (.inl ([], 7))), (1, .inr (.inl ([], 3))), (1, .inr (.inl ([], 15))), (1, .inr (.inl ([], 0))), (1, .inr (.inl ([], 20))), (52, .inr (.inl ([], 0))), (1, .inr (.inl ([], (-1)))), (1, .inr (.inl ([], (-1)))), (1, .inr (.inl ([], (-1)))), (1, .inr (.inl ([], (-1)))), (1, .inr (.inl ([], (-1)))), (1, .inr (.inl ([], (-1)))), (6, .inr (.inl ([], 0))), (1, .inr (.inl ([], 4))), (1, .inr (.inl ([], 16))), (1, .inr (.inl ([], 1))), (1, .inr (.inl ([], 5))), (6, .inr (.inl ([], 0))), (1, .inr (.inl ([], (-1)))), (1, .inr (.inl ([], (-1)))), (1, .inr (.inl ([], (-1)))), (1, .inr (.inl ([], (-1)))), (1, .inr (.inl ([], (-1)))), (1, .inr (.inl ([], (-1)))), (262, .inr (.inl ([], 0)))]))
def k_287 : eK := (313, ([], [.inr (.inr (some 0)), .inl ([], 4), .inl ([], 16), .inl ([], 1)], [(0, z_151), (2, z_224)], 24), [([], some (.inl ([], 15)), [(0, z_151), (2, z_224)], 24)], 0, 0, 2)
def ak_287 : List eAn := [(0, [], []), (0, [], [])]
theorem K_287 {l : Launch} {D : va_G} {ca : Nat → ClassId} : KMet l D ca k_287 := K_gq (KS := [k_286]) (ini := false) (n := 23) (an := ak_287) h_313 rfl (by decide +kernel) (KS_cons K_286 KS_nil) (by decide +kernel)
def z_225 : eSC := .inr (.inl (1, 350, [(3, .inr (.inl ([], 0))), (1, .inr (.inl ([], 7))), (1, .inr (.inl ([], 3))), (1, .inr (.inl ([], 15))), (1, .inr (.inl ([], 0))), (1, .inr (.inl ([], 20))), (52, .inr (.inl ([], 0))), (1, .inr (.inl ([], (-1)))), (1, .inr (.inl ([], (-1)))), (1, .inr (.inl ([], (-1)))), (1, .inr (.inl ([], (-1)))), (1, .inr (.inl ([], (-1)))), (1, .inr (.inl ([], (-1)))), (6, .inr (.inl ([], 0))), (1, .inr (.inl ([], 5))), (1, .inr (.inl ([], 15))), (1, .inr (.inl ([], 1))), (1, .inr (.inl ([], 5))), (6, .inr (.inl ([], 0))), (1, .inr (.inl ([], (-1)))), (1, .inr (.inl ([], (-1)))), (1, .inr (.inl ([], (-1)))), (1, .inr (.inl ([], (-1)))), (1, .inr (.inl ([], (-1)))), (1, .inr (.inl ([], (-1)))), (262, .inr (.inl ([], 0)))]))
def k_288 : eK := (312, ([], [.inr (.inr (some 0))], [(0, z_151), (2, z_223)], 24), [([], none, [(0, z_151), (2, z_225)], 24)], 0, 0, 3)
def ak_288 : List eAn := [(0, [], List.range 24), (0, [], [])]
theorem K_288 {l : Launch} {D : va_G} {ca : Nat → ClassId} : KMet l D ca k_288 := K_gq (KS := [k_287]) (ini := false) (n := 57) (an := ak_288) h_312 rfl (by decide +kernel) (KS_cons K_287 KS_nil) (by decide +kernel)
def k_289 : eK := (311, ([], [.inl ([], 99), .inl ([], 14)], [], 0), [([], some (.inl ([], 14)), [], 0)], 0, 0, 1)
def ak_289 : List eAn := [(0, [], [])]
theorem K_289 {l : Launch} {D : va_G} {ca : Nat → ClassId} : KMet l D ca k_289 := K_gq (KS := []) (ini := false) (n := 7) (an := ak_289) h_311 rfl (by decide +kernel) KS_nil (by decide +kernel)
def z_226 : eSC := .inr (.inl (1, 350, [(3, .inr (.inl ([], 0))), (1, .inr (.inl ([], 7))), (1, .inr (.inl ([], 3))), (1, .inr (.inl ([], 15))), (1, .inr (.inl ([], 0))), (1, .inr (.inl ([], 20))), (52, .inr (.inl ([], 0))), (1, .inr (.inl ([], (-1)))), (1, .inr (.inl ([], (-1)))), (1, .inr (.inl ([], (-1)))), (1, .inr (.inl ([], (-1)))), (1, .inr (.inl ([], (-1)))), (1, .inr (.inl ([], (-1)))), (6, .inr (.inl ([], 0))), (1, .inr (.inl ([], 5))), (1, .inr (.inl ([], 15))), (1, .inr (.inl ([], 1))), (1, .inr (.inl ([], 6))), (6, .inr (.inl ([], 0))), (1, .inr (.inl ([], (-1)))), (1, .inr (.inl ([], (-1)))), (1, .inr (.inl ([], (-1)))), (1, .inr (.inl ([], (-1)))), (1, .inr (.inl ([], (-1)))), (1, .inr (.inl ([], (-1)))), (262, .inr (.inl ([], 0)))]))
def k_290 : eK := (313, ([], [.inr (.inr (some 0)), .inl ([], 5), .inl ([], 15), .inl ([], 1)], [(0, z_151), (2, z_226)], 24), [([], some (.inl ([], 14)), [(0, z_151), (2, z_226)], 24)], 0, 0, 2)
def ak_290 : List eAn := [(0, [], []), (0, [], [])]
theorem K_290 {l : Launch} {D : va_G} {ca : Nat → ClassId} : KMet l D ca k_290 := K_gq (KS := [k_289]) (ini := false) (n := 23) (an := ak_290) h_313 rfl (by decide +kernel) (KS_cons K_289 KS_nil) (by decide +kernel)
def z_227 : eSC := .inr (.inl (1, 350, [(3, .inr (.inl ([], 0))), (1, .inr (.inl ([], 7))), (1, .inr (.inl ([], 3))), (1, .inr (.inl ([], 15))), (1, .inr (.inl ([], 0))), (1, .inr (.inl ([], 20))), (52, .inr (.inl ([], 0))), (1, .inr (.inl ([], (-1)))), (1, .inr (.inl ([], (-1)))), (1, .inr (.inl ([], (-1)))), (1, .inr (.inl ([], (-1)))), (1, .inr (.inl ([], (-1)))), (1, .inr (.inl ([], (-1)))), (6, .inr (.inl ([], 0))), (1, .inr (.inl ([], 6))), (1, .inr (.inl ([], 14))), (1, .inr (.inl ([], 1))), (1, .inr (.inl ([], 6))), (6, .inr (.inl ([], 0))), (1, .inr (.inl ([], (-1)))), (1, .inr (.inl ([], (-1)))), (1, .inr (.inl ([], (-1)))), (1, .inr (.inl ([], (-1)))), (1, .inr (.inl ([], (-1)))), (1, .inr (.inl ([], (-1)))), (262, .inr (.inl ([], 0)))]))
def k_291 : eK := (312, ([], [.inr (.inr (some 0))], [(0, z_151), (2, z_225)], 24), [([], none, [(0, z_151), (2, z_227)], 24)], 0, 0, 3)
def ak_291 : List eAn := [(0, [], List.range 24), (0, [], [])]
theorem K_291 {l : Launch} {D : va_G} {ca : Nat → ClassId} : KMet l D ca k_291 := K_gq (KS := [k_290]) (ini := false) (n := 57) (an := ak_291) h_312 rfl (by decide +kernel) (KS_cons K_290 KS_nil) (by decide +kernel)
def k_292 : eK := (313, ([], [.inr (.inr (some 0)), .inl ([], 6), .inl ([], 14), .inl ([], 1)], [(0, z_151), (2, z_227)], 24), [([], some (.inl ([], 16)), [(0, z_151), (2, z_227)], 24)], 0, 0, 2)
def ak_292 : List eAn := [(0, [], []), (0, [], [])]
theorem K_292 {l : Launch} {D : va_G} {ca : Nat → ClassId} : KMet l D ca k_292 := K_gq (KS := [k_283]) (ini := false) (n := 27) (an := ak_292) h_313 rfl (by decide +kernel) (KS_cons K_283 KS_nil) (by decide +kernel)
def z_228 : eSC := .inr (.inl (1, 350, [(3, .inr (.inl ([], 0))), (1, .inr (.inl ([], 7))), (1, .inr (.inl ([], 3))), (1, .inr (.inl ([], 15))), (1, .inr (.inl ([], 0))), (1, .inr (.inl ([], 20))), (52, .inr (.inl ([], 0))), (1, .inr (.inl ([], (-1)))), (1, .inr (.inl ([], (-1)))), (1, .inr (.inl ([], (-1)))), (1, .inr (.inl ([], (-1)))), (1, .inr (.inl ([], (-1)))), (1, .inr (.inl ([], (-1)))), (6, .inr (.inl ([], 0))), (1, .inr (.inl ([], 7))), (1, .inr (.inl ([], 16))), (1, .inr (.inl ([], 1))), (1, .inr (.inl ([], 6))), (6, .inr (.inl ([], 0))), (1, .inr (.inl ([], (-1)))), (1, .inr (.inl ([], (-1)))), (1, .inr (.inl ([], (-1)))), (1, .inr (.inl ([], (-1)))), (1, .inr (.inl ([], (-1)))), (1, .inr (.inl ([], (-1)))), (262, .inr (.inl ([], 0)))]))
def k_293 : eK := (312, ([], [.inr (.inr (some 0))], [(0, z_151), (2, z_227)], 24), [([], none, [(0, z_151), (2, z_228)], 24)], 0, 0, 3)
def ak_293 : List eAn := [(0, [], List.range 24), (0, [], [])]
theorem K_293 {l : Launch} {D : va_G} {ca : Nat → ClassId} : KMet l D ca k_293 := K_gq (KS := [k_292]) (ini := false) (n := 46) (an := ak_293) h_312 rfl (by decide +kernel) (KS_cons K_292 KS_nil) (by decide +kernel)
def z_229 : eSC := .inr (.inl (1, 350, [(3, .inr (.inl ([], 0))), (1, .inr (.inl ([], 7))), (1, .inr (.inl ([], 3))), (1, .inr (.inl ([], 15))), (1, .inr (.inl ([], 0))), (1, .inr (.inl ([], 20))), (52, .inr (.inl ([], 0))), (1, .inr (.inl ([], (-1)))), (1, .inr (.inl ([], (-1)))), (1, .inr (.inl ([], (-1)))), (1, .inr (.inl ([], (-1)))), (1, .inr (.inl ([], (-1)))), (1, .inr (.inl ([], (-1)))), (6, .inr (.inl ([], 0))), (1, .inr (.inl ([], 7))), (1, .inr (.inl ([], 16))), (1, .inr (.inl ([], 1))), (1, .inr (.inl ([], 7))), (6, .inr (.inl ([], 0))), (1, .inr (.inl ([], (-1)))), (1, .inr (.inl ([], (-1)))), (1, .inr (.inl ([], (-1)))), (1, .inr (.inl ([], (-1)))), (1, .inr (.inl ([], (-1)))), (1, .inr (.inl ([], (-1)))), (262, .inr (.inl ([], 0)))]))
def k_294 : eK := (313, ([], [.inr (.inr (some 0)), .inl ([], 7), .inl ([], 16), .inl ([], 1)], [(0, z_151), (2, z_229)], 24), [([], some (.inl ([], 15)), [(0, z_151), (2, z_229)], 24)], 0, 0, 2)
def ak_294 : List eAn := [(0, [], []), (0, [], [])]
theorem K_294 {l : Launch} {D : va_G} {ca : Nat → ClassId} : KMet l D ca k_294 := K_gq (KS := [k_286]) (ini := false) (n := 23) (an := ak_294) h_313 rfl (by decide +kernel) (KS_cons K_286 KS_nil) (by decide +kernel)
def z_230 : eSC := .inr (.inl (1, 350, [(3, .inr (.inl ([], 0))), (1, .inr (.inl ([], 7))), (1, .inr (.inl ([], 3))), (1, .inr (.inl ([], 15))), (1, .inr (.inl ([], 0))), (1, .inr (.inl ([], 20))), (52, .inr (.inl ([], 0))), (1, .inr (.inl ([], (-1)))), (1, .inr (.inl ([], (-1)))), (1, .inr (.inl ([], (-1)))), (1, .inr (.inl ([], (-1)))), (1, .inr (.inl ([], (-1)))), (1, .inr (.inl ([], (-1)))), (6, .inr (.inl ([], 0))), (1, .inr (.inl ([], 8))), (1, .inr (.inl ([], 15))), (1, .inr (.inl ([], 1))), (1, .inr (.inl ([], 7))), (6, .inr (.inl ([], 0))), (1, .inr (.inl ([], (-1)))), (1, .inr (.inl ([], (-1)))), (1, .inr (.inl ([], (-1)))), (1, .inr (.inl ([], (-1)))), (1, .inr (.inl ([], (-1)))), (1, .inr (.inl ([], (-1)))), (262, .inr (.inl ([], 0)))]))
def k_295 : eK := (312, ([], [.inr (.inr (some 0))], [(0, z_151), (2, z_228)], 24), [([], none, [(0, z_151), (2, z_230)], 24)], 0, 0, 3)
def ak_295 : List eAn := [(0, [], List.range 24), (0, [], [])]
theorem K_295 {l : Launch} {D : va_G} {ca : Nat → ClassId} : KMet l D ca k_295 := K_gq (KS := [k_294]) (ini := false) (n := 57) (an := ak_295) h_312 rfl (by decide +kernel) (KS_cons K_294 KS_nil) (by decide +kernel)
def z_231 : eSC := .inr (.inl (1, 350, [(3, .inr (.inl ([], 0))), (1, .inr (.inl ([], 7))), (1, .inr (.inl ([], 3))), (1, .inr (.inl ([], 15))), (1, .inr (.inl ([], 0))), (1, .inr (.inl ([], 20))), (52, .inr (.inl ([], 0))), (1, .inr (.inl ([], (-1)))), (1, .inr (.inl ([], (-1)))), (1, .inr (.inl ([], (-1)))), (1, .inr (.inl ([], (-1)))), (1, .inr (.inl ([], (-1)))), (1, .inr (.inl ([], (-1)))), (6, .inr (.inl ([], 0))), (1, .inr (.inl ([], 8))), (1, .inr (.inl ([], 15))), (1, .inr (.inl ([], 1))), (1, .inr (.inl ([], 8))), (6, .inr (.inl ([], 0))), (1, .inr (.inl ([], (-1)))), (1, .inr (.inl ([], (-1)))), (1, .inr (.inl ([], (-1)))), (1, .inr (.inl ([], (-1)))), (1, .inr (.inl ([], (-1)))), (1, .inr (.inl ([], (-1)))), (262, .inr (.inl ([], 0)))]))
def k_296 : eK := (313, ([], [.inr (.inr (some 0)), .inl ([], 8), .inl ([], 15), .inl ([], 1)], [(0, z_151), (2, z_231)], 24), [([], some (.inl ([], 14)), [(0, z_151), (2, z_231)], 24)], 0, 0, 2)
def ak_296 : List eAn := [(0, [], []), (0, [], [])]
theorem K_296 {l : Launch} {D : va_G} {ca : Nat → ClassId} : KMet l D ca k_296 := K_gq (KS := [k_289]) (ini := false) (n := 23) (an := ak_296) h_313 rfl (by decide +kernel) (KS_cons K_289 KS_nil) (by decide +kernel)
def z_232 : eSC := .inr (.inl (1, 350, [(3, .inr (.inl ([], 0))), (1, .inr (.inl ([], 7))), (1, .inr (.inl ([], 3))), (1, .inr (.inl ([], 15))), (1, .inr (.inl ([], 0))), (1, .inr (.inl ([], 20))), (52, .inr (.inl ([], 0))), (1, .inr (.inl ([], (-1)))), (1, .inr (.inl ([], (-1)))), (1, .inr (.inl ([], (-1)))), (1, .inr (.inl ([], (-1)))), (1, .inr (.inl ([], (-1)))), (1, .inr (.inl ([], (-1)))), (6, .inr (.inl ([], 0))), (1, .inr (.inl ([], 9))), (1, .inr (.inl ([], 14))), (1, .inr (.inl ([], 1))), (1, .inr (.inl ([], 8))), (6, .inr (.inl ([], 0))), (1, .inr (.inl ([], (-1)))), (1, .inr (.inl ([], (-1)))), (1, .inr (.inl ([], (-1)))), (1, .inr (.inl ([], (-1)))), (1, .inr (.inl ([], (-1)))), (1, .inr (.inl ([], (-1)))), (262, .inr (.inl ([], 0)))]))
def k_297 : eK := (312, ([], [.inr (.inr (some 0))], [(0, z_151), (2, z_230)], 24), [([], none, [(0, z_151), (2, z_232)], 24)], 0, 0, 3)
def ak_297 : List eAn := [(0, [], List.range 24), (0, [], [])]
theorem K_297 {l : Launch} {D : va_G} {ca : Nat → ClassId} : KMet l D ca k_297 := K_gq (KS := [k_296]) (ini := false) (n := 57) (an := ak_297) h_312 rfl (by decide +kernel) (KS_cons K_296 KS_nil) (by decide +kernel)
def k_298 : eK := (311, ([], [.inl ([], 99), .inl ([], 13)], [], 0), [([], some (.inl ([], 13)), [], 0)], 0, 0, 1)
def ak_298 : List eAn := [(0, [], [])]
theorem K_298 {l : Launch} {D : va_G} {ca : Nat → ClassId} : KMet l D ca k_298 := K_gq (KS := []) (ini := false) (n := 7) (an := ak_298) h_311 rfl (by decide +kernel) KS_nil (by decide +kernel)
def k_299 : eK := (313, ([], [.inr (.inr (some 0)), .inl ([], 9), .inl ([], 14), .inl ([], 1)], [(0, z_151), (2, z_232)], 24), [([], some (.inl ([], 13)), [(0, z_151), (2, z_232)], 24)], 0, 0, 2)
def ak_299 : List eAn := [(0, [], []), (0, [], [])]
theorem K_299 {l : Launch} {D : va_G} {ca : Nat → ClassId} : KMet l D ca k_299 := K_gq (KS := [k_298]) (ini := false) (n := 23) (an := ak_299) h_313 rfl (by decide +kernel) (KS_cons K_298 KS_nil) (by decide +kernel)
def z_233 : eSC := .inr (.inl (1, 350, [(3, .inr (.inl ([], 0))), (1, .inr (.inl ([], 7))), (1, .inr (.inl ([], 3))), (1, .inr (.inl ([], 15))), (1, .inr (.inl ([], 0))), (1, .inr (.inl ([], 20))), (52, .inr (.inl ([], 0))), (1, .inr (.inl ([], (-1)))), (1, .inr (.inl ([], (-1)))), (1, .inr (.inl ([], (-1)))), (1, .inr (.inl ([], (-1)))), (1, .inr (.inl ([], (-1)))), (1, .inr (.inl ([], (-1)))), (6, .inr (.inl ([], 0))), (1, .inr (.inl ([], 10))), (1, .inr (.inl ([], 13))), (1, .inr (.inl ([], 1))), (1, .inr (.inl ([], 8))), (6, .inr (.inl ([], 0))), (1, .inr (.inl ([], (-1)))), (1, .inr (.inl ([], (-1)))), (1, .inr (.inl ([], (-1)))), (1, .inr (.inl ([], (-1)))), (1, .inr (.inl ([], (-1)))), (1, .inr (.inl ([], (-1)))), (262, .inr (.inl ([], 0)))]))
def k_300 : eK := (312, ([], [.inr (.inr (some 0))], [(0, z_151), (2, z_232)], 24), [([], none, [(0, z_151), (2, z_233)], 24)], 0, 0, 3)
def ak_300 : List eAn := [(0, [], List.range 24), (0, [], [])]
theorem K_300 {l : Launch} {D : va_G} {ca : Nat → ClassId} : KMet l D ca k_300 := K_gq (KS := [k_299]) (ini := false) (n := 46) (an := ak_300) h_312 rfl (by decide +kernel) (KS_cons K_299 KS_nil) (by decide +kernel)
def k_301 : eK := (311, ([], [.inl ([], 99), .inl ([], 12)], [], 0), [([], some (.inl ([], 12)), [], 0)], 0, 0, 1)
def ak_301 : List eAn := [(0, [], [])]
theorem K_301 {l : Launch} {D : va_G} {ca : Nat → ClassId} : KMet l D ca k_301 := K_gq (KS := []) (ini := false) (n := 7) (an := ak_301) h_311 rfl (by decide +kernel) KS_nil (by decide +kernel)
def k_302 : eK := (313, ([], [.inr (.inr (some 0)), .inl ([], 10), .inl ([], 13), .inl ([], 1)], [(0, z_151), (2, z_233)], 24), [([], some (.inl ([], 12)), [(0, z_151), (2, z_233)], 24)], 0, 0, 2)
def ak_302 : List eAn := [(0, [], []), (0, [], [])]
theorem K_302 {l : Launch} {D : va_G} {ca : Nat → ClassId} : KMet l D ca k_302 := K_gq (KS := [k_301]) (ini := false) (n := 23) (an := ak_302) h_313 rfl (by decide +kernel) (KS_cons K_301 KS_nil) (by decide +kernel)
def z_234 : eSC := .inr (.inl (1, 350, [(3, .inr (.inl ([], 0))), (1, .inr (.inl ([], 7))), (1, .inr (.inl ([], 3))), (1, .inr (.inl ([], 15))), (1, .inr (.inl ([], 0))), (1, .inr (.inl ([], 20))), (52, .inr (.inl ([], 0))), (1, .inr (.inl ([], (-1)))), (1, .inr (.inl ([], (-1)))), (1, .inr (.inl ([], (-1)))), (1, .inr (.inl ([], (-1)))), (1, .inr (.inl ([], (-1)))), (1, .inr (.inl ([], (-1)))), (6, .inr (.inl ([], 0))), (1, .inr (.inl ([], 11))), (1, .inr (.inl ([], 12))), (1, .inr (.inl ([], 1))), (1, .inr (.inl ([], 8))), (6, .inr (.inl ([], 0))), (1, .inr (.inl ([], (-1)))), (1, .inr (.inl ([], (-1)))), (1, .inr (.inl ([], (-1)))), (1, .inr (.inl ([], (-1)))), (1, .inr (.inl ([], (-1)))), (1, .inr (.inl ([], (-1)))), (262, .inr (.inl ([], 0)))]))
def k_303 : eK := (312, ([], [.inr (.inr (some 0))], [(0, z_151), (2, z_233)], 24), [([], none, [(0, z_151), (2, z_234)], 24)], 0, 0, 3)
def ak_303 : List eAn := [(0, [], List.range 24), (0, [], [])]
theorem K_303 {l : Launch} {D : va_G} {ca : Nat → ClassId} : KMet l D ca k_303 := K_gq (KS := [k_302]) (ini := false) (n := 46) (an := ak_303) h_312 rfl (by decide +kernel) (KS_cons K_302 KS_nil) (by decide +kernel)
def k_304 : eK := (311, ([], [.inl ([], 99), .inl ([], 11)], [], 0), [([], some (.inl ([], 11)), [], 0)], 0, 0, 1)
def ak_304 : List eAn := [(0, [], [])]
theorem K_304 {l : Launch} {D : va_G} {ca : Nat → ClassId} : KMet l D ca k_304 := K_gq (KS := []) (ini := false) (n := 7) (an := ak_304) h_311 rfl (by decide +kernel) KS_nil (by decide +kernel)
def k_305 : eK := (313, ([], [.inr (.inr (some 0)), .inl ([], 11), .inl ([], 12), .inl ([], 1)], [(0, z_151), (2, z_234)], 24), [([], some (.inl ([], 11)), [(0, z_151), (2, z_234)], 24)], 0, 0, 2)
def ak_305 : List eAn := [(0, [], []), (0, [], [])]
theorem K_305 {l : Launch} {D : va_G} {ca : Nat → ClassId} : KMet l D ca k_305 := K_gq (KS := [k_304]) (ini := false) (n := 23) (an := ak_305) h_313 rfl (by decide +kernel) (KS_cons K_304 KS_nil) (by decide +kernel)
def z_235 : eSC := .inr (.inl (1, 350, [(3, .inr (.inl ([], 0))), (1, .inr (.inl ([], 7))), (1, .inr (.inl ([], 3))), (1, .inr (.inl ([], 15))), (1, .inr (.inl ([], 0))), (1, .inr (.inl ([], 20))), (52, .inr (.inl ([], 0))), (1, .inr (.inl ([], (-1)))), (1, .inr (.inl ([], (-1)))), (1, .inr (.inl ([], (-1)))), (1, .inr (.inl ([], (-1)))), (1, .inr (.inl ([], (-1)))), (1, .inr (.inl ([], (-1)))), (6, .inr (.inl ([], 0))), (1, .inr (.inl ([], 12))), (1, .inr (.inl ([], 11))), (1, .inr (.inl ([], 1))), (1, .inr (.inl ([], 8))), (6, .inr (.inl ([], 0))), (1, .inr (.inl ([], (-1)))), (1, .inr (.inl ([], (-1)))), (1, .inr (.inl ([], (-1)))), (1, .inr (.inl ([], (-1)))), (1, .inr (.inl ([], (-1)))), (1, .inr (.inl ([], (-1)))), (262, .inr (.inl ([], 0)))]))
def k_306 : eK := (312, ([], [.inr (.inr (some 0))], [(0, z_151), (2, z_234)], 24), [([], none, [(0, z_151), (2, z_235)], 24)], 0, 0, 3)
def ak_306 : List eAn := [(0, [], List.range 24), (0, [], [])]
theorem K_306 {l : Launch} {D : va_G} {ca : Nat → ClassId} : KMet l D ca k_306 := K_gq (KS := [k_305]) (ini := false) (n := 46) (an := ak_306) h_312 rfl (by decide +kernel) (KS_cons K_305 KS_nil) (by decide +kernel)
def k_307 : eK := (311, ([], [.inl ([], 99), .inl ([], 10)], [], 0), [([], some (.inl ([], 10)), [], 0)], 0, 0, 1)
def ak_307 : List eAn := [(0, [], [])]
theorem K_307 {l : Launch} {D : va_G} {ca : Nat → ClassId} : KMet l D ca k_307 := K_gq (KS := []) (ini := false) (n := 7) (an := ak_307) h_311 rfl (by decide +kernel) KS_nil (by decide +kernel)
def k_308 : eK := (313, ([], [.inr (.inr (some 0)), .inl ([], 12), .inl ([], 11), .inl ([], 1)], [(0, z_151), (2, z_235)], 24), [([], some (.inl ([], 10)), [(0, z_151), (2, z_235)], 24)], 0, 0, 2)
def ak_308 : List eAn := [(0, [], []), (0, [], [])]
theorem K_308 {l : Launch} {D : va_G} {ca : Nat → ClassId} : KMet l D ca k_308 := K_gq (KS := [k_307]) (ini := false) (n := 23) (an := ak_308) h_313 rfl (by decide +kernel) (KS_cons K_307 KS_nil) (by decide +kernel)
def z_236 : eSC := .inr (.inl (1, 350, [(3, .inr (.inl ([], 0))), (1, .inr (.inl ([], 7))), (1, .inr (.inl ([], 3))), (1, .inr (.inl ([], 15))), (1, .inr (.inl ([], 0))), (1, .inr (.inl ([], 20))), (52, .inr (.inl ([], 0))), (1, .inr (.inl ([], (-1)))), (1, .inr (.inl ([], (-1)))), (1, .inr (.inl ([], (-1)))), (1, .inr (.inl ([], (-1)))), (1, .inr (.inl ([], (-1)))), (1, .inr (.inl ([], (-1)))), (6, .inr (.inl ([], 0))), (1, .inr (.inl ([], 13))), (1, .inr (.inl ([], 10))), (1, .inr (.inl ([], 1))), (1, .inr (.inl ([], 8))), (6, .inr (.inl ([], 0))), (1, .inr (.inl ([], (-1)))), (1, .inr (.inl ([], (-1)))), (1, .inr (.inl ([], (-1)))), (1, .inr (.inl ([], (-1)))), (1, .inr (.inl ([], (-1)))), (1, .inr (.inl ([], (-1)))), (262, .inr (.inl ([], 0)))]))
def k_309 : eK := (312, ([], [.inr (.inr (some 0))], [(0, z_151), (2, z_235)], 24), [([], none, [(0, z_151), (2, z_236)], 24)], 0, 0, 3)
def ak_309 : List eAn := [(0, [], List.range 24), (0, [], [])]
theorem K_309 {l : Launch} {D : va_G} {ca : Nat → ClassId} : KMet l D ca k_309 := K_gq (KS := [k_308]) (ini := false) (n := 46) (an := ak_309) h_312 rfl (by decide +kernel) (KS_cons K_308 KS_nil) (by decide +kernel)
def k_310 : eK := (313, ([], [.inr (.inr (some 0)), .inl ([], 13), .inl ([], 10), .inl ([], 1)], [(0, z_151), (2, z_236)], 24), [([], some (.inl ([], 12)), [(0, z_151), (2, z_236)], 24)], 0, 0, 2)
def ak_310 : List eAn := [(0, [], []), (0, [], [])]
theorem K_310 {l : Launch} {D : va_G} {ca : Nat → ClassId} : KMet l D ca k_310 := K_gq (KS := [k_301]) (ini := false) (n := 27) (an := ak_310) h_313 rfl (by decide +kernel) (KS_cons K_301 KS_nil) (by decide +kernel)
def z_237 : eSC := .inr (.inl (1, 350, [(3, .inr (.inl ([], 0))), (1, .inr (.inl ([], 7))), (1, .inr (.inl ([], 3))), (1, .inr (.inl ([], 15))), (1, .inr (.inl ([], 0))), (1, .inr (.inl ([], 20))), (52, .inr (.inl ([], 0))), (1, .inr (.inl ([], (-1)))), (1, .inr (.inl ([], (-1)))), (1, .inr (.inl ([], (-1)))), (1, .inr (.inl ([], (-1)))), (1, .inr (.inl ([], (-1)))), (1, .inr (.inl ([], (-1)))), (6, .inr (.inl ([], 0))), (1, .inr (.inl ([], 14))), (1, .inr (.inl ([], 12))), (1, .inr (.inl ([], 1))), (1, .inr (.inl ([], 8))), (6, .inr (.inl ([], 0))), (1, .inr (.inl ([], (-1)))), (1, .inr (.inl ([], (-1)))), (1, .inr (.inl ([], (-1)))), (1, .inr (.inl ([], (-1)))), (1, .inr (.inl ([], (-1)))), (1, .inr (.inl ([], (-1)))), (262, .inr (.inl ([], 0)))]))
def k_311 : eK := (312, ([], [.inr (.inr (some 0))], [(0, z_151), (2, z_236)], 24), [([], none, [(0, z_151), (2, z_237)], 24)], 0, 0, 3)
def ak_311 : List eAn := [(0, [], List.range 24), (0, [], [])]
theorem K_311 {l : Launch} {D : va_G} {ca : Nat → ClassId} : KMet l D ca k_311 := K_gq (KS := [k_310]) (ini := false) (n := 46) (an := ak_311) h_312 rfl (by decide +kernel) (KS_cons K_310 KS_nil) (by decide +kernel)
def k_312 : eK := (313, ([], [.inr (.inr (some 0)), .inl ([], 14), .inl ([], 12), .inl ([], 1)], [(0, z_151), (2, z_237)], 24), [([], some (.inl ([], 11)), [(0, z_151), (2, z_237)], 24)], 0, 0, 2)
def ak_312 : List eAn := [(0, [], []), (0, [], [])]
theorem K_312 {l : Launch} {D : va_G} {ca : Nat → ClassId} : KMet l D ca k_312 := K_gq (KS := [k_304]) (ini := false) (n := 23) (an := ak_312) h_313 rfl (by decide +kernel) (KS_cons K_304 KS_nil) (by decide +kernel)
def z_238 : eSC := .inr (.inl (1, 350, [(3, .inr (.inl ([], 0))), (1, .inr (.inl ([], 7))), (1, .inr (.inl ([], 3))), (1, .inr (.inl ([], 15))), (1, .inr (.inl ([], 0))), (1, .inr (.inl ([], 20))), (52, .inr (.inl ([], 0))), (1, .inr (.inl ([], (-1)))), (1, .inr (.inl ([], (-1)))), (1, .inr (.inl ([], (-1)))), (1, .inr (.inl ([], (-1)))), (1, .inr (.inl ([], (-1)))), (1, .inr (.inl ([], (-1)))), (6, .inr (.inl ([], 0))), (1, .inr (.inl ([], 15))), (1, .inr (.inl ([], 11))), (1, .inr (.inl ([], 1))), (1, .inr (.inl ([], 8))), (6, .inr (.inl ([], 0))), (1, .inr (.inl ([], (-1)))), (1, .inr (.inl ([], (-1)))), (1, .inr (.inl ([], (-1)))), (1, .inr (.inl ([], (-1)))), (1, .inr (.inl ([], (-1)))), (1, .inr (.inl ([], (-1)))), (262, .inr (.inl ([], 0)))]))
def k_313 : eK := (312, ([], [.inr (.inr (some 0))], [(0, z_151), (2, z_237)], 24), [([], none, [(0, z_151), (2, z_238)], 24)], 0, 0, 3)
def ak_313 : List eAn := [(0, [], List.range 24), (0, [], [])]
theorem K_313 {l : Launch} {D : va_G} {ca : Nat → ClassId} : KMet l D ca k_313 := K_gq (KS := [k_312]) (ini := false) (n := 46) (an := ak_313) h_312 rfl (by decide +kernel) (KS_cons K_312 KS_nil) (by decide +kernel)
def k_314 : eK := (313, ([], [.inr (.inr (some 0)), .inl ([], 15), .inl ([], 11), .inl ([], 1)], [(0, z_151), (2, z_238)], 24), [([], some (.inl ([], 10)), [(0, z_151), (2, z_238)], 24)], 0, 0, 2)
def ak_314 : List eAn := [(0, [], []), (0, [], [])]
theorem K_314 {l : Launch} {D : va_G} {ca : Nat → ClassId} : KMet l D ca k_314 := K_gq (KS := [k_307]) (ini := false) (n := 23) (an := ak_314) h_313 rfl (by decide +kernel) (KS_cons K_307 KS_nil) (by decide +kernel)
def z_239 : eSC := .inr (.inl (1, 350, [(3, .inr (.inl ([], 0))), (1, .inr (.inl ([], 7))), (1, .inr (.inl ([], 3))), (1, .inr (.inl ([], 15))), (1, .inr (.inl ([], 0))), (1, .inr (.inl ([], 20))), (52, .inr (.inl ([], 0))), (1, .inr (.inl ([], (-1)))), (1, .inr (.inl ([], (-1)))), (1, .inr (.inl ([], (-1)))), (1, .inr (.inl ([], (-1)))), (1, .inr (.inl ([], (-1)))), (1, .inr (.inl ([], (-1)))), (6, .inr (.inl ([], 0))), (1, .inr (.inl ([], 16))), (1, .inr (.inl ([], 10))), (1, .inr (.inl ([], 1))), (1, .inr (.inl ([], 8))), (6, .inr (.inl ([], 0))), (1, .inr (.inl ([], (-1)))), (1, .inr (.inl ([], (-1)))), (1, .inr (.inl ([], (-1)))), (1, .inr (.inl ([], (-1)))), (1, .inr (.inl ([], (-1)))), (1, .inr (.inl ([], (-1)))), (262, .inr (.inl ([], 0)))]))
def k_315 : eK := (312, ([], [.inr (.inr (some 0))], [(0, z_151), (2, z_238)], 24), [([], none, [(0, z_151), (2, z_239)], 24)], 0, 0, 3)
def ak_315 : List eAn := [(0, [], List.range 24), (0, [], [])]
theorem K_315 {l : Launch} {D : va_G} {ca : Nat → ClassId} : KMet l D ca k_315 := K_gq (KS := [k_314]) (ini := false) (n := 46) (an := ak_315) h_312 rfl (by decide +kernel) (KS_cons K_314 KS_nil) (by decide +kernel)
def k_316 : eK := (311, ([], [.inl ([], 99), .inl ([], 9)], [], 0), [([], some (.inl ([], 9)), [], 0)], 0, 0, 1)
def ak_316 : List eAn := [(0, [], [])]
theorem K_316 {l : Launch} {D : va_G} {ca : Nat → ClassId} : KMet l D ca k_316 := K_gq (KS := []) (ini := false) (n := 7) (an := ak_316) h_311 rfl (by decide +kernel) KS_nil (by decide +kernel)
def k_317 : eK := (313, ([], [.inr (.inr (some 0)), .inl ([], 16), .inl ([], 10), .inl ([], 1)], [(0, z_151), (2, z_239)], 24), [([], some (.inl ([], 9)), [(0, z_151), (2, z_239)], 24)], 0, 0, 2)
def ak_317 : List eAn := [(0, [], []), (0, [], [])]
theorem K_317 {l : Launch} {D : va_G} {ca : Nat → ClassId} : KMet l D ca k_317 := K_gq (KS := [k_316]) (ini := false) (n := 23) (an := ak_317) h_313 rfl (by decide +kernel) (KS_cons K_316 KS_nil) (by decide +kernel)
