/-! contracts -/
def k_1243 : eK := (272, ([(1, 2147483647)], [.inl ([(0, 1)], 0), .inl ([], 0), .inl ([], 1)], [], 0), [([(2, 2147483647)], some (.inl ([], 0)), [], 0), ([(1, 1)], some (.inl ([], 1)), [], 0)], 0, 0, 1)
def ak_1243 : List eAn := [(0, [], []), (1, [], [])]
theorem K_1243 {l : Launch} {D : va_G} {ca : Nat → ClassId} : KMet l D ca k_1243 := K_go (KS := []) (ini := false) (n := 11) (an := ak_1243) (by decide +kernel) C_272_ok KS_nil (by decide +kernel)
def k_1244 : eK := (375, ([(1, 2147483647)], [.inr (.inr (some 0)), .inl ([(0, 1)], 0)], [(0, z_83), (10, z_95)], 24), [([(1, 2147483647)], some (.inl ([], 0)), [], 24)], 0, 0, 2)
def ak_1244 : List eAn := [(0, [([(0, 1)], 0)], []), (0, [], []), (0, [], [])]
theorem K_1244 {l : Launch} {D : va_G} {ca : Nat → ClassId} : KMet l D ca k_1244 := K_go (KS := [k_1243]) (ini := false) (n := 17) (an := ak_1244) (by decide +kernel) C_375_ok (KS_cons K_1243 KS_nil) (by decide +kernel)
def k_1245 : eK := (243, ([((-2147483648), 2147483647)], [.inr (.inr (some 0)), .inl ([(0, 1)], 0)], [(0, z_51), (1, z_52), (2, z_131)], 28), [([(0, 2)], some (.inl ([], 0)), [], 28), ([(3, 3)], some (.inl ([], 7)), [], 28), ([(4, 4)], some (.inl ([], 3)), [], 28), ([(5, 5)], some (.inl ([], 15)), [], 28), ([(6, 7)], some (.inl ([], 0)), [], 28), ([((-2147483648), (-1))], some (.inl ([], (-1))), [], 28), ([(8, 2147483647)], some (.inl ([], (-1))), [], 28)], 0, 0, 2)
def ak_1245 : List eAn := [(0, [], []), (0, [], []), (0, [], []), (1, [], []), (2, [], []), (3, [], []), (4, [], []), (0, [], [1, 16]), (4, [], []), (5, [], []), (6, [], [])]
theorem K_1245 {l : Launch} {D : va_G} {ca : Nat → ClassId} : KMet l D ca k_1245 := K_go (KS := [k_748]) (ini := false) (n := 8) (an := ak_1245) (by decide +kernel) C_243_ok (KS_cons K_748 KS_nil) (by decide +kernel)
def k_1246 : eK := (376, ([(0, 2)], [.inr (.inr (some 0)), .inl ([(0, 1)], 0)], [(0, z_83), (2, z_88)], 24), [([(0, 2)], some (.inl ([], 0)), [], 24)], 0, 0, 1)
def ak_1246 : List eAn := [(0, [], []), (0, [], []), (0, [], [])]
theorem K_1246 {l : Launch} {D : va_G} {ca : Nat → ClassId} : KMet l D ca k_1246 := K_go (KS := []) (ini := false) (n := 12) (an := ak_1246) (by decide +kernel) C_376_ok KS_nil (by decide +kernel)
def k_1247 : eK := (376, ([(3, 3)], [.inr (.inr (some 0)), .inl ([(0, 1)], 0)], [(0, z_83), (2, z_88)], 24), [([(3, 3)], some (.inl ([], 7)), [], 24)], 0, 0, 1)
def ak_1247 : List eAn := [(0, [], [])]
theorem K_1247 {l : Launch} {D : va_G} {ca : Nat → ClassId} : KMet l D ca k_1247 := K_go (KS := []) (ini := false) (n := 12) (an := ak_1247) (by decide +kernel) C_376_ok KS_nil (by decide +kernel)
def k_1248 : eK := (376, ([(4, 4)], [.inr (.inr (some 0)), .inl ([(0, 1)], 0)], [(0, z_83), (2, z_88)], 24), [([(4, 4)], some (.inl ([], 3)), [], 24)], 0, 0, 1)
def ak_1248 : List eAn := [(0, [], [])]
theorem K_1248 {l : Launch} {D : va_G} {ca : Nat → ClassId} : KMet l D ca k_1248 := K_go (KS := []) (ini := false) (n := 12) (an := ak_1248) (by decide +kernel) C_376_ok KS_nil (by decide +kernel)
def k_1249 : eK := (376, ([(5, 5)], [.inr (.inr (some 0)), .inl ([(0, 1)], 0)], [(0, z_83), (2, z_88)], 24), [([(5, 5)], some (.inl ([], 15)), [], 24)], 0, 0, 1)
def ak_1249 : List eAn := [(0, [], [])]
theorem K_1249 {l : Launch} {D : va_G} {ca : Nat → ClassId} : KMet l D ca k_1249 := K_go (KS := []) (ini := false) (n := 12) (an := ak_1249) (by decide +kernel) C_376_ok KS_nil (by decide +kernel)
def k_1250 : eK := (376, ([(6, 7)], [.inr (.inr (some 0)), .inl ([(0, 1)], 0)], [(0, z_83), (2, z_88)], 24), [([(6, 7)], some (.inl ([], 0)), [], 24)], 0, 0, 1)
def ak_1250 : List eAn := [(0, [], []), (0, [], [])]
theorem K_1250 {l : Launch} {D : va_G} {ca : Nat → ClassId} : KMet l D ca k_1250 := K_go (KS := []) (ini := false) (n := 12) (an := ak_1250) (by decide +kernel) C_376_ok KS_nil (by decide +kernel)
def k_1251 : eK := (376, ([((-2147483648), (-1))], [.inr (.inr (some 0)), .inl ([(0, 1)], 0)], [(0, z_83)], 24), [([((-2147483648), (-1))], some (.inl ([], (-1))), [], 24)], 0, 0, 1)
def ak_1251 : List eAn := [(0, [], [])]
theorem K_1251 {l : Launch} {D : va_G} {ca : Nat → ClassId} : KMet l D ca k_1251 := K_go (KS := []) (ini := false) (n := 9) (an := ak_1251) (by decide +kernel) C_376_ok KS_nil (by decide +kernel)
def k_1252 : eK := (376, ([(8, 2147483647)], [.inr (.inr (some 0)), .inl ([(0, 1)], 0)], [(0, z_83)], 24), [([(8, 2147483647)], some (.inl ([], (-1))), [], 24)], 0, 0, 1)
def ak_1252 : List eAn := [(0, [], [])]
theorem K_1252 {l : Launch} {D : va_G} {ca : Nat → ClassId} : KMet l D ca k_1252 := K_go (KS := []) (ini := false) (n := 9) (an := ak_1252) (by decide +kernel) C_376_ok KS_nil (by decide +kernel)
