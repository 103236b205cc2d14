/-! contracts -/
def k_560 : eK := (140, (zv_847, [yr 13, yi 0], [(13, zc_207), (16, yt 1 5 ([yw 5 0 20]))], (25, [])), [(zv_848, some (yj 0), [(13, zc_207), (16, yt 1 5 ([yw 5 0 20]))], (25, [])), (zv_849, some (yi 10), [(13, zc_207), (16, yt 1 5 ([yw 5 0 20]))], (25, []))], 0, 0, 1)
def ak_560 : List eAn := [(1, [yh 10 1], [], []), (0, [], [], [])]
theorem K_560 {l : Launch} {D : va_G} {ca : Nat → ClassId} : KMet l D ca k_560 := K_gq (KS := []) (ini := false) (FL := []) (n := 11) (an := ak_560) h_140 rfl (by decide +kernel) KS_nil (by decide +kernel)
def zv_850 : eEv := [yA 1 8, yA 1 8] ++ yu 5 ++ [ya 0 5, ya 0 8, ya 0 6] ++ yu 1
def zv_851 : eEv := [yA 1 1, yA 1 1] ++ yu 5 ++ [ya 0 5, ya 0 8, ya 0 6] ++ yu 1
def zv_852 : eEv := [yA 1 8, yA 1 8] ++ yu 5 ++ [ya 0 5, ya 0 8, ya 0 6] ++ yu 1 ++ [ya 0 40]
def k_561 : eK := (137, (zv_850, [yr 13, yi 0, yi 1], [(13, zc_198), (15, yt 1 5 ([yw 5 0 20])), (16, yt 1 5 ([yw 5 0 20]))], (25, [])), [(zv_851, some (yj 0), [(15, yt 1 5 ([yw 5 0 20])), (13, zc_198), (16, yt 1 5 ([yw 5 0 20]))], (25, [])), (zv_852, some (yi 11), [(15, yt 1 5 ([yw 5 0 20])), (13, zc_198), (16, yt 1 5 ([yw 5 0 20]))], (25, []))], 0, 0, 2)
def ak_561 : List eAn := [(0, [yh 0 1, yh 2 9], nas 0 25, []), (0, [yh 1 10], nas 0 25, []), (1, [yh 0 1, yh 2 9], nas 0 25, []), (1, [yh 1 10], nas 0 25, []), (0, [], [], []), (1, [yh 0 1, yh 2 9], nas 0 25, []), (1, [yh 1 10], nas 0 25, []), (1, [ye (yg [(12, 2), (14, 2)] 0)], [], []), (0, [yh 1 10], nas 0 25, []), (1, [yh 0 1, yh 2 9], nas 0 25, []), (1, [yh 1 10], nas 0 25, []), (1, [ye (yg [(11, 2), (12, 2)] 0)], [], []), (1, [yh 0 1, yh 2 9], nas 0 25, []), (1, [yh 1 10], nas 0 25, []), (1, [ye (yg [(13, 2), (16, 2)] 0)], [], [])]
theorem K_561 {l : Launch} {D : va_G} {ca : Nat → ClassId} : KMet l D ca k_561 := K_gq (KS := [k_559, k_560]) (ini := false) (FL := []) (n := 21) (an := ak_561) h_137 rfl (by decide +kernel) (KS_cons K_559 (KS_cons K_560 KS_nil)) (by decide +kernel)
def zv_853 : eEv := yu 1 ++ [yA 1 8] ++ yu 1 ++ [ya 0 5] ++ yu 6 ++ [ya 0 5, ya 0 8, ya 0 6] ++ yu 1
def zv_854 : eEv := yu 1 ++ [yA 1 8] ++ yu 1 ++ [ya 0 5] ++ yu 6 ++ [ya 0 5, ya 0 8, ya 0 6] ++ yu 2
def k_562 : eK := (136, (zv_853, [yr 13, yr 14, yi 0, yj 5, yi 1, yi 2], [(13, yo 1 ([yr 15, yr 16, yi 3, yi 4])), (14, zc_794), (15, yt 1 5 ([yf 5])), (16, yt 1 5 ([yf 5])), (18, yt 1 5 ([yw 5 0 20])), (19, yt 1 5 ([yw 5 0 20]))], (28, [])), [(zv_854, none, [(13, yo 1 ([yr 15, yr 16, yi 3, yi 14])), (15, yt 1 5 ([yf 5])), (16, yt 1 5 ([yf 5])), (18, yt 1 5 ([yw 5 0 20])), (14, zc_794), (19, yt 1 5 ([yw 5 0 20]))], (28, []))], 0, 0, 3)
def ak_562 : List eAn := [(0, [yh 1 1, ye (ym 0), yh 5 9], nas 0 13 ++ [14] ++ nas 17 11, []), (0, [yh 4 1], [], []), (0, [yh 2 1], [], []), (0, [yh 4 1], [], []), (0, [yh 15 1], [], [])]
theorem K_562 {l : Launch} {D : va_G} {ca : Nat → ClassId} : KMet l D ca k_562 := K_gq (KS := [k_561]) (ini := false) (FL := []) (n := 31) (an := ak_562) h_136 rfl (by decide +kernel) (KS_cons K_561 KS_nil) (by decide +kernel)
def k_563 : eK := (136, (zv_853, [yr 13, yr 14, yi 0, yj 4, yi 1, yi 2], [(13, yo 1 ([yr 15, yr 16, yi 3, yi 4])), (14, zc_794), (15, yt 1 5 ([yf 5])), (16, yt 1 5 ([yf 5])), (18, yt 1 5 ([yw 5 0 20])), (19, yt 1 5 ([yw 5 0 20]))], (28, [])), [(zv_854, none, [(13, yo 1 ([yr 15, yr 16, yi 3, yi 14])), (15, yt 1 5 ([yf 5])), (16, yt 1 5 ([yf 5])), (18, yt 1 5 ([yw 5 0 20])), (14, zc_794), (19, yt 1 5 ([yw 5 0 20]))], (28, []))], 0, 0, 4)
def ak_563 : List eAn := [(0, [yh 4 1, ye (yk 0)], [], []), (0, [yh 1 1, ye (ym 0), yh 5 9], nas 0 13 ++ [14] ++ nas 17 11, []), (0, [yh 4 1], [], []), (0, [yh 2 1], [], []), (0, [yh 4 1], [], []), (0, [yh 15 1], [], [])]
def zv_855 : eEv := yu 1 ++ [yA 1 8] ++ yu 1 ++ [ya 5 5] ++ yu 6 ++ [ya 0 5, ya 0 8, ya 0 6] ++ yu 2 ++ [ya 0 5]
def zk_563 : List (eCut × Nat × List eAn) := [((56, zv_855, [(0, yr 13), (1, yr 14), (2, yi 0), (3, yj 4), (4, yi 1), (5, yi 2), (6, yi 15)], [], [(13, yo 1 ([yr 15, yr 16, yi 3, yi 14])), (14, zc_794), (15, yt 1 5 ([yf 5])), (16, yt 1 5 ([yf 5])), (18, yt 1 5 ([yw 5 0 20])), (19, yt 1 5 ([yw 5 0 20]))], (28, []), 0, 0, yg [(15, 1)] 10), 42, [(1000, [], [], []), (0, [yh 14 1], [], []), (0, [yh 14 1, ye (yg [(15, 2)] 2)], [], []), (0, [yh 1 1, yh 15 1, yh 5 9], nas 0 13 ++ [14] ++ nas 17 11, []), (1, [yh 20 1, yh 15 1, yh 22 1, yh 3 1, yh 14 1, yh 5 9], nas 0 28, []), (0, [yh 23 1, ye (yg [(15, 2)] 2)], [], [])])]
theorem K_563 {l : Launch} {D : va_G} {ca : Nat → ClassId} : KMet l D ca k_563 := K_gqL (KS := [k_561, k_562]) (ini := false) (FL := []) (n := 31) (an := ak_563) (Z := zk_563) h_136 rfl (by decide +kernel) (KS_cons K_561 (KS_cons K_562 KS_nil)) (by decide +kernel) (by decide +kernel)
def k_564 : eK := (136, (zv_853, [yr 13, yr 14, yi 0, yj 3, yi 1, yi 2], [(13, yo 1 ([yr 15, yr 16, yi 3, yi 4])), (14, zc_794), (15, yt 1 5 ([yf 5])), (16, yt 1 5 ([yf 5])), (18, yt 1 5 ([yw 5 0 20])), (19, yt 1 5 ([yw 5 0 20]))], (28, [])), [(zv_854, none, [(13, yo 1 ([yr 15, yr 16, yi 3, yi 14])), (15, yt 1 5 ([yf 5])), (16, yt 1 5 ([yf 5])), (18, yt 1 5 ([yw 5 0 20])), (14, zc_794), (19, yt 1 5 ([yw 5 0 20]))], (28, []))], 0, 0, 5)
def ak_564 : List eAn := [(0, [yh 4 1, ye (yk 0)], [], []), (0, [yh 1 1, ye (ym 0), yh 5 9], nas 0 13 ++ [14] ++ nas 17 11, []), (0, [yh 4 1], [], []), (0, [yh 2 1], [], []), (0, [yh 4 1], [], []), (0, [yh 15 1], [], [])]
def zv_856 : eEv := yu 1 ++ [yA 1 8] ++ yu 1 ++ [ya 4 5] ++ yu 6 ++ [ya 0 5, ya 0 8, ya 0 6] ++ yu 2 ++ [ya 0 5]
def zk_564 : List (eCut × Nat × List eAn) := [((56, zv_856, [(0, yr 13), (1, yr 14), (2, yi 0), (3, yj 3), (4, yi 1), (5, yi 2), (6, yi 15)], [], [(13, yo 1 ([yr 15, yr 16, yi 3, yi 14])), (14, zc_794), (15, yt 1 5 ([yf 5])), (16, yt 1 5 ([yf 5])), (18, yt 1 5 ([yw 5 0 20])), (19, yt 1 5 ([yw 5 0 20]))], (28, []), 0, 0, yg [(15, 1)] 10), 42, [(1000, [], [], []), (0, [yh 14 1], [], []), (0, [yh 14 1, ye (yg [(15, 2)] 2)], [], []), (0, [yh 1 1, yh 15 1, yh 5 9], nas 0 13 ++ [14] ++ nas 17 11, []), (1, [yh 20 1, yh 15 1, yh 22 1, yh 3 1, yh 14 1, yh 5 9], nas 0 28, []), (0, [yh 23 1, ye (yg [(15, 2)] 2)], [], [])])]
theorem K_564 {l : Launch} {D : va_G} {ca : Nat → ClassId} : KMet l D ca k_564 := K_gqL (KS := [k_561, k_563]) (ini := false) (FL := []) (n := 31) (an := ak_564) (Z := zk_564) h_136 rfl (by decide +kernel) (KS_cons K_561 (KS_cons K_563 KS_nil)) (by decide +kernel) (by decide +kernel)
def k_565 : eK := (136, (zv_853, [yr 13, yr 14, yi 0, yj 2, yi 1, yi 2], [(13, yo 1 ([yr 15, yr 16, yi 3, yi 4])), (14, zc_794), (15, yt 1 5 ([yf 5])), (16, yt 1 5 ([yf 5])), (18, yt 1 5 ([yw 5 0 20])), (19, yt 1 5 ([yw 5 0 20]))], (28, [])), [(zv_854, none, [(13, yo 1 ([yr 15, yr 16, yi 3, yi 14])), (15, yt 1 5 ([yf 5])), (16, yt 1 5 ([yf 5])), (18, yt 1 5 ([yw 5 0 20])), (14, zc_794), (19, yt 1 5 ([yw 5 0 20]))], (28, []))], 0, 0, 6)
def ak_565 : List eAn := [(0, [yh 4 1, ye (yk 0)], [], []), (0, [yh 1 1, ye (ym 0), yh 5 9], nas 0 13 ++ [14] ++ nas 17 11, []), (0, [yh 4 1], [], []), (0, [yh 2 1], [], []), (0, [yh 4 1], [], []), (0, [yh 15 1], [], [])]
def zv_857 : eEv := yu 1 ++ [yA 1 8] ++ yu 1 ++ [ya 3 5] ++ yu 6 ++ [ya 0 5, ya 0 8, ya 0 6] ++ yu 2 ++ [ya 0 5]
def zk_565 : List (eCut × Nat × List eAn) := [((56, zv_857, [(0, yr 13), (1, yr 14), (2, yi 0), (3, yj 2), (4, yi 1), (5, yi 2), (6, yi 15)], [], [(13, yo 1 ([yr 15, yr 16, yi 3, yi 14])), (14, zc_794), (15, yt 1 5 ([yf 5])), (16, yt 1 5 ([yf 5])), (18, yt 1 5 ([yw 5 0 20])), (19, yt 1 5 ([yw 5 0 20]))], (28, []), 0, 0, yg [(15, 1)] 10), 42, [(1000, [], [], []), (0, [yh 14 1], [], []), (0, [yh 14 1, ye (yg [(15, 2)] 2)], [], []), (0, [yh 1 1, yh 15 1, yh 5 9], nas 0 13 ++ [14] ++ nas 17 11, []), (1, [yh 20 1, yh 15 1, yh 22 1, yh 3 1, yh 14 1, yh 5 9], nas 0 28, []), (0, [yh 23 1, ye (yg [(15, 2)] 2)], [], [])])]
theorem K_565 {l : Launch} {D : va_G} {ca : Nat → ClassId} : KMet l D ca k_565 := K_gqL (KS := [k_561, k_564]) (ini := false) (FL := []) (n := 31) (an := ak_565) (Z := zk_565) h_136 rfl (by decide +kernel) (KS_cons K_561 (KS_cons K_564 KS_nil)) (by decide +kernel) (by decide +kernel)
def k_566 : eK := (136, (zv_853, [yr 13, yr 14, yi 0, yj 1, yi 1, yi 2], [(13, yo 1 ([yr 15, yr 16, yi 3, yi 4])), (14, zc_794), (15, yt 1 5 ([yf 5])), (16, yt 1 5 ([yf 5])), (18, yt 1 5 ([yw 5 0 20])), (19, yt 1 5 ([yw 5 0 20]))], (28, [])), [(zv_854, none, [(13, yo 1 ([yr 15, yr 16, yi 3, yi 14])), (15, yt 1 5 ([yf 5])), (16, yt 1 5 ([yf 5])), (18, yt 1 5 ([yw 5 0 20])), (14, zc_794), (19, yt 1 5 ([yw 5 0 20]))], (28, []))], 0, 0, 7)
def ak_566 : List eAn := [(0, [yh 4 1, ye (yk 0)], [], []), (0, [yh 1 1, ye (ym 0), yh 5 9], nas 0 13 ++ [14] ++ nas 17 11, []), (0, [yh 4 1], [], []), (0, [yh 2 1], [], []), (0, [yh 4 1], [], []), (0, [yh 15 1], [], [])]
def zv_858 : eEv := yu 1 ++ [yA 1 8] ++ yu 1 ++ [ya 2 5] ++ yu 6 ++ [ya 0 5, ya 0 8, ya 0 6] ++ yu 2 ++ [ya 0 5]
def zk_566 : List (eCut × Nat × List eAn) := [((56, zv_858, [(0, yr 13), (1, yr 14), (2, yi 0), (3, yj 1), (4, yi 1), (5, yi 2), (6, yi 15)], [], [(13, yo 1 ([yr 15, yr 16, yi 3, yi 14])), (14, zc_794), (15, yt 1 5 ([yf 5])), (16, yt 1 5 ([yf 5])), (18, yt 1 5 ([yw 5 0 20])), (19, yt 1 5 ([yw 5 0 20]))], (28, []), 0, 0, yg [(15, 1)] 10), 42, [(1000, [], [], []), (0, [yh 14 1], [], []), (0, [yh 14 1, ye (yg [(15, 2)] 2)], [], []), (0, [yh 1 1, yh 15 1, yh 5 9], nas 0 13 ++ [14] ++ nas 17 11, []), (1, [yh 20 1, yh 15 1, yh 22 1, yh 3 1, yh 14 1, yh 5 9], nas 0 28, []), (0, [yh 23 1, ye (yg [(15, 2)] 2)], [], [])])]
theorem K_566 {l : Launch} {D : va_G} {ca : Nat → ClassId} : KMet l D ca k_566 := K_gqL (KS := [k_561, k_565]) (ini := false) (FL := []) (n := 31) (an := ak_566) (Z := zk_566) h_136 rfl (by decide +kernel) (KS_cons K_561 (KS_cons K_565 KS_nil)) (by decide +kernel) (by decide +kernel)
def k_567 : eK := (136, (zv_853, [yr 13, yr 14, yi 0, yj 0, yi 1, yi 2], [(13, yo 1 ([yr 15, yr 16, yi 3, yi 4])), (14, zc_794), (15, yt 1 5 ([yf 5])), (16, yt 1 5 ([yf 5])), (18, yt 1 5 ([yw 5 0 20])), (19, yt 1 5 ([yw 5 0 20]))], (28, [])), [(zv_854, none, [(13, yo 1 ([yr 15, yr 16, yi 3, yi 14])), (15, yt 1 5 ([yf 5])), (16, yt 1 5 ([yf 5])), (18, yt 1 5 ([yw 5 0 20])), (14, zc_794), (19, yt 1 5 ([yw 5 0 20]))], (28, []))], 0, 0, 8)
def ak_567 : List eAn := [(0, [yh 4 1, ye (yk 0)], [], []), (0, [yh 1 1, ye (ym 0), yh 5 9], nas 0 13 ++ [14] ++ nas 17 11, []), (0, [yh 4 1], [], []), (0, [yh 2 1], [], []), (0, [yh 4 1], [], []), (0, [yh 15 1], [], [])]
def zv_859 : eEv := yu 1 ++ [yA 1 8] ++ yu 1 ++ [ya 1 5] ++ yu 6 ++ [ya 0 5, ya 0 8, ya 0 6] ++ yu 2 ++ [ya 0 5]
def zk_567 : List (eCut × Nat × List eAn) := [((56, zv_859, [(0, yr 13), (1, yr 14), (2, yi 0), (3, yj 0), (4, yi 1), (5, yi 2), (6, yi 15)], [], [(13, yo 1 ([yr 15, yr 16, yi 3, yi 14])), (14, zc_794), (15, yt 1 5 ([yf 5])), (16, yt 1 5 ([yf 5])), (18, yt 1 5 ([yw 5 0 20])), (19, yt 1 5 ([yw 5 0 20]))], (28, []), 0, 0, yg [(15, 1)] 10), 42, [(1000, [], [], []), (0, [yh 14 1], [], []), (0, [yh 14 1, ye (yg [(15, 2)] 2)], [], []), (0, [yh 1 1, yh 15 1, yh 5 9], nas 0 13 ++ [14] ++ nas 17 11, []), (1, [yh 20 1, yh 15 1, yh 22 1, yh 3 1, yh 14 1, yh 5 9], nas 0 28, []), (0, [yh 23 1, ye (yg [(15, 2)] 2)], [], [])])]
theorem K_567 {l : Launch} {D : va_G} {ca : Nat → ClassId} : KMet l D ca k_567 := K_gqL (KS := [k_561, k_566]) (ini := false) (FL := []) (n := 31) (an := ak_567) (Z := zk_567) h_136 rfl (by decide +kernel) (KS_cons K_561 (KS_cons K_566 KS_nil)) (by decide +kernel) (by decide +kernel)
def zv_860 : eEv := [ya 0 31, ya 0 5] ++ yu 6 ++ [ya 0 5, ya 0 8, ya 0 6] ++ yu 1
def zc_861 : eSC := yo 11 (yis 3 9 ++ [yr 17, yr 18, yr 19, yr 20, yr 21, yr 22, yr 23, yr 24, yr 25, yr 26, yr 27])
def zv_862 : eEv := [ya 0 31, ya 0 5] ++ yu 6 ++ [ya 0 5, ya 0 8, ya 0 6] ++ yu 1 ++ [ya 0 5] ++ yu 1
def k_568 : eK := (134, (zv_860, [yr 13, yr 14, yi 0], [(13, yo 1 ([yr 15, yr 16, yi 1, yi 2])), (14, zc_861), (15, yt 1 5 ([yf 5])), (16, yt 1 5 ([yf 5])), (18, yt 1 5 ([yw 5 0 20])), (19, yt 1 5 ([yw 5 0 20]))], (28, [])), [(zv_862, some (yi 13), [(13, yo 1 ([yr 15, yr 16, yi 12, yi 13])), (15, yt 1 5 ([yf 5])), (16, yt 1 5 ([yf 5])), (18, yt 1 5 ([yw 5 0 20])), (14, zc_861), (19, yt 1 5 ([yw 5 0 20]))], (28, []))], 0, 0, 9)
def ak_568 : List eAn := [(0, [yh 0 1], nas 0 13, []), (1, [yh 0 1, ye (ym 0), ye (yk 0), ye (yk 0), ye (yk 1000), yh 3 9], nas 0 28, []), (0, [ye (yk 0), yh 12 1], [], []), (1, [yh 0 1, ye (ym 0), ye (yk 0), ye (yk 1), ye (yk 1000), yh 3 9], nas 0 28, []), (0, [ye (yk 1), yh 12 1], [], []), (1, [yh 0 1, ye (ym 0), ye (yk 0), ye (yk 2), ye (yk 1000), yh 3 9], nas 0 28, []), (0, [ye (yk 2), yh 12 1], [], []), (1, [yh 0 1, ye (ym 0), ye (yk 0), ye (yk 3), ye (yk 1000), yh 3 9], nas 0 28, []), (0, [ye (yk 3), yh 12 1], [], []), (1, [yh 0 1, ye (ym 0), ye (yk 0), ye (yk 4), ye (yk 1000), yh 3 9], nas 0 28, []), (0, [ye (yk 4), yh 12 1], [], []), (1, [yh 0 1, ye (ym 0), ye (yk 0), ye (yk 5), ye (yk 1000), yh 3 9], nas 0 28, []), (0, [ye (yk 5), yh 12 1], [], [])]
theorem K_568 {l : Launch} {D : va_G} {ca : Nat → ClassId} : KMet l D ca k_568 := K_gq (KS := [k_558, k_567]) (ini := false) (FL := []) (n := 20) (an := ak_568) h_134 rfl (by decide +kernel) (KS_cons K_558 (KS_cons K_567 KS_nil)) (by decide +kernel)
def zv_863 : eEv := [ya 0 4] ++ yu 5 ++ [ya 0 5, ya 0 8, ya 0 6] ++ yu 6 ++ [ya 0 5] ++ yu 1 ++ yR 8 (yA 1 8) ++ yR 6 (yA 1 14)
def zf_864 : List eFa := yFm (fun i => (zbH.getD (0 + i) [], [yv 7, yv (17 + i)])) 0 8 ++ yFm (fun i => (zb_0, [yg [(7, 1), ((25 + i), 2)] 0])) 0 6
def zv_865 : eEv := [ya 0 4] ++ yu 5 ++ [ya 0 5, ya 0 8, ya 0 6] ++ yu 6 ++ [ya 0 5] ++ yu 1 ++ yR 8 (yA 1 8) ++ yR 6 (yA 1 14) ++ [ya 0 5] ++ yu 1
def zf_866 : List eFa := yFm (fun i => (zb_0, [yg [(7, 1), ((25 + i), 2)] 0])) 0 6 ++ yFm (fun i => (zbH.getD (0 + i) [], [yv 7, yv (17 + i)])) 0 8
def k_569 : eK := (132, (zv_863, [yr 13], [(13, zc_240), (15, zc_672), (17, zc_673), (25, yo 1 ([yr 45, yr 46, yi 15, yi 16])), (30, yt 1 5 ([yw 5 0 20])), (31, yt 1 5 ([yw 5 0 20])), (32, yt 1 8 (yxs 17 8)), (40, yt 1 6 (yxs 25 6)), (45, yt 1 5 ([yf 5])), (46, yt 1 5 ([yf 5]))], (47, zf_864)), [(zv_865, some (yi 32), [(13, zc_240), (17, zc_673), (40, yt 1 6 (yxs 25 6)), (32, yt 1 8 (yxs 17 8)), (25, yo 1 ([yr 45, yr 46, yi 31, yi 32])), (45, yt 1 5 ([yf 5])), (46, yt 1 5 ([yf 5])), (30, yt 1 5 ([yw 5 0 20])), (15, zc_672), (31, yt 1 5 ([yw 5 0 20]))], (47, zf_866))], 0, 0, 10)
def ak_569 : List eAn := [(0, [yh 10 5, yh 1 9, yh 25 6, yh 17 8], nas 0 13 ++ [17, 15] ++ nas 40 5 ++ nas 29 11, hsr 8 6 ++ hsr 0 8), (1, [yh 31 1, yh 15 2, yh 1 9], nas 0 13 ++ [25, 15, 45, 46] ++ nas 29 11, []), (0, [yh 32 2], [], hsr 14 14)]
theorem K_569 {l : Launch} {D : va_G} {ca : Nat → ClassId} : KMet l D ca k_569 := K_gq (KS := [k_557, k_568]) (ini := false) (FL := []) (n := 12) (an := ak_569) h_132 rfl (by decide +kernel) (KS_cons K_557 (KS_cons K_568 KS_nil)) (by decide +kernel)
def k_571 : eK := (283, (([ya 31 31]), [yi 0, yj 0], [], (13, [])), [(([ya 31 31]), some (yj 1), [], (13, []))], 0, 0, 1)
def ak_571 : List eAn := [(0, [], [], [])]
theorem K_571 {l : Launch} {D : va_G} {ca : Nat → ClassId} : KMet l D ca k_571 := K_gq (KS := []) (ini := false) (FL := []) (n := 13) (an := ak_571) h_283 rfl (by decide +kernel) KS_nil (by decide +kernel)
def k_572 : eK := (330, ((yu 1), [yi 0], [], (13, [])), [((yu 2), some (yi 1), [], (13, []))], 0, 0, 1)
def ak_572 : List eAn := [(0, [yh 0 1], [], []), (0, [yh 1 1], [], [])]
theorem K_572 {l : Launch} {D : va_G} {ca : Nat → ClassId} : KMet l D ca k_572 := K_gq (KS := []) (ini := false) (FL := []) (n := 9) (an := ak_572) h_330 rfl (by decide +kernel) KS_nil (by decide +kernel)
def zv_867 : eEv := yu 2 ++ [ya 0 4] ++ yu 1 ++ yR 5 (ya 0 940) ++ [ya 0 4] ++ yu 4 ++ yU 1 ++ yu 1 ++ [ya 0 8] ++ yEm [yA 4294967295 4294967294, ya 0 5] 3 ++ yu 3 ++ [ya 0 64] ++ yu 1 ++ [ya 0 40, ya 0 1, ya 0 40, ya 0 20, ya 0 8, ya 0 39] ++ yu 120
def zv_868 : eEv := yu 2 ++ [ya 0 4] ++ yu 1 ++ yR 5 (ya 0 940) ++ [ya 0 4] ++ yu 4 ++ yU 1 ++ yu 1 ++ [ya 0 8] ++ yEm [yA 4294967295 4294967294, ya 0 5] 3 ++ yu 3 ++ [ya 0 64] ++ yu 1 ++ [ya 0 40, ya 0 1, ya 0 40, ya 0 20, ya 0 8, ya 0 39] ++ yu 121
def k_573 : eK := (329, (zv_867, [yr 13] ++ yis 0 3, [(13, zc_594), (15, zc_595)], (37, zf_596)), [(zv_868, some (yi 154), [(13, zc_594), (15, zc_595)], (37, zf_596))], 0, 0, 2)
def ak_573 : List eAn := [(0, [yh 155 1], nas 0 13, []), (0, [yh 158 1], nas 0 13, []), (0, [yh 160 1], [], hsr 0 41)]
theorem K_573 {l : Launch} {D : va_G} {ca : Nat → ClassId} : KMet l D ca k_573 := K_gq (KS := [k_572]) (ini := false) (FL := []) (n := 23) (an := ak_573) h_329 rfl (by decide +kernel) (KS_cons K_572 KS_nil) (by decide +kernel)
def k_574 : eK := (283, (([]), [yj 30, yj 0], [], (13, [])), [(([]), some (yj 0), [], (13, []))], 0, 0, 1)
def ak_574 : List eAn := [(0, [], [], [])]
theorem K_574 {l : Launch} {D : va_G} {ca : Nat → ClassId} : KMet l D ca k_574 := K_gq (KS := []) (ini := false) (FL := []) (n := 12) (an := ak_574) h_283 rfl (by decide +kernel) KS_nil (by decide +kernel)
def k_575 : eK := (283, (([]), [yj 30, yj 1], [], (13, [])), [(([]), some (yj 1), [], (13, []))], 0, 0, 1)
def ak_575 : List eAn := [(0, [], [], [])]
theorem K_575 {l : Launch} {D : va_G} {ca : Nat → ClassId} : KMet l D ca k_575 := K_gq (KS := []) (ini := false) (FL := []) (n := 13) (an := ak_575) h_283 rfl (by decide +kernel) KS_nil (by decide +kernel)
def k_576 : eK := (283, (([]), [yj 28, yj 0], [], (13, [])), [(([]), some (yj 0), [], (13, []))], 0, 0, 1)
def ak_576 : List eAn := [(0, [], [], [])]
theorem K_576 {l : Launch} {D : va_G} {ca : Nat → ClassId} : KMet l D ca k_576 := K_gq (KS := []) (ini := false) (FL := []) (n := 12) (an := ak_576) h_283 rfl (by decide +kernel) KS_nil (by decide +kernel)
def k_577 : eK := (283, (([]), [yj 28, yj 1], [], (13, [])), [(([]), some (yj 0), [], (13, []))], 0, 0, 1)
def ak_577 : List eAn := [(0, [], [], [])]
theorem K_577 {l : Launch} {D : va_G} {ca : Nat → ClassId} : KMet l D ca k_577 := K_gq (KS := []) (ini := false) (FL := []) (n := 12) (an := ak_577) h_283 rfl (by decide +kernel) KS_nil (by decide +kernel)
def k_578 : eK := (283, (([]), [yj 28, yj 2], [], (13, [])), [(([]), some (yj 1), [], (13, []))], 0, 0, 1)
def ak_578 : List eAn := [(0, [], [], [])]
theorem K_578 {l : Launch} {D : va_G} {ca : Nat → ClassId} : KMet l D ca k_578 := K_gq (KS := []) (ini := false) (FL := []) (n := 13) (an := ak_578) h_283 rfl (by decide +kernel) KS_nil (by decide +kernel)
def k_579 : eK := (283, (([]), [yj 24, yj 0], [], (13, [])), [(([]), some (yj 0), [], (13, []))], 0, 0, 1)
def ak_579 : List eAn := [(0, [], [], [])]
theorem K_579 {l : Launch} {D : va_G} {ca : Nat → ClassId} : KMet l D ca k_579 := K_gq (KS := []) (ini := false) (FL := []) (n := 12) (an := ak_579) h_283 rfl (by decide +kernel) KS_nil (by decide +kernel)
def k_580 : eK := (283, (([]), [yj 24, yj 1], [], (13, [])), [(([]), some (yj 0), [], (13, []))], 0, 0, 1)
def ak_580 : List eAn := [(0, [], [], [])]
theorem K_580 {l : Launch} {D : va_G} {ca : Nat → ClassId} : KMet l D ca k_580 := K_gq (KS := []) (ini := false) (FL := []) (n := 12) (an := ak_580) h_283 rfl (by decide +kernel) KS_nil (by decide +kernel)
def k_581 : eK := (283, (([]), [yj 24, yj 2], [], (13, [])), [(([]), some (yj 0), [], (13, []))], 0, 0, 1)
def ak_581 : List eAn := [(0, [], [], [])]
theorem K_581 {l : Launch} {D : va_G} {ca : Nat → ClassId} : KMet l D ca k_581 := K_gq (KS := []) (ini := false) (FL := []) (n := 12) (an := ak_581) h_283 rfl (by decide +kernel) KS_nil (by decide +kernel)
def k_582 : eK := (283, (([]), [yj 24, yj 3], [], (13, [])), [(([]), some (yj 1), [], (13, []))], 0, 0, 1)
def ak_582 : List eAn := [(0, [], [], [])]
theorem K_582 {l : Launch} {D : va_G} {ca : Nat → ClassId} : KMet l D ca k_582 := K_gq (KS := []) (ini := false) (FL := []) (n := 13) (an := ak_582) h_283 rfl (by decide +kernel) KS_nil (by decide +kernel)
def k_583 : eK := (283, (([]), [yj 16, yj 0], [], (13, [])), [(([]), some (yj 0), [], (13, []))], 0, 0, 1)
def ak_583 : List eAn := [(0, [], [], [])]
theorem K_583 {l : Launch} {D : va_G} {ca : Nat → ClassId} : KMet l D ca k_583 := K_gq (KS := []) (ini := false) (FL := []) (n := 12) (an := ak_583) h_283 rfl (by decide +kernel) KS_nil (by decide +kernel)
def k_584 : eK := (283, (([]), [yj 16, yj 1], [], (13, [])), [(([]), some (yj 0), [], (13, []))], 0, 0, 1)
def ak_584 : List eAn := [(0, [], [], [])]
theorem K_584 {l : Launch} {D : va_G} {ca : Nat → ClassId} : KMet l D ca k_584 := K_gq (KS := []) (ini := false) (FL := []) (n := 12) (an := ak_584) h_283 rfl (by decide +kernel) KS_nil (by decide +kernel)
def k_585 : eK := (283, (([]), [yj 16, yj 2], [], (13, [])), [(([]), some (yj 0), [], (13, []))], 0, 0, 1)
def ak_585 : List eAn := [(0, [], [], [])]
theorem K_585 {l : Launch} {D : va_G} {ca : Nat → ClassId} : KMet l D ca k_585 := K_gq (KS := []) (ini := false) (FL := []) (n := 12) (an := ak_585) h_283 rfl (by decide +kernel) KS_nil (by decide +kernel)
def k_586 : eK := (283, (([]), [yj 16, yj 3], [], (13, [])), [(([]), some (yj 0), [], (13, []))], 0, 0, 1)
def ak_586 : List eAn := [(0, [], [], [])]
theorem K_586 {l : Launch} {D : va_G} {ca : Nat → ClassId} : KMet l D ca k_586 := K_gq (KS := []) (ini := false) (FL := []) (n := 12) (an := ak_586) h_283 rfl (by decide +kernel) KS_nil (by decide +kernel)
def k_587 : eK := (283, (([]), [yj 16, yj 4], [], (13, [])), [(([]), some (yj 1), [], (13, []))], 0, 0, 1)
def ak_587 : List eAn := [(0, [], [], [])]
theorem K_587 {l : Launch} {D : va_G} {ca : Nat → ClassId} : KMet l D ca k_587 := K_gq (KS := []) (ini := false) (FL := []) (n := 13) (an := ak_587) h_283 rfl (by decide +kernel) KS_nil (by decide +kernel)
def zv_869 : eEv := [ya 0 5] ++ yu 4 ++ yR 5 (ya 0 940) ++ [ya 0 4] ++ yu 4 ++ yU 1 ++ yu 1 ++ [ya 0 8] ++ yEm [yA 4294967295 4294967294, ya 0 5] 3 ++ yu 3 ++ [ya 0 64] ++ yu 1 ++ [ya 0 40, ya 0 1, ya 0 40, ya 0 20, ya 0 8, ya 0 39]
def zv_870 : eEv := [ya 0 5] ++ yu 4 ++ yR 5 (ya 0 940) ++ [ya 0 4] ++ yu 4 ++ yU 1 ++ yu 1 ++ [ya 0 8] ++ yEm [yA 4294967295 4294967294, ya 0 5] 3 ++ yu 3 ++ [ya 0 64] ++ yu 1 ++ [ya 0 40, ya 0 1, ya 0 40, ya 0 20, ya 0 8, ya 0 39] ++ yu 1 ++ [ya 0 5]
def zc_871 : eSC := yo 13 ([yi 4, yr 14] ++ yis 5 10 ++ [yl 15, yi 16, yr 15, yr 16, yr 17, yr 18, yr 19, yr 20, yr 21, yr 22, yr 23, yr 24, yi 17, yr 25, yr 26, yr 27, yi 18, yi 19, yr 28, yr 29, yi 20, yi 21, yr 30, yr 31, yi 35, yi 36] ++ yis 24 3 ++ [yr 32, yr 33, yi 27, yi 28, yr 34, yr 35, yi 29, yi 30, yr 36] ++ yis 31 4)
def k_588 : eK := (328, (zv_869, [yr 13, yi 0, yj 0] ++ yis 1 3, [(13, zc_815), (30, yt 1 5 ([yf 5])), (31, yt 1 5 ([yf 5]))], (37, ([(zb_9, [yg [(31, 2), (32, 3)] 0])]))), [(zv_870, none, [(13, zc_871), (30, yt 1 5 ([yf 5])), (31, yt 1 5 ([yf 5]))], (37, ([(zb_9, [yg [(31, 2), (32, 3)] 0])])))], 0, 0, 1)
def ak_588 : List eAn := [(0, [yh 38 1, yh 0 1], [], [[0, 0]]), (0, [yh 38 1, yh 0 1], [], [[0, 0]]), (0, [yh 38 1, yh 0 1], [], [[0, 0]]), (0, [yh 38 1, yh 0 1], [], [[0, 0]]), (0, [yh 38 1, yh 0 1], [], [[0, 0]]), (0, [yh 38 1, yh 0 1], [], [[0, 0]]), (0, [yh 22 2], [], [[0, 0]])]
theorem K_588 {l : Launch} {D : va_G} {ca : Nat → ClassId} : KMet l D ca k_588 := K_gq (KS := []) (ini := false) (FL := []) (n := 99) (an := ak_588) h_328 rfl (by decide +kernel) KS_nil (by decide +kernel)
def zv_872 : eEv := [ya 0 4] ++ yu 4 ++ yR 5 (ya 0 940) ++ [ya 0 4] ++ yu 4 ++ yU 1 ++ yu 1 ++ [ya 0 8] ++ yEm [yA 4294967295 4294967294, ya 0 5] 3 ++ yu 3 ++ [ya 0 64] ++ yu 1 ++ [ya 0 40, ya 0 1, ya 0 40, ya 0 20, ya 0 8, ya 0 39] ++ yu 120
def zv_873 : eEv := [ya 0 4] ++ yu 4 ++ yR 5 (ya 0 940) ++ [ya 0 4] ++ yu 4 ++ yU 1 ++ yu 1 ++ [ya 0 8] ++ yEm [yA 4294967295 4294967294, ya 0 5] 3 ++ yu 3 ++ [ya 0 64] ++ yu 1 ++ [ya 0 40, ya 0 1, ya 0 40, ya 0 20, ya 0 8, ya 0 39] ++ yu 121 ++ [ya 0 5]
def zc_874 : eSC := yo 13 ([yi 4, yr 14] ++ yis 5 10 ++ [yl 15, yi 16, yr 15, yr 16, yr 17, yr 18, yr 19, yr 20, yr 21, yr 22, yr 23, yr 24, yi 17, yr 25, yr 26, yr 27, yi 18, yi 19, yr 28, yr 29, yi 20, yi 21, yr 30, yr 31, yi 155, yi 156] ++ yis 24 3 ++ [yr 32, yr 33, yi 27, yi 28, yr 34, yr 35, yi 29, yi 30, yr 36] ++ yis 31 4)
def k_589 : eK := (328, (zv_872, [yr 13, yi 0, yj 16] ++ yis 1 3, [(13, zc_815), (15, zc_821), (30, yt 1 5 ([yf 5])), (31, yt 1 5 ([yf 5]))], (37, zf_822)), [(zv_873, none, [(15, zc_821), (13, zc_874), (30, yt 1 5 ([yf 5])), (31, yt 1 5 ([yf 5]))], (37, zf_822))], 0, 0, 3)
def ak_589 : List eAn := [(0, [], nas 0 13, []), (1, [], nas 0 13, []), (2, [], nas 0 13, []), (3, [], nas 0 13, []), (4, [], nas 0 13, []), (5, [yh 1 2, ye (yk 4), yh 4 151], nas 0 37, hsr 0 41), (6, [ye (yg [(0, 2)] 2), yh 155 2, yh 158 1, yh 4 31], nas 0 37, [[0, 81]]), (0, [yh 159 2], [], hsr 41 40 ++ [[0, 82]])]
theorem K_589 {l : Launch} {D : va_G} {ca : Nat → ClassId} : KMet l D ca k_589 := K_gq (KS := [k_583, k_584, k_585, k_586, k_587, k_573, k_588]) (ini := false) (FL := []) (n := 98) (an := ak_589) h_328 rfl (by decide +kernel) (KS_cons K_583 (KS_cons K_584 (KS_cons K_585 (KS_cons K_586 (KS_cons K_587 (KS_cons K_573 (KS_cons K_588 KS_nil))))))) (by decide +kernel)
def k_590 : eK := (283, (([]), [yj 24, yj 4], [], (13, [])), [(([]), some (yj 1), [], (13, []))], 0, 0, 1)
def ak_590 : List eAn := [(0, [], [], [])]
theorem K_590 {l : Launch} {D : va_G} {ca : Nat → ClassId} : KMet l D ca k_590 := K_gq (KS := []) (ini := false) (FL := []) (n := 13) (an := ak_590) h_283 rfl (by decide +kernel) KS_nil (by decide +kernel)
def k_591 : eK := (283, (([]), [yj 8, yj 0], [], (13, [])), [(([]), some (yj 0), [], (13, []))], 0, 0, 1)
def ak_591 : List eAn := [(0, [], [], [])]
theorem K_591 {l : Launch} {D : va_G} {ca : Nat → ClassId} : KMet l D ca k_591 := K_gq (KS := []) (ini := false) (FL := []) (n := 12) (an := ak_591) h_283 rfl (by decide +kernel) KS_nil (by decide +kernel)
def k_592 : eK := (283, (([]), [yj 8, yj 1], [], (13, [])), [(([]), some (yj 0), [], (13, []))], 0, 0, 1)
def ak_592 : List eAn := [(0, [], [], [])]
theorem K_592 {l : Launch} {D : va_G} {ca : Nat → ClassId} : KMet l D ca k_592 := K_gq (KS := []) (ini := false) (FL := []) (n := 12) (an := ak_592) h_283 rfl (by decide +kernel) KS_nil (by decide +kernel)
def k_593 : eK := (283, (([]), [yj 8, yj 2], [], (13, [])), [(([]), some (yj 0), [], (13, []))], 0, 0, 1)
def ak_593 : List eAn := [(0, [], [], [])]
theorem K_593 {l : Launch} {D : va_G} {ca : Nat → ClassId} : KMet l D ca k_593 := K_gq (KS := []) (ini := false) (FL := []) (n := 12) (an := ak_593) h_283 rfl (by decide +kernel) KS_nil (by decide +kernel)
def k_594 : eK := (283, (([]), [yj 8, yj 3], [], (13, [])), [(([]), some (yj 1), [], (13, []))], 0, 0, 1)
def ak_594 : List eAn := [(0, [], [], [])]
theorem K_594 {l : Launch} {D : va_G} {ca : Nat → ClassId} : KMet l D ca k_594 := K_gq (KS := []) (ini := false) (FL := []) (n := 13) (an := ak_594) h_283 rfl (by decide +kernel) KS_nil (by decide +kernel)
def k_595 : eK := (283, (([]), [yj 8, yj 4], [], (13, [])), [(([]), some (yj 0), [], (13, []))], 0, 0, 1)
def ak_595 : List eAn := [(0, [], [], [])]
theorem K_595 {l : Launch} {D : va_G} {ca : Nat → ClassId} : KMet l D ca k_595 := K_gq (KS := []) (ini := false) (FL := []) (n := 12) (an := ak_595) h_283 rfl (by decide +kernel) KS_nil (by decide +kernel)
def k_596 : eK := (328, (zv_872, [yr 13, yi 0, yj 8] ++ yis 1 3, [(13, zc_815), (15, zc_821), (30, yt 1 5 ([yf 5])), (31, yt 1 5 ([yf 5]))], (37, zf_822)), [(zv_873, none, [(15, zc_821), (13, zc_874), (30, yt 1 5 ([yf 5])), (31, yt 1 5 ([yf 5]))], (37, zf_822))], 0, 0, 3)
def ak_596 : List eAn := [(0, [], nas 0 13, []), (1, [], nas 0 13, []), (2, [], nas 0 13, []), (3, [], nas 0 13, []), (4, [yh 1 2, ye (yk 3), yh 4 151], nas 0 37, hsr 0 41), (5, [ye (yg [(0, 2)] 2), yh 155 2, yh 158 1, yh 4 31], nas 0 37, [[0, 81]]), (6, [], nas 0 13, []), (0, [yh 159 2], [], hsr 41 40 ++ [[0, 82]])]
theorem K_596 {l : Launch} {D : va_G} {ca : Nat → ClassId} : KMet l D ca k_596 := K_gq (KS := [k_591, k_592, k_593, k_594, k_573, k_588, k_595]) (ini := false) (FL := []) (n := 98) (an := ak_596) h_328 rfl (by decide +kernel) (KS_cons K_591 (KS_cons K_592 (KS_cons K_593 (KS_cons K_594 (KS_cons K_573 (KS_cons K_588 (KS_cons K_595 KS_nil))))))) (by decide +kernel)
def zv_875 : eEv := [ya 0 3] ++ yu 4 ++ yR 5 (ya 0 940) ++ [ya 0 4] ++ yu 4 ++ yU 1 ++ yu 1 ++ [ya 0 8] ++ yEm [yA 4294967295 4294967294, ya 0 5] 3 ++ yu 3 ++ [ya 0 64] ++ yu 1 ++ [ya 0 40, ya 0 1, ya 0 40, ya 0 20, ya 0 8, ya 0 39] ++ yu 120
def zv_876 : eEv := [ya 0 3] ++ yu 4 ++ yR 5 (ya 0 940) ++ [ya 0 4] ++ yu 4 ++ yU 1 ++ yu 1 ++ [ya 0 8] ++ yEm [yA 4294967295 4294967294, ya 0 5] 3 ++ yu 3 ++ [ya 0 64] ++ yu 1 ++ [ya 0 40, ya 0 1, ya 0 40, ya 0 20, ya 0 8, ya 0 39] ++ yu 121 ++ [ya 0 5]
def k_597 : eK := (328, (zv_875, [yr 13, yi 0, yj 24] ++ yis 1 3, [(13, zc_815), (15, zc_821), (30, yt 1 5 ([yf 5])), (31, yt 1 5 ([yf 5]))], (37, zf_822)), [(zv_876, none, [(15, zc_821), (13, zc_874), (30, yt 1 5 ([yf 5])), (31, yt 1 5 ([yf 5]))], (37, zf_822))], 0, 0, 4)
def ak_597 : List eAn := [(0, [], nas 0 13, []), (1, [], nas 0 13, []), (2, [], nas 0 13, []), (3, [], nas 0 13, []), (4, [yh 1 2, ye (yk 3), yh 4 151], nas 0 37, hsr 0 41), (5, [ye (yg [(0, 2)] 2), yh 155 2, yh 158 1, yh 4 151], nas 0 37, hsr 41 41), (6, [], nas 0 13, []), (4, [yh 1 2, ye (yk 4), yh 4 18, yh 159 2, yh 24 131], nas 0 37, hsr 82 41), (7, [ye (yg [(0, 2)] 2), yh 161 2, yh 164 1, yh 4 18, yh 159 2, yh 24 131], nas 0 37, hsr 123 41), (0, [yh 165 2], [], hsr 164 41)]
theorem K_597 {l : Launch} {D : va_G} {ca : Nat → ClassId} : KMet l D ca k_597 := K_gq (KS := [k_579, k_580, k_581, k_582, k_573, k_589, k_590, k_596]) (ini := false) (FL := []) (n := 135) (an := ak_597) h_328 rfl (by decide +kernel) (KS_cons K_579 (KS_cons K_580 (KS_cons K_581 (KS_cons K_582 (KS_cons K_573 (KS_cons K_589 (KS_cons K_590 (KS_cons K_596 KS_nil)))))))) (by decide +kernel)
def k_598 : eK := (283, (([]), [yj 28, yj 3], [], (13, [])), [(([]), some (yj 1), [], (13, []))], 0, 0, 1)
def ak_598 : List eAn := [(0, [], [], [])]
theorem K_598 {l : Launch} {D : va_G} {ca : Nat → ClassId} : KMet l D ca k_598 := K_gq (KS := []) (ini := false) (FL := []) (n := 13) (an := ak_598) h_283 rfl (by decide +kernel) KS_nil (by decide +kernel)
def k_599 : eK := (283, (([]), [yj 20, yj 0], [], (13, [])), [(([]), some (yj 0), [], (13, []))], 0, 0, 1)
def ak_599 : List eAn := [(0, [], [], [])]
theorem K_599 {l : Launch} {D : va_G} {ca : Nat → ClassId} : KMet l D ca k_599 := K_gq (KS := []) (ini := false) (FL := []) (n := 12) (an := ak_599) h_283 rfl (by decide +kernel) KS_nil (by decide +kernel)
def k_600 : eK := (283, (([]), [yj 20, yj 1], [], (13, [])), [(([]), some (yj 0), [], (13, []))], 0, 0, 1)
def ak_600 : List eAn := [(0, [], [], [])]
theorem K_600 {l : Launch} {D : va_G} {ca : Nat → ClassId} : KMet l D ca k_600 := K_gq (KS := []) (ini := false) (FL := []) (n := 12) (an := ak_600) h_283 rfl (by decide +kernel) KS_nil (by decide +kernel)
def k_601 : eK := (283, (([]), [yj 20, yj 2], [], (13, [])), [(([]), some (yj 1), [], (13, []))], 0, 0, 1)
def ak_601 : List eAn := [(0, [], [], [])]
theorem K_601 {l : Launch} {D : va_G} {ca : Nat → ClassId} : KMet l D ca k_601 := K_gq (KS := []) (ini := false) (FL := []) (n := 13) (an := ak_601) h_283 rfl (by decide +kernel) KS_nil (by decide +kernel)
def k_602 : eK := (283, (([]), [yj 20, yj 3], [], (13, [])), [(([]), some (yj 0), [], (13, []))], 0, 0, 1)
def ak_602 : List eAn := [(0, [], [], [])]
theorem K_602 {l : Launch} {D : va_G} {ca : Nat → ClassId} : KMet l D ca k_602 := K_gq (KS := []) (ini := false) (FL := []) (n := 12) (an := ak_602) h_283 rfl (by decide +kernel) KS_nil (by decide +kernel)
def k_603 : eK := (283, (([]), [yj 20, yj 4], [], (13, [])), [(([]), some (yj 1), [], (13, []))], 0, 0, 1)
def ak_603 : List eAn := [(0, [], [], [])]
theorem K_603 {l : Launch} {D : va_G} {ca : Nat → ClassId} : KMet l D ca k_603 := K_gq (KS := []) (ini := false) (FL := []) (n := 13) (an := ak_603) h_283 rfl (by decide +kernel) KS_nil (by decide +kernel)
def k_604 : eK := (283, (([]), [yj 4, yj 0], [], (13, [])), [(([]), some (yj 0), [], (13, []))], 0, 0, 1)
def ak_604 : List eAn := [(0, [], [], [])]
theorem K_604 {l : Launch} {D : va_G} {ca : Nat → ClassId} : KMet l D ca k_604 := K_gq (KS := []) (ini := false) (FL := []) (n := 12) (an := ak_604) h_283 rfl (by decide +kernel) KS_nil (by decide +kernel)
def k_605 : eK := (283, (([]), [yj 4, yj 1], [], (13, [])), [(([]), some (yj 0), [], (13, []))], 0, 0, 1)
def ak_605 : List eAn := [(0, [], [], [])]
theorem K_605 {l : Launch} {D : va_G} {ca : Nat → ClassId} : KMet l D ca k_605 := K_gq (KS := []) (ini := false) (FL := []) (n := 12) (an := ak_605) h_283 rfl (by decide +kernel) KS_nil (by decide +kernel)
def k_606 : eK := (283, (([]), [yj 4, yj 2], [], (13, [])), [(([]), some (yj 1), [], (13, []))], 0, 0, 1)
def ak_606 : List eAn := [(0, [], [], [])]
theorem K_606 {l : Launch} {D : va_G} {ca : Nat → ClassId} : KMet l D ca k_606 := K_gq (KS := []) (ini := false) (FL := []) (n := 13) (an := ak_606) h_283 rfl (by decide +kernel) KS_nil (by decide +kernel)
def k_607 : eK := (283, (([]), [yj 4, yj 3], [], (13, [])), [(([]), some (yj 0), [], (13, []))], 0, 0, 1)
def ak_607 : List eAn := [(0, [], [], [])]
theorem K_607 {l : Launch} {D : va_G} {ca : Nat → ClassId} : KMet l D ca k_607 := K_gq (KS := []) (ini := false) (FL := []) (n := 12) (an := ak_607) h_283 rfl (by decide +kernel) KS_nil (by decide +kernel)
def k_608 : eK := (283, (([]), [yj 4, yj 4], [], (13, [])), [(([]), some (yj 0), [], (13, []))], 0, 0, 1)
def ak_608 : List eAn := [(0, [], [], [])]
theorem K_608 {l : Launch} {D : va_G} {ca : Nat → ClassId} : KMet l D ca k_608 := K_gq (KS := []) (ini := false) (FL := []) (n := 12) (an := ak_608) h_283 rfl (by decide +kernel) KS_nil (by decide +kernel)
def k_609 : eK := (328, (zv_872, [yr 13, yi 0, yj 4] ++ yis 1 3, [(13, zc_815), (15, zc_821), (30, yt 1 5 ([yf 5])), (31, yt 1 5 ([yf 5]))], (37, zf_822)), [(zv_873, none, [(15, zc_821), (13, zc_874), (30, yt 1 5 ([yf 5])), (31, yt 1 5 ([yf 5]))], (37, zf_822))], 0, 0, 3)
def ak_609 : List eAn := [(0, [], nas 0 13, []), (1, [], nas 0 13, []), (2, [], nas 0 13, []), (3, [yh 1 2, ye (yk 2), yh 4 151], nas 0 37, hsr 0 41), (4, [ye (yg [(0, 2)] 2), yh 155 2, yh 158 1, yh 4 31], nas 0 37, [[0, 81]]), (5, [], nas 0 13, []), (6, [], nas 0 13, []), (0, [yh 159 2], [], hsr 41 40 ++ [[0, 82]])]
theorem K_609 {l : Launch} {D : va_G} {ca : Nat → ClassId} : KMet l D ca k_609 := K_gq (KS := [k_604, k_605, k_606, k_573, k_588, k_607, k_608]) (ini := false) (FL := []) (n := 98) (an := ak_609) h_328 rfl (by decide +kernel) (KS_cons K_604 (KS_cons K_605 (KS_cons K_606 (KS_cons K_573 (KS_cons K_588 (KS_cons K_607 (KS_cons K_608 KS_nil))))))) (by decide +kernel)
def k_610 : eK := (328, (zv_875, [yr 13, yi 0, yj 20] ++ yis 1 3, [(13, zc_815), (15, zc_821), (30, yt 1 5 ([yf 5])), (31, yt 1 5 ([yf 5]))], (37, zf_822)), [(zv_876, none, [(15, zc_821), (13, zc_874), (30, yt 1 5 ([yf 5])), (31, yt 1 5 ([yf 5]))], (37, zf_822))], 0, 0, 4)
def ak_610 : List eAn := [(0, [], nas 0 13, []), (1, [], nas 0 13, []), (2, [], nas 0 13, []), (3, [yh 1 2, ye (yk 2), yh 4 151], nas 0 37, hsr 0 41), (4, [ye (yg [(0, 2)] 2), yh 155 2, yh 158 1, yh 4 151], nas 0 37, hsr 41 41), (5, [], nas 0 13, []), (6, [], nas 0 13, []), (3, [yh 1 2, ye (yk 4), yh 4 18, yh 159 2, yh 24 131], nas 0 37, hsr 82 41), (7, [ye (yg [(0, 2)] 2), yh 161 2, yh 164 1, yh 4 18, yh 159 2, yh 24 131], nas 0 37, hsr 123 41), (0, [yh 165 2], [], hsr 164 41)]
theorem K_610 {l : Launch} {D : va_G} {ca : Nat → ClassId} : KMet l D ca k_610 := K_gq (KS := [k_599, k_600, k_601, k_573, k_589, k_602, k_603, k_609]) (ini := false) (FL := []) (n := 135) (an := ak_610) h_328 rfl (by decide +kernel) (KS_cons K_599 (KS_cons K_600 (KS_cons K_601 (KS_cons K_573 (KS_cons K_589 (KS_cons K_602 (KS_cons K_603 (KS_cons K_609 KS_nil)))))))) (by decide +kernel)
def k_611 : eK := (283, (([]), [yj 28, yj 4], [], (13, [])), [(([]), some (yj 1), [], (13, []))], 0, 0, 1)
def ak_611 : List eAn := [(0, [], [], [])]
theorem K_611 {l : Launch} {D : va_G} {ca : Nat → ClassId} : KMet l D ca k_611 := K_gq (KS := []) (ini := false) (FL := []) (n := 13) (an := ak_611) h_283 rfl (by decide +kernel) KS_nil (by decide +kernel)
def k_612 : eK := (283, (([]), [yj 12, yj 0], [], (13, [])), [(([]), some (yj 0), [], (13, []))], 0, 0, 1)
def ak_612 : List eAn := [(0, [], [], [])]
theorem K_612 {l : Launch} {D : va_G} {ca : Nat → ClassId} : KMet l D ca k_612 := K_gq (KS := []) (ini := false) (FL := []) (n := 12) (an := ak_612) h_283 rfl (by decide +kernel) KS_nil (by decide +kernel)
def k_613 : eK := (283, (([]), [yj 12, yj 1], [], (13, [])), [(([]), some (yj 0), [], (13, []))], 0, 0, 1)
def ak_613 : List eAn := [(0, [], [], [])]
theorem K_613 {l : Launch} {D : va_G} {ca : Nat → ClassId} : KMet l D ca k_613 := K_gq (KS := []) (ini := false) (FL := []) (n := 12) (an := ak_613) h_283 rfl (by decide +kernel) KS_nil (by decide +kernel)
def k_614 : eK := (283, (([]), [yj 12, yj 2], [], (13, [])), [(([]), some (yj 1), [], (13, []))], 0, 0, 1)
def ak_614 : List eAn := [(0, [], [], [])]
theorem K_614 {l : Launch} {D : va_G} {ca : Nat → ClassId} : KMet l D ca k_614 := K_gq (KS := []) (ini := false) (FL := []) (n := 13) (an := ak_614) h_283 rfl (by decide +kernel) KS_nil (by decide +kernel)
def k_615 : eK := (283, (([]), [yj 12, yj 3], [], (13, [])), [(([]), some (yj 1), [], (13, []))], 0, 0, 1)
def ak_615 : List eAn := [(0, [], [], [])]
theorem K_615 {l : Launch} {D : va_G} {ca : Nat → ClassId} : KMet l D ca k_615 := K_gq (KS := []) (ini := false) (FL := []) (n := 13) (an := ak_615) h_283 rfl (by decide +kernel) KS_nil (by decide +kernel)
def k_616 : eK := (283, (([]), [yj 12, yj 4], [], (13, [])), [(([]), some (yj 0), [], (13, []))], 0, 0, 1)
def ak_616 : List eAn := [(0, [], [], [])]
theorem K_616 {l : Launch} {D : va_G} {ca : Nat → ClassId} : KMet l D ca k_616 := K_gq (KS := []) (ini := false) (FL := []) (n := 12) (an := ak_616) h_283 rfl (by decide +kernel) KS_nil (by decide +kernel)
def k_617 : eK := (328, (zv_875, [yr 13, yi 0, yj 12] ++ yis 1 3, [(13, zc_815), (15, zc_821), (30, yt 1 5 ([yf 5])), (31, yt 1 5 ([yf 5]))], (37, zf_822)), [(zv_876, none, [(15, zc_821), (13, zc_874), (30, yt 1 5 ([yf 5])), (31, yt 1 5 ([yf 5]))], (37, zf_822))], 0, 0, 4)
def ak_617 : List eAn := [(0, [], nas 0 13, []), (1, [], nas 0 13, []), (2, [], nas 0 13, []), (3, [yh 1 2, ye (yk 2), yh 4 151], nas 0 37, hsr 0 41), (4, [ye (yg [(0, 2)] 2), yh 155 2, yh 158 1, yh 4 151], nas 0 37, hsr 41 41), (5, [], nas 0 13, []), (3, [yh 1 2, ye (yk 3), yh 4 18, yh 159 2, yh 24 131], nas 0 37, hsr 82 41), (6, [ye (yg [(0, 2)] 2), yh 161 2, yh 164 1, yh 4 18, yh 159 2, yh 24 131], nas 0 37, hsr 123 41), (7, [], nas 0 13, []), (0, [yh 165 2], [], hsr 164 41)]
theorem K_617 {l : Launch} {D : va_G} {ca : Nat → ClassId} : KMet l D ca k_617 := K_gq (KS := [k_612, k_613, k_614, k_573, k_596, k_615, k_609, k_616]) (ini := false) (FL := []) (n := 135) (an := ak_617) h_328 rfl (by decide +kernel) (KS_cons K_612 (KS_cons K_613 (KS_cons K_614 (KS_cons K_573 (KS_cons K_596 (KS_cons K_615 (KS_cons K_609 (KS_cons K_616 KS_nil)))))))) (by decide +kernel)
def zv_877 : eEv := [ya 0 2] ++ yu 4 ++ yR 5 (ya 0 940) ++ [ya 0 4] ++ yu 4 ++ yU 1 ++ yu 1 ++ [ya 0 8] ++ yEm [yA 4294967295 4294967294, ya 0 5] 3 ++ yu 3 ++ [ya 0 64] ++ yu 1 ++ [ya 0 40, ya 0 1, ya 0 40, ya 0 20, ya 0 8, ya 0 39] ++ yu 120
def zv_878 : eEv := [ya 0 2] ++ yu 4 ++ yR 5 (ya 0 940) ++ [ya 0 4] ++ yu 4 ++ yU 1 ++ yu 1 ++ [ya 0 8] ++ yEm [yA 4294967295 4294967294, ya 0 5] 3 ++ yu 3 ++ [ya 0 64] ++ yu 1 ++ [ya 0 40, ya 0 1, ya 0 40, ya 0 20, ya 0 8, ya 0 39] ++ yu 121 ++ [ya 0 5]
def k_618 : eK := (328, (zv_877, [yr 13, yi 0, yj 28] ++ yis 1 3, [(13, zc_815), (15, zc_821), (30, yt 1 5 ([yf 5])), (31, yt 1 5 ([yf 5]))], (37, zf_822)), [(zv_878, none, [(15, zc_821), (13, zc_874), (30, yt 1 5 ([yf 5])), (31, yt 1 5 ([yf 5]))], (37, zf_822))], 0, 0, 5)
def ak_618 : List eAn := [(0, [], nas 0 13, []), (1, [], nas 0 13, []), (2, [], nas 0 13, []), (3, [yh 1 2, ye (yk 2), yh 4 151], nas 0 37, hsr 0 41), (4, [ye (yg [(0, 2)] 2), yh 155 2, yh 158 1, yh 4 151], nas 0 37, hsr 41 41), (5, [], nas 0 13, []), (3, [yh 1 2, ye (yk 3), yh 4 18, yh 159 2, yh 24 131], nas 0 37, hsr 82 41), (6, [ye (yg [(0, 2)] 2), yh 161 2, yh 164 1, yh 4 18, yh 159 2, yh 24 131], nas 0 37, hsr 123 41), (7, [], nas 0 13, []), (3, [yh 1 2, ye (yk 4), yh 4 18, yh 165 2, yh 24 131], nas 0 37, hsr 164 41), (8, [ye (yg [(0, 2)] 2), yh 167 2, yh 170 1, yh 4 18, yh 165 2, yh 24 131], nas 0 37, hsr 205 41), (0, [yh 171 2], [], hsr 246 41)]
theorem K_618 {l : Launch} {D : va_G} {ca : Nat → ClassId} : KMet l D ca k_618 := K_gq (KS := [k_576, k_577, k_578, k_573, k_597, k_598, k_610, k_611, k_617]) (ini := false) (FL := []) (n := 172) (an := ak_618) h_328 rfl (by decide +kernel) (KS_cons K_576 (KS_cons K_577 (KS_cons K_578 (KS_cons K_573 (KS_cons K_597 (KS_cons K_598 (KS_cons K_610 (KS_cons K_611 (KS_cons K_617 KS_nil))))))))) (by decide +kernel)
def k_619 : eK := (283, (([]), [yj 30, yj 2], [], (13, [])), [(([]), some (yj 1), [], (13, []))], 0, 0, 1)
def ak_619 : List eAn := [(0, [], [], [])]
theorem K_619 {l : Launch} {D : va_G} {ca : Nat → ClassId} : KMet l D ca k_619 := K_gq (KS := []) (ini := false) (FL := []) (n := 13) (an := ak_619) h_283 rfl (by decide +kernel) KS_nil (by decide +kernel)
def k_620 : eK := (283, (([]), [yj 26, yj 0], [], (13, [])), [(([]), some (yj 0), [], (13, []))], 0, 0, 1)
def ak_620 : List eAn := [(0, [], [], [])]
theorem K_620 {l : Launch} {D : va_G} {ca : Nat → ClassId} : KMet l D ca k_620 := K_gq (KS := []) (ini := false) (FL := []) (n := 12) (an := ak_620) h_283 rfl (by decide +kernel) KS_nil (by decide +kernel)
def k_621 : eK := (283, (([]), [yj 26, yj 1], [], (13, [])), [(([]), some (yj 1), [], (13, []))], 0, 0, 1)
def ak_621 : List eAn := [(0, [], [], [])]
theorem K_621 {l : Launch} {D : va_G} {ca : Nat → ClassId} : KMet l D ca k_621 := K_gq (KS := []) (ini := false) (FL := []) (n := 13) (an := ak_621) h_283 rfl (by decide +kernel) KS_nil (by decide +kernel)
def k_622 : eK := (283, (([]), [yj 26, yj 2], [], (13, [])), [(([]), some (yj 0), [], (13, []))], 0, 0, 1)
def ak_622 : List eAn := [(0, [], [], [])]
theorem K_622 {l : Launch} {D : va_G} {ca : Nat → ClassId} : KMet l D ca k_622 := K_gq (KS := []) (ini := false) (FL := []) (n := 12) (an := ak_622) h_283 rfl (by decide +kernel) KS_nil (by decide +kernel)
def k_623 : eK := (283, (([]), [yj 26, yj 3], [], (13, [])), [(([]), some (yj 1), [], (13, []))], 0, 0, 1)
def ak_623 : List eAn := [(0, [], [], [])]
theorem K_623 {l : Launch} {D : va_G} {ca : Nat → ClassId} : KMet l D ca k_623 := K_gq (KS := []) (ini := false) (FL := []) (n := 13) (an := ak_623) h_283 rfl (by decide +kernel) KS_nil (by decide +kernel)
def k_624 : eK := (283, (([]), [yj 18, yj 0], [], (13, [])), [(([]), some (yj 0), [], (13, []))], 0, 0, 1)
def ak_624 : List eAn := [(0, [], [], [])]
theorem K_624 {l : Launch} {D : va_G} {ca : Nat → ClassId} : KMet l D ca k_624 := K_gq (KS := []) (ini := false) (FL := []) (n := 12) (an := ak_624) h_283 rfl (by decide +kernel) KS_nil (by decide +kernel)
def k_625 : eK := (283, (([]), [yj 18, yj 1], [], (13, [])), [(([]), some (yj 1), [], (13, []))], 0, 0, 1)
def ak_625 : List eAn := [(0, [], [], [])]
theorem K_625 {l : Launch} {D : va_G} {ca : Nat → ClassId} : KMet l D ca k_625 := K_gq (KS := []) (ini := false) (FL := []) (n := 13) (an := ak_625) h_283 rfl (by decide +kernel) KS_nil (by decide +kernel)
def k_626 : eK := (283, (([]), [yj 18, yj 2], [], (13, [])), [(([]), some (yj 0), [], (13, []))], 0, 0, 1)
def ak_626 : List eAn := [(0, [], [], [])]
theorem K_626 {l : Launch} {D : va_G} {ca : Nat → ClassId} : KMet l D ca k_626 := K_gq (KS := []) (ini := false) (FL := []) (n := 12) (an := ak_626) h_283 rfl (by decide +kernel) KS_nil (by decide +kernel)
def k_627 : eK := (283, (([]), [yj 18, yj 3], [], (13, [])), [(([]), some (yj 0), [], (13, []))], 0, 0, 1)
def ak_627 : List eAn := [(0, [], [], [])]
theorem K_627 {l : Launch} {D : va_G} {ca : Nat → ClassId} : KMet l D ca k_627 := K_gq (KS := []) (ini := false) (FL := []) (n := 12) (an := ak_627) h_283 rfl (by decide +kernel) KS_nil (by decide +kernel)
def k_628 : eK := (283, (([]), [yj 18, yj 4], [], (13, [])), [(([]), some (yj 1), [], (13, []))], 0, 0, 1)
def ak_628 : List eAn := [(0, [], [], [])]
theorem K_628 {l : Launch} {D : va_G} {ca : Nat → ClassId} : KMet l D ca k_628 := K_gq (KS := []) (ini := false) (FL := []) (n := 13) (an := ak_628) h_283 rfl (by decide +kernel) KS_nil (by decide +kernel)
def k_629 : eK := (283, (([]), [yj 2, yj 0], [], (13, [])), [(([]), some (yj 0), [], (13, []))], 0, 0, 1)
def ak_629 : List eAn := [(0, [], [], [])]
theorem K_629 {l : Launch} {D : va_G} {ca : Nat → ClassId} : KMet l D ca k_629 := K_gq (KS := []) (ini := false) (FL := []) (n := 12) (an := ak_629) h_283 rfl (by decide +kernel) KS_nil (by decide +kernel)
def k_630 : eK := (283, (([]), [yj 2, yj 1], [], (13, [])), [(([]), some (yj 1), [], (13, []))], 0, 0, 1)
def ak_630 : List eAn := [(0, [], [], [])]
theorem K_630 {l : Launch} {D : va_G} {ca : Nat → ClassId} : KMet l D ca k_630 := K_gq (KS := []) (ini := false) (FL := []) (n := 13) (an := ak_630) h_283 rfl (by decide +kernel) KS_nil (by decide +kernel)
def k_631 : eK := (283, (([]), [yj 2, yj 2], [], (13, [])), [(([]), some (yj 0), [], (13, []))], 0, 0, 1)
def ak_631 : List eAn := [(0, [], [], [])]
theorem K_631 {l : Launch} {D : va_G} {ca : Nat → ClassId} : KMet l D ca k_631 := K_gq (KS := []) (ini := false) (FL := []) (n := 12) (an := ak_631) h_283 rfl (by decide +kernel) KS_nil (by decide +kernel)
def k_632 : eK := (283, (([]), [yj 2, yj 3], [], (13, [])), [(([]), some (yj 0), [], (13, []))], 0, 0, 1)
def ak_632 : List eAn := [(0, [], [], [])]
theorem K_632 {l : Launch} {D : va_G} {ca : Nat → ClassId} : KMet l D ca k_632 := K_gq (KS := []) (ini := false) (FL := []) (n := 12) (an := ak_632) h_283 rfl (by decide +kernel) KS_nil (by decide +kernel)
def k_633 : eK := (283, (([]), [yj 2, yj 4], [], (13, [])), [(([]), some (yj 0), [], (13, []))], 0, 0, 1)
def ak_633 : List eAn := [(0, [], [], [])]
theorem K_633 {l : Launch} {D : va_G} {ca : Nat → ClassId} : KMet l D ca k_633 := K_gq (KS := []) (ini := false) (FL := []) (n := 12) (an := ak_633) h_283 rfl (by decide +kernel) KS_nil (by decide +kernel)
def k_634 : eK := (328, (zv_872, [yr 13, yi 0, yj 2] ++ yis 1 3, [(13, zc_815), (15, zc_821), (30, yt 1 5 ([yf 5])), (31, yt 1 5 ([yf 5]))], (37, zf_822)), [(zv_873, none, [(15, zc_821), (13, zc_874), (30, yt 1 5 ([yf 5])), (31, yt 1 5 ([yf 5]))], (37, zf_822))], 0, 0, 3)
def ak_634 : List eAn := [(0, [], nas 0 13, []), (1, [], nas 0 13, []), (2, [yh 1 2, ye (yk 1), yh 4 151], nas 0 37, hsr 0 41), (3, [ye (yg [(0, 2)] 2), yh 155 2, yh 158 1, yh 4 31], nas 0 37, [[0, 81]]), (4, [], nas 0 13, []), (5, [], nas 0 13, []), (6, [], nas 0 13, []), (0, [yh 159 2], [], hsr 41 40 ++ [[0, 82]])]
theorem K_634 {l : Launch} {D : va_G} {ca : Nat → ClassId} : KMet l D ca k_634 := K_gq (KS := [k_629, k_630, k_573, k_588, k_631, k_632, k_633]) (ini := false) (FL := []) (n := 98) (an := ak_634) h_328 rfl (by decide +kernel) (KS_cons K_629 (KS_cons K_630 (KS_cons K_573 (KS_cons K_588 (KS_cons K_631 (KS_cons K_632 (KS_cons K_633 KS_nil))))))) (by decide +kernel)
def k_635 : eK := (328, (zv_875, [yr 13, yi 0, yj 18] ++ yis 1 3, [(13, zc_815), (15, zc_821), (30, yt 1 5 ([yf 5])), (31, yt 1 5 ([yf 5]))], (37, zf_822)), [(zv_876, none, [(15, zc_821), (13, zc_874), (30, yt 1 5 ([yf 5])), (31, yt 1 5 ([yf 5]))], (37, zf_822))], 0, 0, 4)
def ak_635 : List eAn := [(0, [], nas 0 13, []), (1, [], nas 0 13, []), (2, [yh 1 2, ye (yk 1), yh 4 151], nas 0 37, hsr 0 41), (3, [ye (yg [(0, 2)] 2), yh 155 2, yh 158 1, yh 4 151], nas 0 37, hsr 41 41), (4, [], nas 0 13, []), (5, [], nas 0 13, []), (6, [], nas 0 13, []), (2, [yh 1 2, ye (yk 4), yh 4 18, yh 159 2, yh 24 131], nas 0 37, hsr 82 41), (7, [ye (yg [(0, 2)] 2), yh 161 2, yh 164 1, yh 4 18, yh 159 2, yh 24 131], nas 0 37, hsr 123 41), (0, [yh 165 2], [], hsr 164 41)]
theorem K_635 {l : Launch} {D : va_G} {ca : Nat → ClassId} : KMet l D ca k_635 := K_gq (KS := [k_624, k_625, k_573, k_589, k_626, k_627, k_628, k_634]) (ini := false) (FL := []) (n := 135) (an := ak_635) h_328 rfl (by decide +kernel) (KS_cons K_624 (KS_cons K_625 (KS_cons K_573 (KS_cons K_589 (KS_cons K_626 (KS_cons K_627 (KS_cons K_628 (KS_cons K_634 KS_nil)))))))) (by decide +kernel)
def k_636 : eK := (283, (([]), [yj 26, yj 4], [], (13, [])), [(([]), some (yj 1), [], (13, []))], 0, 0, 1)
def ak_636 : List eAn := [(0, [], [], [])]
theorem K_636 {l : Launch} {D : va_G} {ca : Nat → ClassId} : KMet l D ca k_636 := K_gq (KS := []) (ini := false) (FL := []) (n := 13) (an := ak_636) h_283 rfl (by decide +kernel) KS_nil (by decide +kernel)
def k_637 : eK := (283, (([]), [yj 10, yj 0], [], (13, [])), [(([]), some (yj 0), [], (13, []))], 0, 0, 1)
def ak_637 : List eAn := [(0, [], [], [])]
theorem K_637 {l : Launch} {D : va_G} {ca : Nat → ClassId} : KMet l D ca k_637 := K_gq (KS := []) (ini := false) (FL := []) (n := 12) (an := ak_637) h_283 rfl (by decide +kernel) KS_nil (by decide +kernel)
def k_638 : eK := (283, (([]), [yj 10, yj 1], [], (13, [])), [(([]), some (yj 1), [], (13, []))], 0, 0, 1)
def ak_638 : List eAn := [(0, [], [], [])]
theorem K_638 {l : Launch} {D : va_G} {ca : Nat → ClassId} : KMet l D ca k_638 := K_gq (KS := []) (ini := false) (FL := []) (n := 13) (an := ak_638) h_283 rfl (by decide +kernel) KS_nil (by decide +kernel)
def k_639 : eK := (283, (([]), [yj 10, yj 2], [], (13, [])), [(([]), some (yj 0), [], (13, []))], 0, 0, 1)
def ak_639 : List eAn := [(0, [], [], [])]
theorem K_639 {l : Launch} {D : va_G} {ca : Nat → ClassId} : KMet l D ca k_639 := K_gq (KS := []) (ini := false) (FL := []) (n := 12) (an := ak_639) h_283 rfl (by decide +kernel) KS_nil (by decide +kernel)
def k_640 : eK := (283, (([]), [yj 10, yj 3], [], (13, [])), [(([]), some (yj 1), [], (13, []))], 0, 0, 1)
def ak_640 : List eAn := [(0, [], [], [])]
theorem K_640 {l : Launch} {D : va_G} {ca : Nat → ClassId} : KMet l D ca k_640 := K_gq (KS := []) (ini := false) (FL := []) (n := 13) (an := ak_640) h_283 rfl (by decide +kernel) KS_nil (by decide +kernel)
def k_641 : eK := (283, (([]), [yj 10, yj 4], [], (13, [])), [(([]), some (yj 0), [], (13, []))], 0, 0, 1)
def ak_641 : List eAn := [(0, [], [], [])]
theorem K_641 {l : Launch} {D : va_G} {ca : Nat → ClassId} : KMet l D ca k_641 := K_gq (KS := []) (ini := false) (FL := []) (n := 12) (an := ak_641) h_283 rfl (by decide +kernel) KS_nil (by decide +kernel)
def k_642 : eK := (328, (zv_875, [yr 13, yi 0, yj 10] ++ yis 1 3, [(13, zc_815), (15, zc_821), (30, yt 1 5 ([yf 5])), (31, yt 1 5 ([yf 5]))], (37, zf_822)), [(zv_876, none, [(15, zc_821), (13, zc_874), (30, yt 1 5 ([yf 5])), (31, yt 1 5 ([yf 5]))], (37, zf_822))], 0, 0, 4)
def ak_642 : List eAn := [(0, [], nas 0 13, []), (1, [], nas 0 13, []), (2, [yh 1 2, ye (yk 1), yh 4 151], nas 0 37, hsr 0 41), (3, [ye (yg [(0, 2)] 2), yh 155 2, yh 158 1, yh 4 151], nas 0 37, hsr 41 41), (4, [], nas 0 13, []), (5, [], nas 0 13, []), (2, [yh 1 2, ye (yk 3), yh 4 18, yh 159 2, yh 24 131], nas 0 37, hsr 82 41), (6, [ye (yg [(0, 2)] 2), yh 161 2, yh 164 1, yh 4 18, yh 159 2, yh 24 131], nas 0 37, hsr 123 41), (7, [], nas 0 13, []), (0, [yh 165 2], [], hsr 164 41)]
theorem K_642 {l : Launch} {D : va_G} {ca : Nat → ClassId} : KMet l D ca k_642 := K_gq (KS := [k_637, k_638, k_573, k_596, k_639, k_640, k_634, k_641]) (ini := false) (FL := []) (n := 135) (an := ak_642) h_328 rfl (by decide +kernel) (KS_cons K_637 (KS_cons K_638 (KS_cons K_573 (KS_cons K_596 (KS_cons K_639 (KS_cons K_640 (KS_cons K_634 (KS_cons K_641 KS_nil)))))))) (by decide +kernel)
def k_643 : eK := (328, (zv_877, [yr 13, yi 0, yj 26] ++ yis 1 3, [(13, zc_815), (15, zc_821), (30, yt 1 5 ([yf 5])), (31, yt 1 5 ([yf 5]))], (37, zf_822)), [(zv_878, none, [(15, zc_821), (13, zc_874), (30, yt 1 5 ([yf 5])), (31, yt 1 5 ([yf 5]))], (37, zf_822))], 0, 0, 5)
def ak_643 : List eAn := [(0, [], nas 0 13, []), (1, [], nas 0 13, []), (2, [yh 1 2, ye (yk 1), yh 4 151], nas 0 37, hsr 0 41), (3, [ye (yg [(0, 2)] 2), yh 155 2, yh 158 1, yh 4 151], nas 0 37, hsr 41 41), (4, [], nas 0 13, []), (5, [], nas 0 13, []), (2, [yh 1 2, ye (yk 3), yh 4 18, yh 159 2, yh 24 131], nas 0 37, hsr 82 41), (6, [ye (yg [(0, 2)] 2), yh 161 2, yh 164 1, yh 4 18, yh 159 2, yh 24 131], nas 0 37, hsr 123 41), (7, [], nas 0 13, []), (2, [yh 1 2, ye (yk 4), yh 4 18, yh 165 2, yh 24 131], nas 0 37, hsr 164 41), (8, [ye (yg [(0, 2)] 2), yh 167 2, yh 170 1, yh 4 18, yh 165 2, yh 24 131], nas 0 37, hsr 205 41), (0, [yh 171 2], [], hsr 246 41)]
theorem K_643 {l : Launch} {D : va_G} {ca : Nat → ClassId} : KMet l D ca k_643 := K_gq (KS := [k_620, k_621, k_573, k_597, k_622, k_623, k_635, k_636, k_642]) (ini := false) (FL := []) (n := 172) (an := ak_643) h_328 rfl (by decide +kernel) (KS_cons K_620 (KS_cons K_621 (KS_cons K_573 (KS_cons K_597 (KS_cons K_622 (KS_cons K_623 (KS_cons K_635 (KS_cons K_636 (KS_cons K_642 KS_nil))))))))) (by decide +kernel)
def k_644 : eK := (283, (([]), [yj 30, yj 3], [], (13, [])), [(([]), some (yj 1), [], (13, []))], 0, 0, 1)
def ak_644 : List eAn := [(0, [], [], [])]
theorem K_644 {l : Launch} {D : va_G} {ca : Nat → ClassId} : KMet l D ca k_644 := K_gq (KS := []) (ini := false) (FL := []) (n := 13) (an := ak_644) h_283 rfl (by decide +kernel) KS_nil (by decide +kernel)
def k_645 : eK := (283, (([]), [yj 22, yj 0], [], (13, [])), [(([]), some (yj 0), [], (13, []))], 0, 0, 1)
def ak_645 : List eAn := [(0, [], [], [])]
theorem K_645 {l : Launch} {D : va_G} {ca : Nat → ClassId} : KMet l D ca k_645 := K_gq (KS := []) (ini := false) (FL := []) (n := 12) (an := ak_645) h_283 rfl (by decide +kernel) KS_nil (by decide +kernel)
def k_646 : eK := (283, (([]), [yj 22, yj 1], [], (13, [])), [(([]), some (yj 1), [], (13, []))], 0, 0, 1)
def ak_646 : List eAn := [(0, [], [], [])]
theorem K_646 {l : Launch} {D : va_G} {ca : Nat → ClassId} : KMet l D ca k_646 := K_gq (KS := []) (ini := false) (FL := []) (n := 13) (an := ak_646) h_283 rfl (by decide +kernel) KS_nil (by decide +kernel)
def k_647 : eK := (283, (([]), [yj 22, yj 2], [], (13, [])), [(([]), some (yj 1), [], (13, []))], 0, 0, 1)
def ak_647 : List eAn := [(0, [], [], [])]
theorem K_647 {l : Launch} {D : va_G} {ca : Nat → ClassId} : KMet l D ca k_647 := K_gq (KS := []) (ini := false) (FL := []) (n := 13) (an := ak_647) h_283 rfl (by decide +kernel) KS_nil (by decide +kernel)
def k_648 : eK := (283, (([]), [yj 22, yj 3], [], (13, [])), [(([]), some (yj 0), [], (13, []))], 0, 0, 1)
def ak_648 : List eAn := [(0, [], [], [])]
theorem K_648 {l : Launch} {D : va_G} {ca : Nat → ClassId} : KMet l D ca k_648 := K_gq (KS := []) (ini := false) (FL := []) (n := 12) (an := ak_648) h_283 rfl (by decide +kernel) KS_nil (by decide +kernel)
def k_649 : eK := (283, (([]), [yj 22, yj 4], [], (13, [])), [(([]), some (yj 1), [], (13, []))], 0, 0, 1)
def ak_649 : List eAn := [(0, [], [], [])]
theorem K_649 {l : Launch} {D : va_G} {ca : Nat → ClassId} : KMet l D ca k_649 := K_gq (KS := []) (ini := false) (FL := []) (n := 13) (an := ak_649) h_283 rfl (by decide +kernel) KS_nil (by decide +kernel)
def k_650 : eK := (283, (([]), [yj 6, yj 0], [], (13, [])), [(([]), some (yj 0), [], (13, []))], 0, 0, 1)
def ak_650 : List eAn := [(0, [], [], [])]
theorem K_650 {l : Launch} {D : va_G} {ca : Nat → ClassId} : KMet l D ca k_650 := K_gq (KS := []) (ini := false) (FL := []) (n := 12) (an := ak_650) h_283 rfl (by decide +kernel) KS_nil (by decide +kernel)
def k_651 : eK := (283, (([]), [yj 6, yj 1], [], (13, [])), [(([]), some (yj 1), [], (13, []))], 0, 0, 1)
def ak_651 : List eAn := [(0, [], [], [])]
theorem K_651 {l : Launch} {D : va_G} {ca : Nat → ClassId} : KMet l D ca k_651 := K_gq (KS := []) (ini := false) (FL := []) (n := 13) (an := ak_651) h_283 rfl (by decide +kernel) KS_nil (by decide +kernel)
def k_652 : eK := (283, (([]), [yj 6, yj 2], [], (13, [])), [(([]), some (yj 1), [], (13, []))], 0, 0, 1)
def ak_652 : List eAn := [(0, [], [], [])]
theorem K_652 {l : Launch} {D : va_G} {ca : Nat → ClassId} : KMet l D ca k_652 := K_gq (KS := []) (ini := false) (FL := []) (n := 13) (an := ak_652) h_283 rfl (by decide +kernel) KS_nil (by decide +kernel)
def k_653 : eK := (283, (([]), [yj 6, yj 3], [], (13, [])), [(([]), some (yj 0), [], (13, []))], 0, 0, 1)
def ak_653 : List eAn := [(0, [], [], [])]
theorem K_653 {l : Launch} {D : va_G} {ca : Nat → ClassId} : KMet l D ca k_653 := K_gq (KS := []) (ini := false) (FL := []) (n := 12) (an := ak_653) h_283 rfl (by decide +kernel) KS_nil (by decide +kernel)
def k_654 : eK := (283, (([]), [yj 6, yj 4], [], (13, [])), [(([]), some (yj 0), [], (13, []))], 0, 0, 1)
def ak_654 : List eAn := [(0, [], [], [])]
theorem K_654 {l : Launch} {D : va_G} {ca : Nat → ClassId} : KMet l D ca k_654 := K_gq (KS := []) (ini := false) (FL := []) (n := 12) (an := ak_654) h_283 rfl (by decide +kernel) KS_nil (by decide +kernel)
def k_655 : eK := (328, (zv_875, [yr 13, yi 0, yj 6] ++ yis 1 3, [(13, zc_815), (15, zc_821), (30, yt 1 5 ([yf 5])), (31, yt 1 5 ([yf 5]))], (37, zf_822)), [(zv_876, none, [(15, zc_821), (13, zc_874), (30, yt 1 5 ([yf 5])), (31, yt 1 5 ([yf 5]))], (37, zf_822))], 0, 0, 4)
def ak_655 : List eAn := [(0, [], nas 0 13, []), (1, [], nas 0 13, []), (2, [yh 1 2, ye (yk 1), yh 4 151], nas 0 37, hsr 0 41), (3, [ye (yg [(0, 2)] 2), yh 155 2, yh 158 1, yh 4 151], nas 0 37, hsr 41 41), (4, [], nas 0 13, []), (2, [yh 1 2, ye (yk 2), yh 4 18, yh 159 2, yh 24 131], nas 0 37, hsr 82 41), (5, [ye (yg [(0, 2)] 2), yh 161 2, yh 164 1, yh 4 18, yh 159 2, yh 24 131], nas 0 37, hsr 123 41), (6, [], nas 0 13, []), (7, [], nas 0 13, []), (0, [yh 165 2], [], hsr 164 41)]
theorem K_655 {l : Launch} {D : va_G} {ca : Nat → ClassId} : KMet l D ca k_655 := K_gq (KS := [k_650, k_651, k_573, k_609, k_652, k_634, k_653, k_654]) (ini := false) (FL := []) (n := 135) (an := ak_655) h_328 rfl (by decide +kernel) (KS_cons K_650 (KS_cons K_651 (KS_cons K_573 (KS_cons K_609 (KS_cons K_652 (KS_cons K_634 (KS_cons K_653 (KS_cons K_654 KS_nil)))))))) (by decide +kernel)
def k_656 : eK := (328, (zv_877, [yr 13, yi 0, yj 22] ++ yis 1 3, [(13, zc_815), (15, zc_821), (30, yt 1 5 ([yf 5])), (31, yt 1 5 ([yf 5]))], (37, zf_822)), [(zv_878, none, [(15, zc_821), (13, zc_874), (30, yt 1 5 ([yf 5])), (31, yt 1 5 ([yf 5]))], (37, zf_822))], 0, 0, 5)
def ak_656 : List eAn := [(0, [], nas 0 13, []), (1, [], nas 0 13, []), (2, [yh 1 2, ye (yk 1), yh 4 151], nas 0 37, hsr 0 41), (3, [ye (yg [(0, 2)] 2), yh 155 2, yh 158 1, yh 4 151], nas 0 37, hsr 41 41), (4, [], nas 0 13, []), (2, [yh 1 2, ye (yk 2), yh 4 18, yh 159 2, yh 24 131], nas 0 37, hsr 82 41), (5, [ye (yg [(0, 2)] 2), yh 161 2, yh 164 1, yh 4 18, yh 159 2, yh 24 131], nas 0 37, hsr 123 41), (6, [], nas 0 13, []), (7, [], nas 0 13, []), (2, [yh 1 2, ye (yk 4), yh 4 18, yh 165 2, yh 24 131], nas 0 37, hsr 164 41), (8, [ye (yg [(0, 2)] 2), yh 167 2, yh 170 1, yh 4 18, yh 165 2, yh 24 131], nas 0 37, hsr 205 41), (0, [yh 171 2], [], hsr 246 41)]
theorem K_656 {l : Launch} {D : va_G} {ca : Nat → ClassId} : KMet l D ca k_656 := K_gq (KS := [k_645, k_646, k_573, k_610, k_647, k_635, k_648, k_649, k_655]) (ini := false) (FL := []) (n := 172) (an := ak_656) h_328 rfl (by decide +kernel) (KS_cons K_645 (KS_cons K_646 (KS_cons K_573 (KS_cons K_610 (KS_cons K_647 (KS_cons K_635 (KS_cons K_648 (KS_cons K_649 (KS_cons K_655 KS_nil))))))))) (by decide +kernel)
def k_657 : eK := (283, (([]), [yj 30, yj 4], [], (13, [])), [(([]), some (yj 1), [], (13, []))], 0, 0, 1)
def ak_657 : List eAn := [(0, [], [], [])]
theorem K_657 {l : Launch} {D : va_G} {ca : Nat → ClassId} : KMet l D ca k_657 := K_gq (KS := []) (ini := false) (FL := []) (n := 13) (an := ak_657) h_283 rfl (by decide +kernel) KS_nil (by decide +kernel)
def k_658 : eK := (283, (([]), [yj 14, yj 0], [], (13, [])), [(([]), some (yj 0), [], (13, []))], 0, 0, 1)
def ak_658 : List eAn := [(0, [], [], [])]
theorem K_658 {l : Launch} {D : va_G} {ca : Nat → ClassId} : KMet l D ca k_658 := K_gq (KS := []) (ini := false) (FL := []) (n := 12) (an := ak_658) h_283 rfl (by decide +kernel) KS_nil (by decide +kernel)
def k_659 : eK := (283, (([]), [yj 14, yj 1], [], (13, [])), [(([]), some (yj 1), [], (13, []))], 0, 0, 1)
def ak_659 : List eAn := [(0, [], [], [])]
theorem K_659 {l : Launch} {D : va_G} {ca : Nat → ClassId} : KMet l D ca k_659 := K_gq (KS := []) (ini := false) (FL := []) (n := 13) (an := ak_659) h_283 rfl (by decide +kernel) KS_nil (by decide +kernel)
def k_660 : eK := (283, (([]), [yj 14, yj 2], [], (13, [])), [(([]), some (yj 1), [], (13, []))], 0, 0, 1)
def ak_660 : List eAn := [(0, [], [], [])]
theorem K_660 {l : Launch} {D : va_G} {ca : Nat → ClassId} : KMet l D ca k_660 := K_gq (KS := []) (ini := false) (FL := []) (n := 13) (an := ak_660) h_283 rfl (by decide +kernel) KS_nil (by decide +kernel)
def k_661 : eK := (283, (([]), [yj 14, yj 3], [], (13, [])), [(([]), some (yj 1), [], (13, []))], 0, 0, 1)
def ak_661 : List eAn := [(0, [], [], [])]
theorem K_661 {l : Launch} {D : va_G} {ca : Nat → ClassId} : KMet l D ca k_661 := K_gq (KS := []) (ini := false) (FL := []) (n := 13) (an := ak_661) h_283 rfl (by decide +kernel) KS_nil (by decide +kernel)
def k_662 : eK := (283, (([]), [yj 14, yj 4], [], (13, [])), [(([]), some (yj 0), [], (13, []))], 0, 0, 1)
def ak_662 : List eAn := [(0, [], [], [])]
theorem K_662 {l : Launch} {D : va_G} {ca : Nat → ClassId} : KMet l D ca k_662 := K_gq (KS := []) (ini := false) (FL := []) (n := 12) (an := ak_662) h_283 rfl (by decide +kernel) KS_nil (by decide +kernel)
def k_663 : eK := (328, (zv_877, [yr 13, yi 0, yj 14] ++ yis 1 3, [(13, zc_815), (15, zc_821), (30, yt 1 5 ([yf 5])), (31, yt 1 5 ([yf 5]))], (37, zf_822)), [(zv_878, none, [(15, zc_821), (13, zc_874), (30, yt 1 5 ([yf 5])), (31, yt 1 5 ([yf 5]))], (37, zf_822))], 0, 0, 5)
def ak_663 : List eAn := [(0, [], nas 0 13, []), (1, [], nas 0 13, []), (2, [yh 1 2, ye (yk 1), yh 4 151], nas 0 37, hsr 0 41), (3, [ye (yg [(0, 2)] 2), yh 155 2, yh 158 1, yh 4 151], nas 0 37, hsr 41 41), (4, [], nas 0 13, []), (2, [yh 1 2, ye (yk 2), yh 4 18, yh 159 2, yh 24 131], nas 0 37, hsr 82 41), (5, [ye (yg [(0, 2)] 2), yh 161 2, yh 164 1, yh 4 18, yh 159 2, yh 24 131], nas 0 37, hsr 123 41), (6, [], nas 0 13, []), (2, [yh 1 2, ye (yk 3), yh 4 18, yh 165 2, yh 24 131], nas 0 37, hsr 164 41), (7, [ye (yg [(0, 2)] 2), yh 167 2, yh 170 1, yh 4 18, yh 165 2, yh 24 131], nas 0 37, hsr 205 41), (8, [], nas 0 13, []), (0, [yh 171 2], [], hsr 246 41)]
theorem K_663 {l : Launch} {D : va_G} {ca : Nat → ClassId} : KMet l D ca k_663 := K_gq (KS := [k_658, k_659, k_573, k_617, k_660, k_642, k_661, k_655, k_662]) (ini := false) (FL := []) (n := 172) (an := ak_663) h_328 rfl (by decide +kernel) (KS_cons K_658 (KS_cons K_659 (KS_cons K_573 (KS_cons K_617 (KS_cons K_660 (KS_cons K_642 (KS_cons K_661 (KS_cons K_655 (KS_cons K_662 KS_nil))))))))) (by decide +kernel)
def zv_879 : eEv := [ya 0 1] ++ yu 4 ++ yR 5 (ya 0 940) ++ [ya 0 4] ++ yu 4 ++ yU 1 ++ yu 1 ++ [ya 0 8] ++ yEm [yA 4294967295 4294967294, ya 0 5] 3 ++ yu 3 ++ [ya 0 64] ++ yu 1 ++ [ya 0 40, ya 0 1, ya 0 40, ya 0 20, ya 0 8, ya 0 39] ++ yu 120
def zv_880 : eEv := [ya 0 1] ++ yu 4 ++ yR 5 (ya 0 940) ++ [ya 0 4] ++ yu 4 ++ yU 1 ++ yu 1 ++ [ya 0 8] ++ yEm [yA 4294967295 4294967294, ya 0 5] 3 ++ yu 3 ++ [ya 0 64] ++ yu 1 ++ [ya 0 40, ya 0 1, ya 0 40, ya 0 20, ya 0 8, ya 0 39] ++ yu 121 ++ [ya 0 5]
def k_664 : eK := (328, (zv_879, [yr 13, yi 0, yj 30] ++ yis 1 3, [(13, zc_815), (15, zc_821), (30, yt 1 5 ([yf 5])), (31, yt 1 5 ([yf 5]))], (37, zf_822)), [(zv_880, none, [(15, zc_821), (13, zc_874), (30, yt 1 5 ([yf 5])), (31, yt 1 5 ([yf 5]))], (37, zf_822))], 0, 0, 6)
def ak_664 : List eAn := [(0, [], nas 0 13, []), (1, [], nas 0 13, []), (2, [yh 1 2, ye (yk 1), yh 4 151], nas 0 37, hsr 0 41), (3, [ye (yg [(0, 2)] 2), yh 155 2, yh 158 1, yh 4 151], nas 0 37, hsr 41 41), (4, [], nas 0 13, []), (2, [yh 1 2, ye (yk 2), yh 4 18, yh 159 2, yh 24 131], nas 0 37, hsr 82 41), (5, [ye (yg [(0, 2)] 2), yh 161 2, yh 164 1, yh 4 18, yh 159 2, yh 24 131], nas 0 37, hsr 123 41), (6, [], nas 0 13, []), (2, [yh 1 2, ye (yk 3), yh 4 18, yh 165 2, yh 24 131], nas 0 37, hsr 164 41), (7, [ye (yg [(0, 2)] 2), yh 167 2, yh 170 1, yh 4 18, yh 165 2, yh 24 131], nas 0 37, hsr 205 41), (8, [], nas 0 13, []), (2, [yh 1 2, ye (yk 4), yh 4 18, yh 171 2, yh 24 131], nas 0 37, hsr 246 41), (9, [ye (yg [(0, 2)] 2), yh 173 2, yh 176 1, yh 4 18, yh 171 2, yh 24 131], nas 0 37, hsr 287 41), (0, [yh 177 2], [], hsr 328 41)]
theorem K_664 {l : Launch} {D : va_G} {ca : Nat → ClassId} : KMet l D ca k_664 := K_gq (KS := [k_574, k_575, k_573, k_618, k_619, k_643, k_644, k_656, k_657, k_663]) (ini := false) (FL := []) (n := 209) (an := ak_664) h_328 rfl (by decide +kernel) (KS_cons K_574 (KS_cons K_575 (KS_cons K_573 (KS_cons K_618 (KS_cons K_619 (KS_cons K_643 (KS_cons K_644 (KS_cons K_656 (KS_cons K_657 (KS_cons K_663 KS_nil)))))))))) (by decide +kernel)
def k_665 : eK := (283, (([ya 31 31]), [yi 0, yj 1], [], (13, [])), [(([ya 31 31]), some (yj 1), [], (13, []))], 0, 0, 1)
def ak_665 : List eAn := [(0, [], [], [])]
theorem K_665 {l : Launch} {D : va_G} {ca : Nat → ClassId} : KMet l D ca k_665 := K_gq (KS := []) (ini := false) (FL := []) (n := 13) (an := ak_665) h_283 rfl (by decide +kernel) KS_nil (by decide +kernel)
def k_666 : eK := (283, (([]), [yj 29, yj 0], [], (13, [])), [(([]), some (yj 1), [], (13, []))], 0, 0, 1)
def ak_666 : List eAn := [(0, [], [], [])]
theorem K_666 {l : Launch} {D : va_G} {ca : Nat → ClassId} : KMet l D ca k_666 := K_gq (KS := []) (ini := false) (FL := []) (n := 13) (an := ak_666) h_283 rfl (by decide +kernel) KS_nil (by decide +kernel)
def k_667 : eK := (283, (([]), [yj 29, yj 1], [], (13, [])), [(([]), some (yj 0), [], (13, []))], 0, 0, 1)
def ak_667 : List eAn := [(0, [], [], [])]
theorem K_667 {l : Launch} {D : va_G} {ca : Nat → ClassId} : KMet l D ca k_667 := K_gq (KS := []) (ini := false) (FL := []) (n := 12) (an := ak_667) h_283 rfl (by decide +kernel) KS_nil (by decide +kernel)
def k_668 : eK := (283, (([]), [yj 29, yj 2], [], (13, [])), [(([]), some (yj 1), [], (13, []))], 0, 0, 1)
def ak_668 : List eAn := [(0, [], [], [])]
theorem K_668 {l : Launch} {D : va_G} {ca : Nat → ClassId} : KMet l D ca k_668 := K_gq (KS := []) (ini := false) (FL := []) (n := 13) (an := ak_668) h_283 rfl (by decide +kernel) KS_nil (by decide +kernel)
def k_669 : eK := (283, (([]), [yj 25, yj 0], [], (13, [])), [(([]), some (yj 1), [], (13, []))], 0, 0, 1)
def ak_669 : List eAn := [(0, [], [], [])]
theorem K_669 {l : Launch} {D : va_G} {ca : Nat → ClassId} : KMet l D ca k_669 := K_gq (KS := []) (ini := false) (FL := []) (n := 13) (an := ak_669) h_283 rfl (by decide +kernel) KS_nil (by decide +kernel)
def k_670 : eK := (283, (([]), [yj 25, yj 1], [], (13, [])), [(([]), some (yj 0), [], (13, []))], 0, 0, 1)
def ak_670 : List eAn := [(0, [], [], [])]
theorem K_670 {l : Launch} {D : va_G} {ca : Nat → ClassId} : KMet l D ca k_670 := K_gq (KS := []) (ini := false) (FL := []) (n := 12) (an := ak_670) h_283 rfl (by decide +kernel) KS_nil (by decide +kernel)
def k_671 : eK := (283, (([]), [yj 25, yj 2], [], (13, [])), [(([]), some (yj 0), [], (13, []))], 0, 0, 1)
def ak_671 : List eAn := [(0, [], [], [])]
theorem K_671 {l : Launch} {D : va_G} {ca : Nat → ClassId} : KMet l D ca k_671 := K_gq (KS := []) (ini := false) (FL := []) (n := 12) (an := ak_671) h_283 rfl (by decide +kernel) KS_nil (by decide +kernel)
def k_672 : eK := (283, (([]), [yj 25, yj 3], [], (13, [])), [(([]), some (yj 1), [], (13, []))], 0, 0, 1)
def ak_672 : List eAn := [(0, [], [], [])]
theorem K_672 {l : Launch} {D : va_G} {ca : Nat → ClassId} : KMet l D ca k_672 := K_gq (KS := []) (ini := false) (FL := []) (n := 13) (an := ak_672) h_283 rfl (by decide +kernel) KS_nil (by decide +kernel)
def k_673 : eK := (283, (([]), [yj 17, yj 0], [], (13, [])), [(([]), some (yj 1), [], (13, []))], 0, 0, 1)
def ak_673 : List eAn := [(0, [], [], [])]
theorem K_673 {l : Launch} {D : va_G} {ca : Nat → ClassId} : KMet l D ca k_673 := K_gq (KS := []) (ini := false) (FL := []) (n := 13) (an := ak_673) h_283 rfl (by decide +kernel) KS_nil (by decide +kernel)
def k_674 : eK := (283, (([]), [yj 17, yj 1], [], (13, [])), [(([]), some (yj 0), [], (13, []))], 0, 0, 1)
def ak_674 : List eAn := [(0, [], [], [])]
theorem K_674 {l : Launch} {D : va_G} {ca : Nat → ClassId} : KMet l D ca k_674 := K_gq (KS := []) (ini := false) (FL := []) (n := 12) (an := ak_674) h_283 rfl (by decide +kernel) KS_nil (by decide +kernel)
def k_675 : eK := (283, (([]), [yj 17, yj 2], [], (13, [])), [(([]), some (yj 0), [], (13, []))], 0, 0, 1)
def ak_675 : List eAn := [(0, [], [], [])]
theorem K_675 {l : Launch} {D : va_G} {ca : Nat → ClassId} : KMet l D ca k_675 := K_gq (KS := []) (ini := false) (FL := []) (n := 12) (an := ak_675) h_283 rfl (by decide +kernel) KS_nil (by decide +kernel)
def k_676 : eK := (283, (([]), [yj 17, yj 3], [], (13, [])), [(([]), some (yj 0), [], (13, []))], 0, 0, 1)
def ak_676 : List eAn := [(0, [], [], [])]
theorem K_676 {l : Launch} {D : va_G} {ca : Nat → ClassId} : KMet l D ca k_676 := K_gq (KS := []) (ini := false) (FL := []) (n := 12) (an := ak_676) h_283 rfl (by decide +kernel) KS_nil (by decide +kernel)
def k_677 : eK := (283, (([]), [yj 17, yj 4], [], (13, [])), [(([]), some (yj 1), [], (13, []))], 0, 0, 1)
def ak_677 : List eAn := [(0, [], [], [])]
theorem K_677 {l : Launch} {D : va_G} {ca : Nat → ClassId} : KMet l D ca k_677 := K_gq (KS := []) (ini := false) (FL := []) (n := 13) (an := ak_677) h_283 rfl (by decide +kernel) KS_nil (by decide +kernel)
def k_678 : eK := (283, (([]), [yj 1, yj 0], [], (13, [])), [(([]), some (yj 1), [], (13, []))], 0, 0, 1)
def ak_678 : List eAn := [(0, [], [], [])]
theorem K_678 {l : Launch} {D : va_G} {ca : Nat → ClassId} : KMet l D ca k_678 := K_gq (KS := []) (ini := false) (FL := []) (n := 13) (an := ak_678) h_283 rfl (by decide +kernel) KS_nil (by decide +kernel)
def k_679 : eK := (283, (([]), [yj 1, yj 1], [], (13, [])), [(([]), some (yj 0), [], (13, []))], 0, 0, 1)
def ak_679 : List eAn := [(0, [], [], [])]
theorem K_679 {l : Launch} {D : va_G} {ca : Nat → ClassId} : KMet l D ca k_679 := K_gq (KS := []) (ini := false) (FL := []) (n := 12) (an := ak_679) h_283 rfl (by decide +kernel) KS_nil (by decide +kernel)
def k_680 : eK := (283, (([]), [yj 1, yj 2], [], (13, [])), [(([]), some (yj 0), [], (13, []))], 0, 0, 1)
def ak_680 : List eAn := [(0, [], [], [])]
theorem K_680 {l : Launch} {D : va_G} {ca : Nat → ClassId} : KMet l D ca k_680 := K_gq (KS := []) (ini := false) (FL := []) (n := 12) (an := ak_680) h_283 rfl (by decide +kernel) KS_nil (by decide +kernel)
def k_681 : eK := (283, (([]), [yj 1, yj 3], [], (13, [])), [(([]), some (yj 0), [], (13, []))], 0, 0, 1)
def ak_681 : List eAn := [(0, [], [], [])]
theorem K_681 {l : Launch} {D : va_G} {ca : Nat → ClassId} : KMet l D ca k_681 := K_gq (KS := []) (ini := false) (FL := []) (n := 12) (an := ak_681) h_283 rfl (by decide +kernel) KS_nil (by decide +kernel)
def k_682 : eK := (283, (([]), [yj 1, yj 4], [], (13, [])), [(([]), some (yj 0), [], (13, []))], 0, 0, 1)
def ak_682 : List eAn := [(0, [], [], [])]
theorem K_682 {l : Launch} {D : va_G} {ca : Nat → ClassId} : KMet l D ca k_682 := K_gq (KS := []) (ini := false) (FL := []) (n := 12) (an := ak_682) h_283 rfl (by decide +kernel) KS_nil (by decide +kernel)
def k_683 : eK := (328, (zv_872, [yr 13, yi 0, yj 1] ++ yis 1 3, [(13, zc_815), (15, zc_821), (30, yt 1 5 ([yf 5])), (31, yt 1 5 ([yf 5]))], (37, zf_822)), [(zv_873, none, [(15, zc_821), (13, zc_874), (30, yt 1 5 ([yf 5])), (31, yt 1 5 ([yf 5]))], (37, zf_822))], 0, 0, 3)
def ak_683 : List eAn := [(0, [], nas 0 13, []), (1, [yh 1 2, ye (yk 0), yh 4 151], nas 0 37, hsr 0 41), (2, [ye (yg [(0, 2)] 2), yh 155 2, yh 158 1, yh 4 31], nas 0 37, [[0, 81]]), (3, [], nas 0 13, []), (4, [], nas 0 13, []), (5, [], nas 0 13, []), (6, [], nas 0 13, []), (0, [yh 159 2], [], hsr 41 40 ++ [[0, 82]])]
theorem K_683 {l : Launch} {D : va_G} {ca : Nat → ClassId} : KMet l D ca k_683 := K_gq (KS := [k_678, k_573, k_588, k_679, k_680, k_681, k_682]) (ini := false) (FL := []) (n := 98) (an := ak_683) h_328 rfl (by decide +kernel) (KS_cons K_678 (KS_cons K_573 (KS_cons K_588 (KS_cons K_679 (KS_cons K_680 (KS_cons K_681 (KS_cons K_682 KS_nil))))))) (by decide +kernel)
def k_684 : eK := (328, (zv_875, [yr 13, yi 0, yj 17] ++ yis 1 3, [(13, zc_815), (15, zc_821), (30, yt 1 5 ([yf 5])), (31, yt 1 5 ([yf 5]))], (37, zf_822)), [(zv_876, none, [(15, zc_821), (13, zc_874), (30, yt 1 5 ([yf 5])), (31, yt 1 5 ([yf 5]))], (37, zf_822))], 0, 0, 4)
def ak_684 : List eAn := [(0, [], nas 0 13, []), (1, [yh 1 2, ye (yk 0), yh 4 151], nas 0 37, hsr 0 41), (2, [ye (yg [(0, 2)] 2), yh 155 2, yh 158 1, yh 4 151], nas 0 37, hsr 41 41), (3, [], nas 0 13, []), (4, [], nas 0 13, []), (5, [], nas 0 13, []), (6, [], nas 0 13, []), (1, [yh 1 2, ye (yk 4), yh 4 18, yh 159 2, yh 24 131], nas 0 37, hsr 82 41), (7, [ye (yg [(0, 2)] 2), yh 161 2, yh 164 1, yh 4 18, yh 159 2, yh 24 131], nas 0 37, hsr 123 41), (0, [yh 165 2], [], hsr 164 41)]
theorem K_684 {l : Launch} {D : va_G} {ca : Nat → ClassId} : KMet l D ca k_684 := K_gq (KS := [k_673, k_573, k_589, k_674, k_675, k_676, k_677, k_683]) (ini := false) (FL := []) (n := 135) (an := ak_684) h_328 rfl (by decide +kernel) (KS_cons K_673 (KS_cons K_573 (KS_cons K_589 (KS_cons K_674 (KS_cons K_675 (KS_cons K_676 (KS_cons K_677 (KS_cons K_683 KS_nil)))))))) (by decide +kernel)
def k_685 : eK := (283, (([]), [yj 25, yj 4], [], (13, [])), [(([]), some (yj 1), [], (13, []))], 0, 0, 1)
def ak_685 : List eAn := [(0, [], [], [])]
theorem K_685 {l : Launch} {D : va_G} {ca : Nat → ClassId} : KMet l D ca k_685 := K_gq (KS := []) (ini := false) (FL := []) (n := 13) (an := ak_685) h_283 rfl (by decide +kernel) KS_nil (by decide +kernel)
def k_686 : eK := (283, (([]), [yj 9, yj 0], [], (13, [])), [(([]), some (yj 1), [], (13, []))], 0, 0, 1)
def ak_686 : List eAn := [(0, [], [], [])]
theorem K_686 {l : Launch} {D : va_G} {ca : Nat → ClassId} : KMet l D ca k_686 := K_gq (KS := []) (ini := false) (FL := []) (n := 13) (an := ak_686) h_283 rfl (by decide +kernel) KS_nil (by decide +kernel)
def k_687 : eK := (283, (([]), [yj 9, yj 1], [], (13, [])), [(([]), some (yj 0), [], (13, []))], 0, 0, 1)
def ak_687 : List eAn := [(0, [], [], [])]
theorem K_687 {l : Launch} {D : va_G} {ca : Nat → ClassId} : KMet l D ca k_687 := K_gq (KS := []) (ini := false) (FL := []) (n := 12) (an := ak_687) h_283 rfl (by decide +kernel) KS_nil (by decide +kernel)
def k_688 : eK := (283, (([]), [yj 9, yj 2], [], (13, [])), [(([]), some (yj 0), [], (13, []))], 0, 0, 1)
def ak_688 : List eAn := [(0, [], [], [])]
theorem K_688 {l : Launch} {D : va_G} {ca : Nat → ClassId} : KMet l D ca k_688 := K_gq (KS := []) (ini := false) (FL := []) (n := 12) (an := ak_688) h_283 rfl (by decide +kernel) KS_nil (by decide +kernel)
def k_689 : eK := (283, (([]), [yj 9, yj 3], [], (13, [])), [(([]), some (yj 1), [], (13, []))], 0, 0, 1)
def ak_689 : List eAn := [(0, [], [], [])]
theorem K_689 {l : Launch} {D : va_G} {ca : Nat → ClassId} : KMet l D ca k_689 := K_gq (KS := []) (ini := false) (FL := []) (n := 13) (an := ak_689) h_283 rfl (by decide +kernel) KS_nil (by decide +kernel)
def k_690 : eK := (283, (([]), [yj 9, yj 4], [], (13, [])), [(([]), some (yj 0), [], (13, []))], 0, 0, 1)
def ak_690 : List eAn := [(0, [], [], [])]
theorem K_690 {l : Launch} {D : va_G} {ca : Nat → ClassId} : KMet l D ca k_690 := K_gq (KS := []) (ini := false) (FL := []) (n := 12) (an := ak_690) h_283 rfl (by decide +kernel) KS_nil (by decide +kernel)
def k_691 : eK := (328, (zv_875, [yr 13, yi 0, yj 9] ++ yis 1 3, [(13, zc_815), (15, zc_821), (30, yt 1 5 ([yf 5])), (31, yt 1 5 ([yf 5]))], (37, zf_822)), [(zv_876, none, [(15, zc_821), (13, zc_874), (30, yt 1 5 ([yf 5])), (31, yt 1 5 ([yf 5]))], (37, zf_822))], 0, 0, 4)
def ak_691 : List eAn := [(0, [], nas 0 13, []), (1, [yh 1 2, ye (yk 0), yh 4 151], nas 0 37, hsr 0 41), (2, [ye (yg [(0, 2)] 2), yh 155 2, yh 158 1, yh 4 151], nas 0 37, hsr 41 41), (3, [], nas 0 13, []), (4, [], nas 0 13, []), (5, [], nas 0 13, []), (1, [yh 1 2, ye (yk 3), yh 4 18, yh 159 2, yh 24 131], nas 0 37, hsr 82 41), (6, [ye (yg [(0, 2)] 2), yh 161 2, yh 164 1, yh 4 18, yh 159 2, yh 24 131], nas 0 37, hsr 123 41), (7, [], nas 0 13, []), (0, [yh 165 2], [], hsr 164 41)]
theorem K_691 {l : Launch} {D : va_G} {ca : Nat → ClassId} : KMet l D ca k_691 := K_gq (KS := [k_686, k_573, k_596, k_687, k_688, k_689, k_683, k_690]) (ini := false) (FL := []) (n := 135) (an := ak_691) h_328 rfl (by decide +kernel) (KS_cons K_686 (KS_cons K_573 (KS_cons K_596 (KS_cons K_687 (KS_cons K_688 (KS_cons K_689 (KS_cons K_683 (KS_cons K_690 KS_nil)))))))) (by decide +kernel)
def k_692 : eK := (328, (zv_877, [yr 13, yi 0, yj 25] ++ yis 1 3, [(13, zc_815), (15, zc_821), (30, yt 1 5 ([yf 5])), (31, yt 1 5 ([yf 5]))], (37, zf_822)), [(zv_878, none, [(15, zc_821), (13, zc_874), (30, yt 1 5 ([yf 5])), (31, yt 1 5 ([yf 5]))], (37, zf_822))], 0, 0, 5)
def ak_692 : List eAn := [(0, [], nas 0 13, []), (1, [yh 1 2, ye (yk 0), yh 4 151], nas 0 37, hsr 0 41), (2, [ye (yg [(0, 2)] 2), yh 155 2, yh 158 1, yh 4 151], nas 0 37, hsr 41 41), (3, [], nas 0 13, []), (4, [], nas 0 13, []), (5, [], nas 0 13, []), (1, [yh 1 2, ye (yk 3), yh 4 18, yh 159 2, yh 24 131], nas 0 37, hsr 82 41), (6, [ye (yg [(0, 2)] 2), yh 161 2, yh 164 1, yh 4 18, yh 159 2, yh 24 131], nas 0 37, hsr 123 41), (7, [], nas 0 13, []), (1, [yh 1 2, ye (yk 4), yh 4 18, yh 165 2, yh 24 131], nas 0 37, hsr 164 41), (8, [ye (yg [(0, 2)] 2), yh 167 2, yh 170 1, yh 4 18, yh 165 2, yh 24 131], nas 0 37, hsr 205 41), (0, [yh 171 2], [], hsr 246 41)]
theorem K_692 {l : Launch} {D : va_G} {ca : Nat → ClassId} : KMet l D ca k_692 := K_gq (KS := [k_669, k_573, k_597, k_670, k_671, k_672, k_684, k_685, k_691]) (ini := false) (FL := []) (n := 172) (an := ak_692) h_328 rfl (by decide +kernel) (KS_cons K_669 (KS_cons K_573 (KS_cons K_597 (KS_cons K_670 (KS_cons K_671 (KS_cons K_672 (KS_cons K_684 (KS_cons K_685 (KS_cons K_691 KS_nil))))))))) (by decide +kernel)
def k_693 : eK := (283, (([]), [yj 29, yj 3], [], (13, [])), [(([]), some (yj 1), [], (13, []))], 0, 0, 1)
def ak_693 : List eAn := [(0, [], [], [])]
theorem K_693 {l : Launch} {D : va_G} {ca : Nat → ClassId} : KMet l D ca k_693 := K_gq (KS := []) (ini := false) (FL := []) (n := 13) (an := ak_693) h_283 rfl (by decide +kernel) KS_nil (by decide +kernel)
def k_694 : eK := (283, (([]), [yj 21, yj 0], [], (13, [])), [(([]), some (yj 1), [], (13, []))], 0, 0, 1)
def ak_694 : List eAn := [(0, [], [], [])]
theorem K_694 {l : Launch} {D : va_G} {ca : Nat → ClassId} : KMet l D ca k_694 := K_gq (KS := []) (ini := false) (FL := []) (n := 13) (an := ak_694) h_283 rfl (by decide +kernel) KS_nil (by decide +kernel)
def k_695 : eK := (283, (([]), [yj 21, yj 1], [], (13, [])), [(([]), some (yj 0), [], (13, []))], 0, 0, 1)
def ak_695 : List eAn := [(0, [], [], [])]
theorem K_695 {l : Launch} {D : va_G} {ca : Nat → ClassId} : KMet l D ca k_695 := K_gq (KS := []) (ini := false) (FL := []) (n := 12) (an := ak_695) h_283 rfl (by decide +kernel) KS_nil (by decide +kernel)
def k_696 : eK := (283, (([]), [yj 21, yj 2], [], (13, [])), [(([]), some (yj 1), [], (13, []))], 0, 0, 1)
def ak_696 : List eAn := [(0, [], [], [])]
theorem K_696 {l : Launch} {D : va_G} {ca : Nat → ClassId} : KMet l D ca k_696 := K_gq (KS := []) (ini := false) (FL := []) (n := 13) (an := ak_696) h_283 rfl (by decide +kernel) KS_nil (by decide +kernel)
def k_697 : eK := (283, (([]), [yj 21, yj 3], [], (13, [])), [(([]), some (yj 0), [], (13, []))], 0, 0, 1)
def ak_697 : List eAn := [(0, [], [], [])]
theorem K_697 {l : Launch} {D : va_G} {ca : Nat → ClassId} : KMet l D ca k_697 := K_gq (KS := []) (ini := false) (FL := []) (n := 12) (an := ak_697) h_283 rfl (by decide +kernel) KS_nil (by decide +kernel)
def k_698 : eK := (283, (([]), [yj 21, yj 4], [], (13, [])), [(([]), some (yj 1), [], (13, []))], 0, 0, 1)
def ak_698 : List eAn := [(0, [], [], [])]
theorem K_698 {l : Launch} {D : va_G} {ca : Nat → ClassId} : KMet l D ca k_698 := K_gq (KS := []) (ini := false) (FL := []) (n := 13) (an := ak_698) h_283 rfl (by decide +kernel) KS_nil (by decide +kernel)
def k_699 : eK := (283, (([]), [yj 5, yj 0], [], (13, [])), [(([]), some (yj 1), [], (13, []))], 0, 0, 1)
def ak_699 : List eAn := [(0, [], [], [])]
theorem K_699 {l : Launch} {D : va_G} {ca : Nat → ClassId} : KMet l D ca k_699 := K_gq (KS := []) (ini := false) (FL := []) (n := 13) (an := ak_699) h_283 rfl (by decide +kernel) KS_nil (by decide +kernel)
def k_700 : eK := (283, (([]), [yj 5, yj 1], [], (13, [])), [(([]), some (yj 0), [], (13, []))], 0, 0, 1)
def ak_700 : List eAn := [(0, [], [], [])]
theorem K_700 {l : Launch} {D : va_G} {ca : Nat → ClassId} : KMet l D ca k_700 := K_gq (KS := []) (ini := false) (FL := []) (n := 12) (an := ak_700) h_283 rfl (by decide +kernel) KS_nil (by decide +kernel)
def k_701 : eK := (283, (([]), [yj 5, yj 2], [], (13, [])), [(([]), some (yj 1), [], (13, []))], 0, 0, 1)
def ak_701 : List eAn := [(0, [], [], [])]
theorem K_701 {l : Launch} {D : va_G} {ca : Nat → ClassId} : KMet l D ca k_701 := K_gq (KS := []) (ini := false) (FL := []) (n := 13) (an := ak_701) h_283 rfl (by decide +kernel) KS_nil (by decide +kernel)
def k_702 : eK := (283, (([]), [yj 5, yj 3], [], (13, [])), [(([]), some (yj 0), [], (13, []))], 0, 0, 1)
def ak_702 : List eAn := [(0, [], [], [])]
theorem K_702 {l : Launch} {D : va_G} {ca : Nat → ClassId} : KMet l D ca k_702 := K_gq (KS := []) (ini := false) (FL := []) (n := 12) (an := ak_702) h_283 rfl (by decide +kernel) KS_nil (by decide +kernel)
def k_703 : eK := (283, (([]), [yj 5, yj 4], [], (13, [])), [(([]), some (yj 0), [], (13, []))], 0, 0, 1)
def ak_703 : List eAn := [(0, [], [], [])]
theorem K_703 {l : Launch} {D : va_G} {ca : Nat → ClassId} : KMet l D ca k_703 := K_gq (KS := []) (ini := false) (FL := []) (n := 12) (an := ak_703) h_283 rfl (by decide +kernel) KS_nil (by decide +kernel)
def k_704 : eK := (328, (zv_875, [yr 13, yi 0, yj 5] ++ yis 1 3, [(13, zc_815), (15, zc_821), (30, yt 1 5 ([yf 5])), (31, yt 1 5 ([yf 5]))], (37, zf_822)), [(zv_876, none, [(15, zc_821), (13, zc_874), (30, yt 1 5 ([yf 5])), (31, yt 1 5 ([yf 5]))], (37, zf_822))], 0, 0, 4)
def ak_704 : List eAn := [(0, [], nas 0 13, []), (1, [yh 1 2, ye (yk 0), yh 4 151], nas 0 37, hsr 0 41), (2, [ye (yg [(0, 2)] 2), yh 155 2, yh 158 1, yh 4 151], nas 0 37, hsr 41 41), (3, [], nas 0 13, []), (4, [], nas 0 13, []), (1, [yh 1 2, ye (yk 2), yh 4 18, yh 159 2, yh 24 131], nas 0 37, hsr 82 41), (5, [ye (yg [(0, 2)] 2), yh 161 2, yh 164 1, yh 4 18, yh 159 2, yh 24 131], nas 0 37, hsr 123 41), (6, [], nas 0 13, []), (7, [], nas 0 13, []), (0, [yh 165 2], [], hsr 164 41)]
theorem K_704 {l : Launch} {D : va_G} {ca : Nat → ClassId} : KMet l D ca k_704 := K_gq (KS := [k_699, k_573, k_609, k_700, k_701, k_683, k_702, k_703]) (ini := false) (FL := []) (n := 135) (an := ak_704) h_328 rfl (by decide +kernel) (KS_cons K_699 (KS_cons K_573 (KS_cons K_609 (KS_cons K_700 (KS_cons K_701 (KS_cons K_683 (KS_cons K_702 (KS_cons K_703 KS_nil)))))))) (by decide +kernel)
def k_705 : eK := (328, (zv_877, [yr 13, yi 0, yj 21] ++ yis 1 3, [(13, zc_815), (15, zc_821), (30, yt 1 5 ([yf 5])), (31, yt 1 5 ([yf 5]))], (37, zf_822)), [(zv_878, none, [(15, zc_821), (13, zc_874), (30, yt 1 5 ([yf 5])), (31, yt 1 5 ([yf 5]))], (37, zf_822))], 0, 0, 5)
def ak_705 : List eAn := [(0, [], nas 0 13, []), (1, [yh 1 2, ye (yk 0), yh 4 151], nas 0 37, hsr 0 41), (2, [ye (yg [(0, 2)] 2), yh 155 2, yh 158 1, yh 4 151], nas 0 37, hsr 41 41), (3, [], nas 0 13, []), (4, [], nas 0 13, []), (1, [yh 1 2, ye (yk 2), yh 4 18, yh 159 2, yh 24 131], nas 0 37, hsr 82 41), (5, [ye (yg [(0, 2)] 2), yh 161 2, yh 164 1, yh 4 18, yh 159 2, yh 24 131], nas 0 37, hsr 123 41), (6, [], nas 0 13, []), (7, [], nas 0 13, []), (1, [yh 1 2, ye (yk 4), yh 4 18, yh 165 2, yh 24 131], nas 0 37, hsr 164 41), (8, [ye (yg [(0, 2)] 2), yh 167 2, yh 170 1, yh 4 18, yh 165 2, yh 24 131], nas 0 37, hsr 205 41), (0, [yh 171 2], [], hsr 246 41)]
theorem K_705 {l : Launch} {D : va_G} {ca : Nat → ClassId} : KMet l D ca k_705 := K_gq (KS := [k_694, k_573, k_610, k_695, k_696, k_684, k_697, k_698, k_704]) (ini := false) (FL := []) (n := 172) (an := ak_705) h_328 rfl (by decide +kernel) (KS_cons K_694 (KS_cons K_573 (KS_cons K_610 (KS_cons K_695 (KS_cons K_696 (KS_cons K_684 (KS_cons K_697 (KS_cons K_698 (KS_cons K_704 KS_nil))))))))) (by decide +kernel)
def k_706 : eK := (283, (([]), [yj 29, yj 4], [], (13, [])), [(([]), some (yj 1), [], (13, []))], 0, 0, 1)
def ak_706 : List eAn := [(0, [], [], [])]
theorem K_706 {l : Launch} {D : va_G} {ca : Nat → ClassId} : KMet l D ca k_706 := K_gq (KS := []) (ini := false) (FL := []) (n := 13) (an := ak_706) h_283 rfl (by decide +kernel) KS_nil (by decide +kernel)
def k_707 : eK := (283, (([]), [yj 13, yj 0], [], (13, [])), [(([]), some (yj 1), [], (13, []))], 0, 0, 1)
def ak_707 : List eAn := [(0, [], [], [])]
theorem K_707 {l : Launch} {D : va_G} {ca : Nat → ClassId} : KMet l D ca k_707 := K_gq (KS := []) (ini := false) (FL := []) (n := 13) (an := ak_707) h_283 rfl (by decide +kernel) KS_nil (by decide +kernel)
def k_708 : eK := (283, (([]), [yj 13, yj 1], [], (13, [])), [(([]), some (yj 0), [], (13, []))], 0, 0, 1)
def ak_708 : List eAn := [(0, [], [], [])]
theorem K_708 {l : Launch} {D : va_G} {ca : Nat → ClassId} : KMet l D ca k_708 := K_gq (KS := []) (ini := false) (FL := []) (n := 12) (an := ak_708) h_283 rfl (by decide +kernel) KS_nil (by decide +kernel)
def k_709 : eK := (283, (([]), [yj 13, yj 2], [], (13, [])), [(([]), some (yj 1), [], (13, []))], 0, 0, 1)
def ak_709 : List eAn := [(0, [], [], [])]
theorem K_709 {l : Launch} {D : va_G} {ca : Nat → ClassId} : KMet l D ca k_709 := K_gq (KS := []) (ini := false) (FL := []) (n := 13) (an := ak_709) h_283 rfl (by decide +kernel) KS_nil (by decide +kernel)
def k_710 : eK := (283, (([]), [yj 13, yj 3], [], (13, [])), [(([]), some (yj 1), [], (13, []))], 0, 0, 1)
def ak_710 : List eAn := [(0, [], [], [])]
theorem K_710 {l : Launch} {D : va_G} {ca : Nat → ClassId} : KMet l D ca k_710 := K_gq (KS := []) (ini := false) (FL := []) (n := 13) (an := ak_710) h_283 rfl (by decide +kernel) KS_nil (by decide +kernel)
def k_711 : eK := (283, (([]), [yj 13, yj 4], [], (13, [])), [(([]), some (yj 0), [], (13, []))], 0, 0, 1)
def ak_711 : List eAn := [(0, [], [], [])]
theorem K_711 {l : Launch} {D : va_G} {ca : Nat → ClassId} : KMet l D ca k_711 := K_gq (KS := []) (ini := false) (FL := []) (n := 12) (an := ak_711) h_283 rfl (by decide +kernel) KS_nil (by decide +kernel)
def k_712 : eK := (328, (zv_877, [yr 13, yi 0, yj 13] ++ yis 1 3, [(13, zc_815), (15, zc_821), (30, yt 1 5 ([yf 5])), (31, yt 1 5 ([yf 5]))], (37, zf_822)), [(zv_878, none, [(15, zc_821), (13, zc_874), (30, yt 1 5 ([yf 5])), (31, yt 1 5 ([yf 5]))], (37, zf_822))], 0, 0, 5)
def ak_712 : List eAn := [(0, [], nas 0 13, []), (1, [yh 1 2, ye (yk 0), yh 4 151], nas 0 37, hsr 0 41), (2, [ye (yg [(0, 2)] 2), yh 155 2, yh 158 1, yh 4 151], nas 0 37, hsr 41 41), (3, [], nas 0 13, []), (4, [], nas 0 13, []), (1, [yh 1 2, ye (yk 2), yh 4 18, yh 159 2, yh 24 131], nas 0 37, hsr 82 41), (5, [ye (yg [(0, 2)] 2), yh 161 2, yh 164 1, yh 4 18, yh 159 2, yh 24 131], nas 0 37, hsr 123 41), (6, [], nas 0 13, []), (1, [yh 1 2, ye (yk 3), yh 4 18, yh 165 2, yh 24 131], nas 0 37, hsr 164 41), (7, [ye (yg [(0, 2)] 2), yh 167 2, yh 170 1, yh 4 18, yh 165 2, yh 24 131], nas 0 37, hsr 205 41), (8, [], nas 0 13, []), (0, [yh 171 2], [], hsr 246 41)]
theorem K_712 {l : Launch} {D : va_G} {ca : Nat → ClassId} : KMet l D ca k_712 := K_gq (KS := [k_707, k_573, k_617, k_708, k_709, k_691, k_710, k_704, k_711]) (ini := false) (FL := []) (n := 172) (an := ak_712) h_328 rfl (by decide +kernel) (KS_cons K_707 (KS_cons K_573 (KS_cons K_617 (KS_cons K_708 (KS_cons K_709 (KS_cons K_691 (KS_cons K_710 (KS_cons K_704 (KS_cons K_711 KS_nil))))))))) (by decide +kernel)
def k_713 : eK := (328, (zv_879, [yr 13, yi 0, yj 29] ++ yis 1 3, [(13, zc_815), (15, zc_821), (30, yt 1 5 ([yf 5])), (31, yt 1 5 ([yf 5]))], (37, zf_822)), [(zv_880, none, [(15, zc_821), (13, zc_874), (30, yt 1 5 ([yf 5])), (31, yt 1 5 ([yf 5]))], (37, zf_822))], 0, 0, 6)
def ak_713 : List eAn := [(0, [], nas 0 13, []), (1, [yh 1 2, ye (yk 0), yh 4 151], nas 0 37, hsr 0 41), (2, [ye (yg [(0, 2)] 2), yh 155 2, yh 158 1, yh 4 151], nas 0 37, hsr 41 41), (3, [], nas 0 13, []), (4, [], nas 0 13, []), (1, [yh 1 2, ye (yk 2), yh 4 18, yh 159 2, yh 24 131], nas 0 37, hsr 82 41), (5, [ye (yg [(0, 2)] 2), yh 161 2, yh 164 1, yh 4 18, yh 159 2, yh 24 131], nas 0 37, hsr 123 41), (6, [], nas 0 13, []), (1, [yh 1 2, ye (yk 3), yh 4 18, yh 165 2, yh 24 131], nas 0 37, hsr 164 41), (7, [ye (yg [(0, 2)] 2), yh 167 2, yh 170 1, yh 4 18, yh 165 2, yh 24 131], nas 0 37, hsr 205 41), (8, [], nas 0 13, []), (1, [yh 1 2, ye (yk 4), yh 4 18, yh 171 2, yh 24 131], nas 0 37, hsr 246 41), (9, [ye (yg [(0, 2)] 2), yh 173 2, yh 176 1, yh 4 18, yh 171 2, yh 24 131], nas 0 37, hsr 287 41), (0, [yh 177 2], [], hsr 328 41)]
theorem K_713 {l : Launch} {D : va_G} {ca : Nat → ClassId} : KMet l D ca k_713 := K_gq (KS := [k_666, k_573, k_618, k_667, k_668, k_692, k_693, k_705, k_706, k_712]) (ini := false) (FL := []) (n := 209) (an := ak_713) h_328 rfl (by decide +kernel) (KS_cons K_666 (KS_cons K_573 (KS_cons K_618 (KS_cons K_667 (KS_cons K_668 (KS_cons K_692 (KS_cons K_693 (KS_cons K_705 (KS_cons K_706 (KS_cons K_712 KS_nil)))))))))) (by decide +kernel)
def k_714 : eK := (283, (([ya 31 31]), [yi 0, yj 2], [], (13, [])), [(([ya 31 31]), some (yj 1), [], (13, []))], 0, 0, 1)
def ak_714 : List eAn := [(0, [], [], [])]
theorem K_714 {l : Launch} {D : va_G} {ca : Nat → ClassId} : KMet l D ca k_714 := K_gq (KS := []) (ini := false) (FL := []) (n := 13) (an := ak_714) h_283 rfl (by decide +kernel) KS_nil (by decide +kernel)
def k_715 : eK := (283, (([]), [yj 27, yj 0], [], (13, [])), [(([]), some (yj 1), [], (13, []))], 0, 0, 1)
def ak_715 : List eAn := [(0, [], [], [])]
theorem K_715 {l : Launch} {D : va_G} {ca : Nat → ClassId} : KMet l D ca k_715 := K_gq (KS := []) (ini := false) (FL := []) (n := 13) (an := ak_715) h_283 rfl (by decide +kernel) KS_nil (by decide +kernel)
def k_716 : eK := (283, (([]), [yj 27, yj 1], [], (13, [])), [(([]), some (yj 1), [], (13, []))], 0, 0, 1)
def ak_716 : List eAn := [(0, [], [], [])]
theorem K_716 {l : Launch} {D : va_G} {ca : Nat → ClassId} : KMet l D ca k_716 := K_gq (KS := []) (ini := false) (FL := []) (n := 13) (an := ak_716) h_283 rfl (by decide +kernel) KS_nil (by decide +kernel)
def k_717 : eK := (283, (([]), [yj 27, yj 2], [], (13, [])), [(([]), some (yj 0), [], (13, []))], 0, 0, 1)
def ak_717 : List eAn := [(0, [], [], [])]
theorem K_717 {l : Launch} {D : va_G} {ca : Nat → ClassId} : KMet l D ca k_717 := K_gq (KS := []) (ini := false) (FL := []) (n := 12) (an := ak_717) h_283 rfl (by decide +kernel) KS_nil (by decide +kernel)
def k_718 : eK := (283, (([]), [yj 27, yj 3], [], (13, [])), [(([]), some (yj 1), [], (13, []))], 0, 0, 1)
def ak_718 : List eAn := [(0, [], [], [])]
theorem K_718 {l : Launch} {D : va_G} {ca : Nat → ClassId} : KMet l D ca k_718 := K_gq (KS := []) (ini := false) (FL := []) (n := 13) (an := ak_718) h_283 rfl (by decide +kernel) KS_nil (by decide +kernel)
def k_719 : eK := (283, (([]), [yj 19, yj 0], [], (13, [])), [(([]), some (yj 1), [], (13, []))], 0, 0, 1)
def ak_719 : List eAn := [(0, [], [], [])]
theorem K_719 {l : Launch} {D : va_G} {ca : Nat → ClassId} : KMet l D ca k_719 := K_gq (KS := []) (ini := false) (FL := []) (n := 13) (an := ak_719) h_283 rfl (by decide +kernel) KS_nil (by decide +kernel)
def k_720 : eK := (283, (([]), [yj 19, yj 1], [], (13, [])), [(([]), some (yj 1), [], (13, []))], 0, 0, 1)
def ak_720 : List eAn := [(0, [], [], [])]
theorem K_720 {l : Launch} {D : va_G} {ca : Nat → ClassId} : KMet l D ca k_720 := K_gq (KS := []) (ini := false) (FL := []) (n := 13) (an := ak_720) h_283 rfl (by decide +kernel) KS_nil (by decide +kernel)
def k_721 : eK := (283, (([]), [yj 19, yj 2], [], (13, [])), [(([]), some (yj 0), [], (13, []))], 0, 0, 1)
def ak_721 : List eAn := [(0, [], [], [])]
theorem K_721 {l : Launch} {D : va_G} {ca : Nat → ClassId} : KMet l D ca k_721 := K_gq (KS := []) (ini := false) (FL := []) (n := 12) (an := ak_721) h_283 rfl (by decide +kernel) KS_nil (by decide +kernel)
def k_722 : eK := (283, (([]), [yj 19, yj 3], [], (13, [])), [(([]), some (yj 0), [], (13, []))], 0, 0, 1)
def ak_722 : List eAn := [(0, [], [], [])]
theorem K_722 {l : Launch} {D : va_G} {ca : Nat → ClassId} : KMet l D ca k_722 := K_gq (KS := []) (ini := false) (FL := []) (n := 12) (an := ak_722) h_283 rfl (by decide +kernel) KS_nil (by decide +kernel)
def k_723 : eK := (283, (([]), [yj 19, yj 4], [], (13, [])), [(([]), some (yj 1), [], (13, []))], 0, 0, 1)
def ak_723 : List eAn := [(0, [], [], [])]
theorem K_723 {l : Launch} {D : va_G} {ca : Nat → ClassId} : KMet l D ca k_723 := K_gq (KS := []) (ini := false) (FL := []) (n := 13) (an := ak_723) h_283 rfl (by decide +kernel) KS_nil (by decide +kernel)
def k_724 : eK := (283, (([]), [yj 3, yj 0], [], (13, [])), [(([]), some (yj 1), [], (13, []))], 0, 0, 1)
def ak_724 : List eAn := [(0, [], [], [])]
theorem K_724 {l : Launch} {D : va_G} {ca : Nat → ClassId} : KMet l D ca k_724 := K_gq (KS := []) (ini := false) (FL := []) (n := 13) (an := ak_724) h_283 rfl (by decide +kernel) KS_nil (by decide +kernel)
def k_725 : eK := (283, (([]), [yj 3, yj 1], [], (13, [])), [(([]), some (yj 1), [], (13, []))], 0, 0, 1)
def ak_725 : List eAn := [(0, [], [], [])]
theorem K_725 {l : Launch} {D : va_G} {ca : Nat → ClassId} : KMet l D ca k_725 := K_gq (KS := []) (ini := false) (FL := []) (n := 13) (an := ak_725) h_283 rfl (by decide +kernel) KS_nil (by decide +kernel)
def k_726 : eK := (283, (([]), [yj 3, yj 2], [], (13, [])), [(([]), some (yj 0), [], (13, []))], 0, 0, 1)
def ak_726 : List eAn := [(0, [], [], [])]
theorem K_726 {l : Launch} {D : va_G} {ca : Nat → ClassId} : KMet l D ca k_726 := K_gq (KS := []) (ini := false) (FL := []) (n := 12) (an := ak_726) h_283 rfl (by decide +kernel) KS_nil (by decide +kernel)
def k_727 : eK := (283, (([]), [yj 3, yj 3], [], (13, [])), [(([]), some (yj 0), [], (13, []))], 0, 0, 1)
def ak_727 : List eAn := [(0, [], [], [])]
theorem K_727 {l : Launch} {D : va_G} {ca : Nat → ClassId} : KMet l D ca k_727 := K_gq (KS := []) (ini := false) (FL := []) (n := 12) (an := ak_727) h_283 rfl (by decide +kernel) KS_nil (by decide +kernel)
def k_728 : eK := (283, (([]), [yj 3, yj 4], [], (13, [])), [(([]), some (yj 0), [], (13, []))], 0, 0, 1)
def ak_728 : List eAn := [(0, [], [], [])]
theorem K_728 {l : Launch} {D : va_G} {ca : Nat → ClassId} : KMet l D ca k_728 := K_gq (KS := []) (ini := false) (FL := []) (n := 12) (an := ak_728) h_283 rfl (by decide +kernel) KS_nil (by decide +kernel)
def k_729 : eK := (328, (zv_875, [yr 13, yi 0, yj 3] ++ yis 1 3, [(13, zc_815), (15, zc_821), (30, yt 1 5 ([yf 5])), (31, yt 1 5 ([yf 5]))], (37, zf_822)), [(zv_876, none, [(15, zc_821), (13, zc_874), (30, yt 1 5 ([yf 5])), (31, yt 1 5 ([yf 5]))], (37, zf_822))], 0, 0, 4)
def ak_729 : List eAn := [(0, [], nas 0 13, []), (1, [yh 1 2, ye (yk 0), yh 4 151], nas 0 37, hsr 0 41), (2, [ye (yg [(0, 2)] 2), yh 155 2, yh 158 1, yh 4 151], nas 0 37, hsr 41 41), (3, [], nas 0 13, []), (1, [yh 1 2, ye (yk 1), yh 4 18, yh 159 2, yh 24 131], nas 0 37, hsr 82 41), (4, [ye (yg [(0, 2)] 2), yh 161 2, yh 164 1, yh 4 18, yh 159 2, yh 24 131], nas 0 37, hsr 123 41), (5, [], nas 0 13, []), (6, [], nas 0 13, []), (7, [], nas 0 13, []), (0, [yh 165 2], [], hsr 164 41)]
theorem K_729 {l : Launch} {D : va_G} {ca : Nat → ClassId} : KMet l D ca k_729 := K_gq (KS := [k_724, k_573, k_634, k_725, k_683, k_726, k_727, k_728]) (ini := false) (FL := []) (n := 135) (an := ak_729) h_328 rfl (by decide +kernel) (KS_cons K_724 (KS_cons K_573 (KS_cons K_634 (KS_cons K_725 (KS_cons K_683 (KS_cons K_726 (KS_cons K_727 (KS_cons K_728 KS_nil)))))))) (by decide +kernel)
def k_730 : eK := (328, (zv_877, [yr 13, yi 0, yj 19] ++ yis 1 3, [(13, zc_815), (15, zc_821), (30, yt 1 5 ([yf 5])), (31, yt 1 5 ([yf 5]))], (37, zf_822)), [(zv_878, none, [(15, zc_821), (13, zc_874), (30, yt 1 5 ([yf 5])), (31, yt 1 5 ([yf 5]))], (37, zf_822))], 0, 0, 5)
def ak_730 : List eAn := [(0, [], nas 0 13, []), (1, [yh 1 2, ye (yk 0), yh 4 151], nas 0 37, hsr 0 41), (2, [ye (yg [(0, 2)] 2), yh 155 2, yh 158 1, yh 4 151], nas 0 37, hsr 41 41), (3, [], nas 0 13, []), (1, [yh 1 2, ye (yk 1), yh 4 18, yh 159 2, yh 24 131], nas 0 37, hsr 82 41), (4, [ye (yg [(0, 2)] 2), yh 161 2, yh 164 1, yh 4 18, yh 159 2, yh 24 131], nas 0 37, hsr 123 41), (5, [], nas 0 13, []), (6, [], nas 0 13, []), (7, [], nas 0 13, []), (1, [yh 1 2, ye (yk 4), yh 4 18, yh 165 2, yh 24 131], nas 0 37, hsr 164 41), (8, [ye (yg [(0, 2)] 2), yh 167 2, yh 170 1, yh 4 18, yh 165 2, yh 24 131], nas 0 37, hsr 205 41), (0, [yh 171 2], [], hsr 246 41)]
theorem K_730 {l : Launch} {D : va_G} {ca : Nat → ClassId} : KMet l D ca k_730 := K_gq (KS := [k_719, k_573, k_635, k_720, k_684, k_721, k_722, k_723, k_729]) (ini := false) (FL := []) (n := 172) (an := ak_730) h_328 rfl (by decide +kernel) (KS_cons K_719 (KS_cons K_573 (KS_cons K_635 (KS_cons K_720 (KS_cons K_684 (KS_cons K_721 (KS_cons K_722 (KS_cons K_723 (KS_cons K_729 KS_nil))))))))) (by decide +kernel)
def k_731 : eK := (283, (([]), [yj 27, yj 4], [], (13, [])), [(([]), some (yj 1), [], (13, []))], 0, 0, 1)
def ak_731 : List eAn := [(0, [], [], [])]
theorem K_731 {l : Launch} {D : va_G} {ca : Nat → ClassId} : KMet l D ca k_731 := K_gq (KS := []) (ini := false) (FL := []) (n := 13) (an := ak_731) h_283 rfl (by decide +kernel) KS_nil (by decide +kernel)
def k_732 : eK := (283, (([]), [yj 11, yj 0], [], (13, [])), [(([]), some (yj 1), [], (13, []))], 0, 0, 1)
def ak_732 : List eAn := [(0, [], [], [])]
theorem K_732 {l : Launch} {D : va_G} {ca : Nat → ClassId} : KMet l D ca k_732 := K_gq (KS := []) (ini := false) (FL := []) (n := 13) (an := ak_732) h_283 rfl (by decide +kernel) KS_nil (by decide +kernel)
def k_733 : eK := (283, (([]), [yj 11, yj 1], [], (13, [])), [(([]), some (yj 1), [], (13, []))], 0, 0, 1)
def ak_733 : List eAn := [(0, [], [], [])]
theorem K_733 {l : Launch} {D : va_G} {ca : Nat → ClassId} : KMet l D ca k_733 := K_gq (KS := []) (ini := false) (FL := []) (n := 13) (an := ak_733) h_283 rfl (by decide +kernel) KS_nil (by decide +kernel)
def k_734 : eK := (283, (([]), [yj 11, yj 2], [], (13, [])), [(([]), some (yj 0), [], (13, []))], 0, 0, 1)
def ak_734 : List eAn := [(0, [], [], [])]
theorem K_734 {l : Launch} {D : va_G} {ca : Nat → ClassId} : KMet l D ca k_734 := K_gq (KS := []) (ini := false) (FL := []) (n := 12) (an := ak_734) h_283 rfl (by decide +kernel) KS_nil (by decide +kernel)
def k_735 : eK := (283, (([]), [yj 11, yj 3], [], (13, [])), [(([]), some (yj 1), [], (13, []))], 0, 0, 1)
def ak_735 : List eAn := [(0, [], [], [])]
theorem K_735 {l : Launch} {D : va_G} {ca : Nat → ClassId} : KMet l D ca k_735 := K_gq (KS := []) (ini := false) (FL := []) (n := 13) (an := ak_735) h_283 rfl (by decide +kernel) KS_nil (by decide +kernel)
def k_736 : eK := (283, (([]), [yj 11, yj 4], [], (13, [])), [(([]), some (yj 0), [], (13, []))], 0, 0, 1)
def ak_736 : List eAn := [(0, [], [], [])]
theorem K_736 {l : Launch} {D : va_G} {ca : Nat → ClassId} : KMet l D ca k_736 := K_gq (KS := []) (ini := false) (FL := []) (n := 12) (an := ak_736) h_283 rfl (by decide +kernel) KS_nil (by decide +kernel)
def k_737 : eK := (328, (zv_877, [yr 13, yi 0, yj 11] ++ yis 1 3, [(13, zc_815), (15, zc_821), (30, yt 1 5 ([yf 5])), (31, yt 1 5 ([yf 5]))], (37, zf_822)), [(zv_878, none, [(15, zc_821), (13, zc_874), (30, yt 1 5 ([yf 5])), (31, yt 1 5 ([yf 5]))], (37, zf_822))], 0, 0, 5)
def ak_737 : List eAn := [(0, [], nas 0 13, []), (1, [yh 1 2, ye (yk 0), yh 4 151], nas 0 37, hsr 0 41), (2, [ye (yg [(0, 2)] 2), yh 155 2, yh 158 1, yh 4 151], nas 0 37, hsr 41 41), (3, [], nas 0 13, []), (1, [yh 1 2, ye (yk 1), yh 4 18, yh 159 2, yh 24 131], nas 0 37, hsr 82 41), (4, [ye (yg [(0, 2)] 2), yh 161 2, yh 164 1, yh 4 18, yh 159 2, yh 24 131], nas 0 37, hsr 123 41), (5, [], nas 0 13, []), (6, [], nas 0 13, []), (1, [yh 1 2, ye (yk 3), yh 4 18, yh 165 2, yh 24 131], nas 0 37, hsr 164 41), (7, [ye (yg [(0, 2)] 2), yh 167 2, yh 170 1, yh 4 18, yh 165 2, yh 24 131], nas 0 37, hsr 205 41), (8, [], nas 0 13, []), (0, [yh 171 2], [], hsr 246 41)]
theorem K_737 {l : Launch} {D : va_G} {ca : Nat → ClassId} : KMet l D ca k_737 := K_gq (KS := [k_732, k_573, k_642, k_733, k_691, k_734, k_735, k_729, k_736]) (ini := false) (FL := []) (n := 172) (an := ak_737) h_328 rfl (by decide +kernel) (KS_cons K_732 (KS_cons K_573 (KS_cons K_642 (KS_cons K_733 (KS_cons K_691 (KS_cons K_734 (KS_cons K_735 (KS_cons K_729 (KS_cons K_736 KS_nil))))))))) (by decide +kernel)
def k_738 : eK := (328, (zv_879, [yr 13, yi 0, yj 27] ++ yis 1 3, [(13, zc_815), (15, zc_821), (30, yt 1 5 ([yf 5])), (31, yt 1 5 ([yf 5]))], (37, zf_822)), [(zv_880, none, [(15, zc_821), (13, zc_874), (30, yt 1 5 ([yf 5])), (31, yt 1 5 ([yf 5]))], (37, zf_822))], 0, 0, 6)
def ak_738 : List eAn := [(0, [], nas 0 13, []), (1, [yh 1 2, ye (yk 0), yh 4 151], nas 0 37, hsr 0 41), (2, [ye (yg [(0, 2)] 2), yh 155 2, yh 158 1, yh 4 151], nas 0 37, hsr 41 41), (3, [], nas 0 13, []), (1, [yh 1 2, ye (yk 1), yh 4 18, yh 159 2, yh 24 131], nas 0 37, hsr 82 41), (4, [ye (yg [(0, 2)] 2), yh 161 2, yh 164 1, yh 4 18, yh 159 2, yh 24 131], nas 0 37, hsr 123 41), (5, [], nas 0 13, []), (6, [], nas 0 13, []), (1, [yh 1 2, ye (yk 3), yh 4 18, yh 165 2, yh 24 131], nas 0 37, hsr 164 41), (7, [ye (yg [(0, 2)] 2), yh 167 2, yh 170 1, yh 4 18, yh 165 2, yh 24 131], nas 0 37, hsr 205 41), (8, [], nas 0 13, []), (1, [yh 1 2, ye (yk 4), yh 4 18, yh 171 2, yh 24 131], nas 0 37, hsr 246 41), (9, [ye (yg [(0, 2)] 2), yh 173 2, yh 176 1, yh 4 18, yh 171 2, yh 24 131], nas 0 37, hsr 287 41), (0, [yh 177 2], [], hsr 328 41)]
theorem K_738 {l : Launch} {D : va_G} {ca : Nat → ClassId} : KMet l D ca k_738 := K_gq (KS := [k_715, k_573, k_643, k_716, k_692, k_717, k_718, k_730, k_731, k_737]) (ini := false) (FL := []) (n := 209) (an := ak_738) h_328 rfl (by decide +kernel) (KS_cons K_715 (KS_cons K_573 (KS_cons K_643 (KS_cons K_716 (KS_cons K_692 (KS_cons K_717 (KS_cons K_718 (KS_cons K_730 (KS_cons K_731 (KS_cons K_737 KS_nil)))))))))) (by decide +kernel)
def k_739 : eK := (283, (([ya 31 31]), [yi 0, yj 3], [], (13, [])), [(([ya 31 31]), some (yj 1), [], (13, []))], 0, 0, 1)
def ak_739 : List eAn := [(0, [], [], [])]
theorem K_739 {l : Launch} {D : va_G} {ca : Nat → ClassId} : KMet l D ca k_739 := K_gq (KS := []) (ini := false) (FL := []) (n := 13) (an := ak_739) h_283 rfl (by decide +kernel) KS_nil (by decide +kernel)
def k_740 : eK := (283, (([]), [yj 23, yj 0], [], (13, [])), [(([]), some (yj 1), [], (13, []))], 0, 0, 1)
def ak_740 : List eAn := [(0, [], [], [])]
theorem K_740 {l : Launch} {D : va_G} {ca : Nat → ClassId} : KMet l D ca k_740 := K_gq (KS := []) (ini := false) (FL := []) (n := 13) (an := ak_740) h_283 rfl (by decide +kernel) KS_nil (by decide +kernel)
def k_741 : eK := (283, (([]), [yj 23, yj 1], [], (13, [])), [(([]), some (yj 1), [], (13, []))], 0, 0, 1)
def ak_741 : List eAn := [(0, [], [], [])]
theorem K_741 {l : Launch} {D : va_G} {ca : Nat → ClassId} : KMet l D ca k_741 := K_gq (KS := []) (ini := false) (FL := []) (n := 13) (an := ak_741) h_283 rfl (by decide +kernel) KS_nil (by decide +kernel)
def k_742 : eK := (283, (([]), [yj 23, yj 2], [], (13, [])), [(([]), some (yj 1), [], (13, []))], 0, 0, 1)
def ak_742 : List eAn := [(0, [], [], [])]
theorem K_742 {l : Launch} {D : va_G} {ca : Nat → ClassId} : KMet l D ca k_742 := K_gq (KS := []) (ini := false) (FL := []) (n := 13) (an := ak_742) h_283 rfl (by decide +kernel) KS_nil (by decide +kernel)
def k_743 : eK := (283, (([]), [yj 23, yj 3], [], (13, [])), [(([]), some (yj 0), [], (13, []))], 0, 0, 1)
def ak_743 : List eAn := [(0, [], [], [])]
theorem K_743 {l : Launch} {D : va_G} {ca : Nat → ClassId} : KMet l D ca k_743 := K_gq (KS := []) (ini := false) (FL := []) (n := 12) (an := ak_743) h_283 rfl (by decide +kernel) KS_nil (by decide +kernel)
def k_744 : eK := (283, (([]), [yj 23, yj 4], [], (13, [])), [(([]), some (yj 1), [], (13, []))], 0, 0, 1)
def ak_744 : List eAn := [(0, [], [], [])]
theorem K_744 {l : Launch} {D : va_G} {ca : Nat → ClassId} : KMet l D ca k_744 := K_gq (KS := []) (ini := false) (FL := []) (n := 13) (an := ak_744) h_283 rfl (by decide +kernel) KS_nil (by decide +kernel)
def k_745 : eK := (283, (([]), [yj 7, yj 0], [], (13, [])), [(([]), some (yj 1), [], (13, []))], 0, 0, 1)
def ak_745 : List eAn := [(0, [], [], [])]
theorem K_745 {l : Launch} {D : va_G} {ca : Nat → ClassId} : KMet l D ca k_745 := K_gq (KS := []) (ini := false) (FL := []) (n := 13) (an := ak_745) h_283 rfl (by decide +kernel) KS_nil (by decide +kernel)
def k_746 : eK := (283, (([]), [yj 7, yj 1], [], (13, [])), [(([]), some (yj 1), [], (13, []))], 0, 0, 1)
def ak_746 : List eAn := [(0, [], [], [])]
theorem K_746 {l : Launch} {D : va_G} {ca : Nat → ClassId} : KMet l D ca k_746 := K_gq (KS := []) (ini := false) (FL := []) (n := 13) (an := ak_746) h_283 rfl (by decide +kernel) KS_nil (by decide +kernel)
def k_747 : eK := (283, (([]), [yj 7, yj 2], [], (13, [])), [(([]), some (yj 1), [], (13, []))], 0, 0, 1)
def ak_747 : List eAn := [(0, [], [], [])]
theorem K_747 {l : Launch} {D : va_G} {ca : Nat → ClassId} : KMet l D ca k_747 := K_gq (KS := []) (ini := false) (FL := []) (n := 13) (an := ak_747) h_283 rfl (by decide +kernel) KS_nil (by decide +kernel)
def k_748 : eK := (283, (([]), [yj 7, yj 3], [], (13, [])), [(([]), some (yj 0), [], (13, []))], 0, 0, 1)
def ak_748 : List eAn := [(0, [], [], [])]
theorem K_748 {l : Launch} {D : va_G} {ca : Nat → ClassId} : KMet l D ca k_748 := K_gq (KS := []) (ini := false) (FL := []) (n := 12) (an := ak_748) h_283 rfl (by decide +kernel) KS_nil (by decide +kernel)
def k_749 : eK := (283, (([]), [yj 7, yj 4], [], (13, [])), [(([]), some (yj 0), [], (13, []))], 0, 0, 1)
def ak_749 : List eAn := [(0, [], [], [])]
theorem K_749 {l : Launch} {D : va_G} {ca : Nat → ClassId} : KMet l D ca k_749 := K_gq (KS := []) (ini := false) (FL := []) (n := 12) (an := ak_749) h_283 rfl (by decide +kernel) KS_nil (by decide +kernel)
def k_750 : eK := (328, (zv_877, [yr 13, yi 0, yj 7] ++ yis 1 3, [(13, zc_815), (15, zc_821), (30, yt 1 5 ([yf 5])), (31, yt 1 5 ([yf 5]))], (37, zf_822)), [(zv_878, none, [(15, zc_821), (13, zc_874), (30, yt 1 5 ([yf 5])), (31, yt 1 5 ([yf 5]))], (37, zf_822))], 0, 0, 5)
def ak_750 : List eAn := [(0, [], nas 0 13, []), (1, [yh 1 2, ye (yk 0), yh 4 151], nas 0 37, hsr 0 41), (2, [ye (yg [(0, 2)] 2), yh 155 2, yh 158 1, yh 4 151], nas 0 37, hsr 41 41), (3, [], nas 0 13, []), (1, [yh 1 2, ye (yk 1), yh 4 18, yh 159 2, yh 24 131], nas 0 37, hsr 82 41), (4, [ye (yg [(0, 2)] 2), yh 161 2, yh 164 1, yh 4 18, yh 159 2, yh 24 131], nas 0 37, hsr 123 41), (5, [], nas 0 13, []), (1, [yh 1 2, ye (yk 2), yh 4 18, yh 165 2, yh 24 131], nas 0 37, hsr 164 41), (6, [ye (yg [(0, 2)] 2), yh 167 2, yh 170 1, yh 4 18, yh 165 2, yh 24 131], nas 0 37, hsr 205 41), (7, [], nas 0 13, []), (8, [], nas 0 13, []), (0, [yh 171 2], [], hsr 246 41)]
theorem K_750 {l : Launch} {D : va_G} {ca : Nat → ClassId} : KMet l D ca k_750 := K_gq (KS := [k_745, k_573, k_655, k_746, k_704, k_747, k_729, k_748, k_749]) (ini := false) (FL := []) (n := 172) (an := ak_750) h_328 rfl (by decide +kernel) (KS_cons K_745 (KS_cons K_573 (KS_cons K_655 (KS_cons K_746 (KS_cons K_704 (KS_cons K_747 (KS_cons K_729 (KS_cons K_748 (KS_cons K_749 KS_nil))))))))) (by decide +kernel)
def k_751 : eK := (328, (zv_879, [yr 13, yi 0, yj 23] ++ yis 1 3, [(13, zc_815), (15, zc_821), (30, yt 1 5 ([yf 5])), (31, yt 1 5 ([yf 5]))], (37, zf_822)), [(zv_880, none, [(15, zc_821), (13, zc_874), (30, yt 1 5 ([yf 5])), (31, yt 1 5 ([yf 5]))], (37, zf_822))], 0, 0, 6)
def ak_751 : List eAn := [(0, [], nas 0 13, []), (1, [yh 1 2, ye (yk 0), yh 4 151], nas 0 37, hsr 0 41), (2, [ye (yg [(0, 2)] 2), yh 155 2, yh 158 1, yh 4 151], nas 0 37, hsr 41 41), (3, [], nas 0 13, []), (1, [yh 1 2, ye (yk 1), yh 4 18, yh 159 2, yh 24 131], nas 0 37, hsr 82 41), (4, [ye (yg [(0, 2)] 2), yh 161 2, yh 164 1, yh 4 18, yh 159 2, yh 24 131], nas 0 37, hsr 123 41), (5, [], nas 0 13, []), (1, [yh 1 2, ye (yk 2), yh 4 18, yh 165 2, yh 24 131], nas 0 37, hsr 164 41), (6, [ye (yg [(0, 2)] 2), yh 167 2, yh 170 1, yh 4 18, yh 165 2, yh 24 131], nas 0 37, hsr 205 41), (7, [], nas 0 13, []), (8, [], nas 0 13, []), (1, [yh 1 2, ye (yk 4), yh 4 18, yh 171 2, yh 24 131], nas 0 37, hsr 246 41), (9, [ye (yg [(0, 2)] 2), yh 173 2, yh 176 1, yh 4 18, yh 171 2, yh 24 131], nas 0 37, hsr 287 41), (0, [yh 177 2], [], hsr 328 41)]
theorem K_751 {l : Launch} {D : va_G} {ca : Nat → ClassId} : KMet l D ca k_751 := K_gq (KS := [k_740, k_573, k_656, k_741, k_705, k_742, k_730, k_743, k_744, k_750]) (ini := false) (FL := []) (n := 209) (an := ak_751) h_328 rfl (by decide +kernel) (KS_cons K_740 (KS_cons K_573 (KS_cons K_656 (KS_cons K_741 (KS_cons K_705 (KS_cons K_742 (KS_cons K_730 (KS_cons K_743 (KS_cons K_744 (KS_cons K_750 KS_nil)))))))))) (by decide +kernel)
def k_752 : eK := (283, (([ya 31 31]), [yi 0, yj 4], [], (13, [])), [(([ya 31 31]), some (yj 1), [], (13, []))], 0, 0, 1)
def ak_752 : List eAn := [(0, [], [], [])]
theorem K_752 {l : Launch} {D : va_G} {ca : Nat → ClassId} : KMet l D ca k_752 := K_gq (KS := []) (ini := false) (FL := []) (n := 13) (an := ak_752) h_283 rfl (by decide +kernel) KS_nil (by decide +kernel)
def k_753 : eK := (283, (([]), [yj 15, yj 0], [], (13, [])), [(([]), some (yj 1), [], (13, []))], 0, 0, 1)
def ak_753 : List eAn := [(0, [], [], [])]
theorem K_753 {l : Launch} {D : va_G} {ca : Nat → ClassId} : KMet l D ca k_753 := K_gq (KS := []) (ini := false) (FL := []) (n := 13) (an := ak_753) h_283 rfl (by decide +kernel) KS_nil (by decide +kernel)
def k_754 : eK := (283, (([]), [yj 15, yj 1], [], (13, [])), [(([]), some (yj 1), [], (13, []))], 0, 0, 1)
def ak_754 : List eAn := [(0, [], [], [])]
theorem K_754 {l : Launch} {D : va_G} {ca : Nat → ClassId} : KMet l D ca k_754 := K_gq (KS := []) (ini := false) (FL := []) (n := 13) (an := ak_754) h_283 rfl (by decide +kernel) KS_nil (by decide +kernel)
def k_755 : eK := (283, (([]), [yj 15, yj 2], [], (13, [])), [(([]), some (yj 1), [], (13, []))], 0, 0, 1)
def ak_755 : List eAn := [(0, [], [], [])]
theorem K_755 {l : Launch} {D : va_G} {ca : Nat → ClassId} : KMet l D ca k_755 := K_gq (KS := []) (ini := false) (FL := []) (n := 13) (an := ak_755) h_283 rfl (by decide +kernel) KS_nil (by decide +kernel)
def k_756 : eK := (283, (([]), [yj 15, yj 3], [], (13, [])), [(([]), some (yj 1), [], (13, []))], 0, 0, 1)
def ak_756 : List eAn := [(0, [], [], [])]
theorem K_756 {l : Launch} {D : va_G} {ca : Nat → ClassId} : KMet l D ca k_756 := K_gq (KS := []) (ini := false) (FL := []) (n := 13) (an := ak_756) h_283 rfl (by decide +kernel) KS_nil (by decide +kernel)
def k_757 : eK := (283, (([]), [yj 15, yj 4], [], (13, [])), [(([]), some (yj 0), [], (13, []))], 0, 0, 1)
def ak_757 : List eAn := [(0, [], [], [])]
theorem K_757 {l : Launch} {D : va_G} {ca : Nat → ClassId} : KMet l D ca k_757 := K_gq (KS := []) (ini := false) (FL := []) (n := 12) (an := ak_757) h_283 rfl (by decide +kernel) KS_nil (by decide +kernel)
def k_758 : eK := (328, (zv_879, [yr 13, yi 0, yj 15] ++ yis 1 3, [(13, zc_815), (15, zc_821), (30, yt 1 5 ([yf 5])), (31, yt 1 5 ([yf 5]))], (37, zf_822)), [(zv_880, none, [(15, zc_821), (13, zc_874), (30, yt 1 5 ([yf 5])), (31, yt 1 5 ([yf 5]))], (37, zf_822))], 0, 0, 6)
def ak_758 : List eAn := [(0, [], nas 0 13, []), (1, [yh 1 2, ye (yk 0), yh 4 151], nas 0 37, hsr 0 41), (2, [ye (yg [(0, 2)] 2), yh 155 2, yh 158 1, yh 4 151], nas 0 37, hsr 41 41), (3, [], nas 0 13, []), (1, [yh 1 2, ye (yk 1), yh 4 18, yh 159 2, yh 24 131], nas 0 37, hsr 82 41), (4, [ye (yg [(0, 2)] 2), yh 161 2, yh 164 1, yh 4 18, yh 159 2, yh 24 131], nas 0 37, hsr 123 41), (5, [], nas 0 13, []), (1, [yh 1 2, ye (yk 2), yh 4 18, yh 165 2, yh 24 131], nas 0 37, hsr 164 41), (6, [ye (yg [(0, 2)] 2), yh 167 2, yh 170 1, yh 4 18, yh 165 2, yh 24 131], nas 0 37, hsr 205 41), (7, [], nas 0 13, []), (1, [yh 1 2, ye (yk 3), yh 4 18, yh 171 2, yh 24 131], nas 0 37, hsr 246 41), (8, [ye (yg [(0, 2)] 2), yh 173 2, yh 176 1, yh 4 18, yh 171 2, yh 24 131], nas 0 37, hsr 287 41), (9, [], nas 0 13, []), (0, [yh 177 2], [], hsr 328 41)]
theorem K_758 {l : Launch} {D : va_G} {ca : Nat → ClassId} : KMet l D ca k_758 := K_gq (KS := [k_753, k_573, k_663, k_754, k_712, k_755, k_737, k_756, k_750, k_757]) (ini := false) (FL := []) (n := 209) (an := ak_758) h_328 rfl (by decide +kernel) (KS_cons K_753 (KS_cons K_573 (KS_cons K_663 (KS_cons K_754 (KS_cons K_712 (KS_cons K_755 (KS_cons K_737 (KS_cons K_756 (KS_cons K_750 (KS_cons K_757 KS_nil)))))))))) (by decide +kernel)
def zv_881 : eEv := [ya 0 0, ya 31 31, ya 0 20, ya 0 20] ++ yu 2 ++ yR 5 (ya 0 940) ++ [ya 0 4] ++ yu 4 ++ yU 1 ++ yu 1 ++ [ya 0 8] ++ yEm [yA 4294967295 4294967294, ya 0 5] 3 ++ yu 3 ++ [ya 0 64] ++ yu 1 ++ [ya 0 40, ya 0 1, ya 0 40, ya 0 20, ya 0 8, ya 0 39] ++ yu 120
def zc_882 : eSC := yt 1 350 ([yw 1 0 5, yw 1 0 8, yw 1 0 6, yw 1 1 30, yf 14, yw 8 0 4, yf 34, yW 6 1 14, yf 16, yW 6 1 14, yf 21, yw 1 0 39] ++ ySm (fun i => yxs (36 + 3 * i) 3 ++ [yf 1]) 0 39 ++ yxs 153 3 ++ [yf 81])
def zf_883 : List eFa := yFm (fun i => (zbT.getD (0 + i) [], [yv (36 + 3 * i), yv (37 + 3 * i), yv (38 + 3 * i)])) 0 40 ++ [(zb_9, [yg [(32, 2), (33, 3)] 0])]
def zv_884 : eEv := [ya 0 0, ya 31 31, ya 0 20, ya 0 20] ++ yu 2 ++ yR 5 (ya 0 940) ++ [ya 0 4] ++ yu 4 ++ yU 1 ++ yu 1 ++ [ya 0 8] ++ yEm [yA 4294967295 4294967294, ya 0 5] 3 ++ yu 3 ++ [ya 0 64] ++ yu 1 ++ [ya 0 40, ya 0 1, ya 0 40, ya 0 20, ya 0 8, ya 0 39] ++ yu 121 ++ [ya 0 5]
def zc_885 : eSC := yo 13 ([yi 5, yr 14] ++ yis 6 10 ++ [yl 16, yi 17, yr 15, yr 16, yr 17, yr 18, yr 19, yr 20, yr 21, yr 22, yr 23, yr 24, yi 18, yr 25, yr 26, yr 27, yi 19, yi 20, yr 28, yr 29, yi 21, yi 22, yr 30, yr 31, yi 156, yi 157] ++ yis 25 3 ++ [yr 32, yr 33, yi 28, yi 29, yr 34, yr 35, yi 30, yi 31, yr 36] ++ yis 32 4)
def k_759 : eK := (328, (zv_881, [yr 13] ++ yis 0 5, [(13, zc_89), (15, zc_882), (30, yt 1 5 ([yf 5])), (31, yt 1 5 ([yf 5]))], (37, zf_883)), [(zv_884, none, [(15, zc_882), (13, zc_885), (30, yt 1 5 ([yf 5])), (31, yt 1 5 ([yf 5]))], (37, zf_883))], 0, 0, 7)
def ak_759 : List eAn := [(0, [yh 1 1], nas 0 13, []), (1, [yh 2 2, ye (yk 0), yh 5 151], nas 0 37, hsr 0 41), (2, [ye (yg [(0, 2)] 2), yh 156 2, yh 159 1, yh 5 151], nas 0 37, hsr 41 41), (3, [yh 1 1], nas 0 13, []), (1, [yh 2 2, ye (yk 1), yh 5 18, yh 160 2, yh 25 131], nas 0 37, hsr 82 41), (4, [ye (yg [(0, 2)] 2), yh 162 2, yh 165 1, yh 5 18, yh 160 2, yh 25 131], nas 0 37, hsr 123 41), (5, [yh 1 1], nas 0 13, []), (1, [yh 2 2, ye (yk 2), yh 5 18, yh 166 2, yh 25 131], nas 0 37, hsr 164 41), (6, [ye (yg [(0, 2)] 2), yh 168 2, yh 171 1, yh 5 18, yh 166 2, yh 25 131], nas 0 37, hsr 205 41), (7, [yh 1 1], nas 0 13, []), (1, [yh 2 2, ye (yk 3), yh 5 18, yh 172 2, yh 25 131], nas 0 37, hsr 246 41), (8, [ye (yg [(0, 2)] 2), yh 174 2, yh 177 1, yh 5 18, yh 172 2, yh 25 131], nas 0 37, hsr 287 41), (9, [yh 1 1], nas 0 13, []), (1, [yh 2 2, ye (yk 4), yh 5 18, yh 178 2, yh 25 131], nas 0 37, hsr 328 41), (10, [ye (yg [(0, 2)] 2), yh 180 2, yh 183 1, yh 5 18, yh 178 2, yh 25 131], nas 0 37, hsr 369 41), (0, [yh 184 2], [], hsr 410 41)]
theorem K_759 {l : Launch} {D : va_G} {ca : Nat → ClassId} : KMet l D ca k_759 := K_gq (KS := [k_571, k_573, k_664, k_665, k_713, k_714, k_738, k_739, k_751, k_752, k_758]) (ini := false) (FL := []) (n := 246) (an := ak_759) h_328 rfl (by decide +kernel) (KS_cons K_571 (KS_cons K_573 (KS_cons K_664 (KS_cons K_665 (KS_cons K_713 (KS_cons K_714 (KS_cons K_738 (KS_cons K_739 (KS_cons K_751 (KS_cons K_752 (KS_cons K_758 KS_nil))))))))))) (by decide +kernel)
def k_760 : eK := (283, (([ya 30 30]), [yi 0, yj 0], [], (13, [])), [(([ya 30 30]), some (yj 0), [], (13, []))], 0, 0, 1)
def ak_760 : List eAn := [(0, [], [], [])]
theorem K_760 {l : Launch} {D : va_G} {ca : Nat → ClassId} : KMet l D ca k_760 := K_gq (KS := []) (ini := false) (FL := []) (n := 12) (an := ak_760) h_283 rfl (by decide +kernel) KS_nil (by decide +kernel)
def k_761 : eK := (283, (([ya 30 30]), [yi 0, yj 1], [], (13, [])), [(([ya 30 30]), some (yj 1), [], (13, []))], 0, 0, 1)
def ak_761 : List eAn := [(0, [], [], [])]
theorem K_761 {l : Launch} {D : va_G} {ca : Nat → ClassId} : KMet l D ca k_761 := K_gq (KS := []) (ini := false) (FL := []) (n := 13) (an := ak_761) h_283 rfl (by decide +kernel) KS_nil (by decide +kernel)
def k_762 : eK := (283, (([ya 30 30]), [yi 0, yj 2], [], (13, [])), [(([ya 30 30]), some (yj 1), [], (13, []))], 0, 0, 1)
def ak_762 : List eAn := [(0, [], [], [])]
theorem K_762 {l : Launch} {D : va_G} {ca : Nat → ClassId} : KMet l D ca k_762 := K_gq (KS := []) (ini := false) (FL := []) (n := 13) (an := ak_762) h_283 rfl (by decide +kernel) KS_nil (by decide +kernel)
def k_763 : eK := (283, (([ya 30 30]), [yi 0, yj 3], [], (13, [])), [(([ya 30 30]), some (yj 1), [], (13, []))], 0, 0, 1)
def ak_763 : List eAn := [(0, [], [], [])]
theorem K_763 {l : Launch} {D : va_G} {ca : Nat → ClassId} : KMet l D ca k_763 := K_gq (KS := []) (ini := false) (FL := []) (n := 13) (an := ak_763) h_283 rfl (by decide +kernel) KS_nil (by decide +kernel)
def k_764 : eK := (283, (([ya 30 30]), [yi 0, yj 4], [], (13, [])), [(([ya 30 30]), some (yj 1), [], (13, []))], 0, 0, 1)
def ak_764 : List eAn := [(0, [], [], [])]
theorem K_764 {l : Launch} {D : va_G} {ca : Nat → ClassId} : KMet l D ca k_764 := K_gq (KS := []) (ini := false) (FL := []) (n := 13) (an := ak_764) h_283 rfl (by decide +kernel) KS_nil (by decide +kernel)
def zv_886 : eEv := [ya 0 1, ya 30 30, ya 0 20, ya 0 20] ++ yu 2 ++ yR 5 (ya 0 940) ++ [ya 0 4] ++ yu 4 ++ yU 1 ++ yu 1 ++ [ya 0 8] ++ yEm [yA 4294967295 4294967294, ya 0 5] 3 ++ yu 3 ++ [ya 0 64] ++ yu 1 ++ [ya 0 40, ya 0 1, ya 0 40, ya 0 20, ya 0 8, ya 0 39] ++ yu 120
def zv_887 : eEv := [ya 0 1, ya 30 30, ya 0 20, ya 0 20] ++ yu 2 ++ yR 5 (ya 0 940) ++ [ya 0 4] ++ yu 4 ++ yU 1 ++ yu 1 ++ [ya 0 8] ++ yEm [yA 4294967295 4294967294, ya 0 5] 3 ++ yu 3 ++ [ya 0 64] ++ yu 1 ++ [ya 0 40, ya 0 1, ya 0 40, ya 0 20, ya 0 8, ya 0 39] ++ yu 121 ++ [ya 0 5]
def k_765 : eK := (328, (zv_886, [yr 13] ++ yis 0 5, [(13, zc_89), (15, zc_882), (30, yt 1 5 ([yf 5])), (31, yt 1 5 ([yf 5]))], (37, zf_883)), [(zv_887, none, [(15, zc_882), (13, zc_885), (30, yt 1 5 ([yf 5])), (31, yt 1 5 ([yf 5]))], (37, zf_883))], 0, 0, 6)
def ak_765 : List eAn := [(0, [yh 1 1], nas 0 13, []), (1, [yh 1 1], nas 0 13, []), (2, [yh 2 2, ye (yk 1), yh 5 151], nas 0 37, hsr 0 41), (3, [ye (yg [(0, 2)] 2), yh 156 2, yh 159 1, yh 5 151], nas 0 37, hsr 41 41), (4, [yh 1 1], nas 0 13, []), (2, [yh 2 2, ye (yk 2), yh 5 18, yh 160 2, yh 25 131], nas 0 37, hsr 82 41), (5, [ye (yg [(0, 2)] 2), yh 162 2, yh 165 1, yh 5 18, yh 160 2, yh 25 131], nas 0 37, hsr 123 41), (6, [yh 1 1], nas 0 13, []), (2, [yh 2 2, ye (yk 3), yh 5 18, yh 166 2, yh 25 131], nas 0 37, hsr 164 41), (7, [ye (yg [(0, 2)] 2), yh 168 2, yh 171 1, yh 5 18, yh 166 2, yh 25 131], nas 0 37, hsr 205 41), (8, [yh 1 1], nas 0 13, []), (2, [yh 2 2, ye (yk 4), yh 5 18, yh 172 2, yh 25 131], nas 0 37, hsr 246 41), (9, [ye (yg [(0, 2)] 2), yh 174 2, yh 177 1, yh 5 18, yh 172 2, yh 25 131], nas 0 37, hsr 287 41), (0, [yh 178 2], [], hsr 328 41)]
theorem K_765 {l : Launch} {D : va_G} {ca : Nat → ClassId} : KMet l D ca k_765 := K_gq (KS := [k_760, k_761, k_573, k_618, k_762, k_643, k_763, k_656, k_764, k_663]) (ini := false) (FL := []) (n := 209) (an := ak_765) h_328 rfl (by decide +kernel) (KS_cons K_760 (KS_cons K_761 (KS_cons K_573 (KS_cons K_618 (KS_cons K_762 (KS_cons K_643 (KS_cons K_763 (KS_cons K_656 (KS_cons K_764 (KS_cons K_663 KS_nil)))))))))) (by decide +kernel)
def k_766 : eK := (283, (([ya 29 29]), [yi 0, yj 0], [], (13, [])), [(([ya 29 29]), some (yj 1), [], (13, []))], 0, 0, 1)
def ak_766 : List eAn := [(0, [], [], [])]
theorem K_766 {l : Launch} {D : va_G} {ca : Nat → ClassId} : KMet l D ca k_766 := K_gq (KS := []) (ini := false) (FL := []) (n := 13) (an := ak_766) h_283 rfl (by decide +kernel) KS_nil (by decide +kernel)
def k_767 : eK := (283, (([ya 29 29]), [yi 0, yj 1], [], (13, [])), [(([ya 29 29]), some (yj 0), [], (13, []))], 0, 0, 1)
def ak_767 : List eAn := [(0, [], [], [])]
theorem K_767 {l : Launch} {D : va_G} {ca : Nat → ClassId} : KMet l D ca k_767 := K_gq (KS := []) (ini := false) (FL := []) (n := 12) (an := ak_767) h_283 rfl (by decide +kernel) KS_nil (by decide +kernel)
def k_768 : eK := (283, (([ya 29 29]), [yi 0, yj 2], [], (13, [])), [(([ya 29 29]), some (yj 1), [], (13, []))], 0, 0, 1)
def ak_768 : List eAn := [(0, [], [], [])]
theorem K_768 {l : Launch} {D : va_G} {ca : Nat → ClassId} : KMet l D ca k_768 := K_gq (KS := []) (ini := false) (FL := []) (n := 13) (an := ak_768) h_283 rfl (by decide +kernel) KS_nil (by decide +kernel)
def k_769 : eK := (283, (([ya 29 29]), [yi 0, yj 3], [], (13, [])), [(([ya 29 29]), some (yj 1), [], (13, []))], 0, 0, 1)
def ak_769 : List eAn := [(0, [], [], [])]
theorem K_769 {l : Launch} {D : va_G} {ca : Nat → ClassId} : KMet l D ca k_769 := K_gq (KS := []) (ini := false) (FL := []) (n := 13) (an := ak_769) h_283 rfl (by decide +kernel) KS_nil (by decide +kernel)
def k_770 : eK := (283, (([ya 29 29]), [yi 0, yj 4], [], (13, [])), [(([ya 29 29]), some (yj 1), [], (13, []))], 0, 0, 1)
def ak_770 : List eAn := [(0, [], [], [])]
theorem K_770 {l : Launch} {D : va_G} {ca : Nat → ClassId} : KMet l D ca k_770 := K_gq (KS := []) (ini := false) (FL := []) (n := 13) (an := ak_770) h_283 rfl (by decide +kernel) KS_nil (by decide +kernel)
def zv_888 : eEv := [ya 0 1, ya 29 29, ya 0 20, ya 0 20] ++ yu 2 ++ yR 5 (ya 0 940) ++ [ya 0 4] ++ yu 4 ++ yU 1 ++ yu 1 ++ [ya 0 8] ++ yEm [yA 4294967295 4294967294, ya 0 5] 3 ++ yu 3 ++ [ya 0 64] ++ yu 1 ++ [ya 0 40, ya 0 1, ya 0 40, ya 0 20, ya 0 8, ya 0 39] ++ yu 120
def zv_889 : eEv := [ya 0 1, ya 29 29, ya 0 20, ya 0 20] ++ yu 2 ++ yR 5 (ya 0 940) ++ [ya 0 4] ++ yu 4 ++ yU 1 ++ yu 1 ++ [ya 0 8] ++ yEm [yA 4294967295 4294967294, ya 0 5] 3 ++ yu 3 ++ [ya 0 64] ++ yu 1 ++ [ya 0 40, ya 0 1, ya 0 40, ya 0 20, ya 0 8, ya 0 39] ++ yu 121 ++ [ya 0 5]
def k_771 : eK := (328, (zv_888, [yr 13] ++ yis 0 5, [(13, zc_89), (15, zc_882), (30, yt 1 5 ([yf 5])), (31, yt 1 5 ([yf 5]))], (37, zf_883)), [(zv_889, none, [(15, zc_882), (13, zc_885), (30, yt 1 5 ([yf 5])), (31, yt 1 5 ([yf 5]))], (37, zf_883))], 0, 0, 6)
def ak_771 : List eAn := [(0, [yh 1 1], nas 0 13, []), (1, [yh 2 2, ye (yk 0), yh 5 151], nas 0 37, hsr 0 41), (2, [ye (yg [(0, 2)] 2), yh 156 2, yh 159 1, yh 5 151], nas 0 37, hsr 41 41), (3, [yh 1 1], nas 0 13, []), (4, [yh 1 1], nas 0 13, []), (1, [yh 2 2, ye (yk 2), yh 5 18, yh 160 2, yh 25 131], nas 0 37, hsr 82 41), (5, [ye (yg [(0, 2)] 2), yh 162 2, yh 165 1, yh 5 18, yh 160 2, yh 25 131], nas 0 37, hsr 123 41), (6, [yh 1 1], nas 0 13, []), (1, [yh 2 2, ye (yk 3), yh 5 18, yh 166 2, yh 25 131], nas 0 37, hsr 164 41), (7, [ye (yg [(0, 2)] 2), yh 168 2, yh 171 1, yh 5 18, yh 166 2, yh 25 131], nas 0 37, hsr 205 41), (8, [yh 1 1], nas 0 13, []), (1, [yh 2 2, ye (yk 4), yh 5 18, yh 172 2, yh 25 131], nas 0 37, hsr 246 41), (9, [ye (yg [(0, 2)] 2), yh 174 2, yh 177 1, yh 5 18, yh 172 2, yh 25 131], nas 0 37, hsr 287 41), (0, [yh 178 2], [], hsr 328 41)]
theorem K_771 {l : Launch} {D : va_G} {ca : Nat → ClassId} : KMet l D ca k_771 := K_gq (KS := [k_766, k_573, k_618, k_767, k_768, k_692, k_769, k_705, k_770, k_712]) (ini := false) (FL := []) (n := 209) (an := ak_771) h_328 rfl (by decide +kernel) (KS_cons K_766 (KS_cons K_573 (KS_cons K_618 (KS_cons K_767 (KS_cons K_768 (KS_cons K_692 (KS_cons K_769 (KS_cons K_705 (KS_cons K_770 (KS_cons K_712 KS_nil)))))))))) (by decide +kernel)
def k_772 : eK := (283, (([ya 28 28]), [yi 0, yj 0], [], (13, [])), [(([ya 28 28]), some (yj 0), [], (13, []))], 0, 0, 1)
def ak_772 : List eAn := [(0, [], [], [])]
theorem K_772 {l : Launch} {D : va_G} {ca : Nat → ClassId} : KMet l D ca k_772 := K_gq (KS := []) (ini := false) (FL := []) (n := 12) (an := ak_772) h_283 rfl (by decide +kernel) KS_nil (by decide +kernel)
def k_773 : eK := (283, (([ya 28 28]), [yi 0, yj 1], [], (13, [])), [(([ya 28 28]), some (yj 0), [], (13, []))], 0, 0, 1)
def ak_773 : List eAn := [(0, [], [], [])]
theorem K_773 {l : Launch} {D : va_G} {ca : Nat → ClassId} : KMet l D ca k_773 := K_gq (KS := []) (ini := false) (FL := []) (n := 12) (an := ak_773) h_283 rfl (by decide +kernel) KS_nil (by decide +kernel)
def k_774 : eK := (283, (([ya 28 28]), [yi 0, yj 2], [], (13, [])), [(([ya 28 28]), some (yj 1), [], (13, []))], 0, 0, 1)
def ak_774 : List eAn := [(0, [], [], [])]
theorem K_774 {l : Launch} {D : va_G} {ca : Nat → ClassId} : KMet l D ca k_774 := K_gq (KS := []) (ini := false) (FL := []) (n := 13) (an := ak_774) h_283 rfl (by decide +kernel) KS_nil (by decide +kernel)
def k_775 : eK := (283, (([ya 28 28]), [yi 0, yj 3], [], (13, [])), [(([ya 28 28]), some (yj 1), [], (13, []))], 0, 0, 1)
def ak_775 : List eAn := [(0, [], [], [])]
theorem K_775 {l : Launch} {D : va_G} {ca : Nat → ClassId} : KMet l D ca k_775 := K_gq (KS := []) (ini := false) (FL := []) (n := 13) (an := ak_775) h_283 rfl (by decide +kernel) KS_nil (by decide +kernel)
def k_776 : eK := (283, (([ya 28 28]), [yi 0, yj 4], [], (13, [])), [(([ya 28 28]), some (yj 1), [], (13, []))], 0, 0, 1)
def ak_776 : List eAn := [(0, [], [], [])]
theorem K_776 {l : Launch} {D : va_G} {ca : Nat → ClassId} : KMet l D ca k_776 := K_gq (KS := []) (ini := false) (FL := []) (n := 13) (an := ak_776) h_283 rfl (by decide +kernel) KS_nil (by decide +kernel)
def zv_890 : eEv := [ya 0 2, ya 28 28, ya 0 20, ya 0 20] ++ yu 2 ++ yR 5 (ya 0 940) ++ [ya 0 4] ++ yu 4 ++ yU 1 ++ yu 1 ++ [ya 0 8] ++ yEm [yA 4294967295 4294967294, ya 0 5] 3 ++ yu 3 ++ [ya 0 64] ++ yu 1 ++ [ya 0 40, ya 0 1, ya 0 40, ya 0 20, ya 0 8, ya 0 39] ++ yu 120
def zv_891 : eEv := [ya 0 2, ya 28 28, ya 0 20, ya 0 20] ++ yu 2 ++ yR 5 (ya 0 940) ++ [ya 0 4] ++ yu 4 ++ yU 1 ++ yu 1 ++ [ya 0 8] ++ yEm [yA 4294967295 4294967294, ya 0 5] 3 ++ yu 3 ++ [ya 0 64] ++ yu 1 ++ [ya 0 40, ya 0 1, ya 0 40, ya 0 20, ya 0 8, ya 0 39] ++ yu 121 ++ [ya 0 5]
def k_777 : eK := (328, (zv_890, [yr 13] ++ yis 0 5, [(13, zc_89), (15, zc_882), (30, yt 1 5 ([yf 5])), (31, yt 1 5 ([yf 5]))], (37, zf_883)), [(zv_891, none, [(15, zc_882), (13, zc_885), (30, yt 1 5 ([yf 5])), (31, yt 1 5 ([yf 5]))], (37, zf_883))], 0, 0, 5)
def ak_777 : List eAn := [(0, [yh 1 1], nas 0 13, []), (1, [yh 1 1], nas 0 13, []), (2, [yh 1 1], nas 0 13, []), (3, [yh 2 2, ye (yk 2), yh 5 151], nas 0 37, hsr 0 41), (4, [ye (yg [(0, 2)] 2), yh 156 2, yh 159 1, yh 5 151], nas 0 37, hsr 41 41), (5, [yh 1 1], nas 0 13, []), (3, [yh 2 2, ye (yk 3), yh 5 18, yh 160 2, yh 25 131], nas 0 37, hsr 82 41), (6, [ye (yg [(0, 2)] 2), yh 162 2, yh 165 1, yh 5 18, yh 160 2, yh 25 131], nas 0 37, hsr 123 41), (7, [yh 1 1], nas 0 13, []), (3, [yh 2 2, ye (yk 4), yh 5 18, yh 166 2, yh 25 131], nas 0 37, hsr 164 41), (8, [ye (yg [(0, 2)] 2), yh 168 2, yh 171 1, yh 5 18, yh 166 2, yh 25 131], nas 0 37, hsr 205 41), (0, [yh 172 2], [], hsr 246 41)]
theorem K_777 {l : Launch} {D : va_G} {ca : Nat → ClassId} : KMet l D ca k_777 := K_gq (KS := [k_772, k_773, k_774, k_573, k_597, k_775, k_610, k_776, k_617]) (ini := false) (FL := []) (n := 172) (an := ak_777) h_328 rfl (by decide +kernel) (KS_cons K_772 (KS_cons K_773 (KS_cons K_774 (KS_cons K_573 (KS_cons K_597 (KS_cons K_775 (KS_cons K_610 (KS_cons K_776 (KS_cons K_617 KS_nil))))))))) (by decide +kernel)
def k_778 : eK := (283, (([ya 27 27]), [yi 0, yj 0], [], (13, [])), [(([ya 27 27]), some (yj 1), [], (13, []))], 0, 0, 1)
def ak_778 : List eAn := [(0, [], [], [])]
theorem K_778 {l : Launch} {D : va_G} {ca : Nat → ClassId} : KMet l D ca k_778 := K_gq (KS := []) (ini := false) (FL := []) (n := 13) (an := ak_778) h_283 rfl (by decide +kernel) KS_nil (by decide +kernel)
def k_779 : eK := (283, (([ya 27 27]), [yi 0, yj 1], [], (13, [])), [(([ya 27 27]), some (yj 1), [], (13, []))], 0, 0, 1)
def ak_779 : List eAn := [(0, [], [], [])]
theorem K_779 {l : Launch} {D : va_G} {ca : Nat → ClassId} : KMet l D ca k_779 := K_gq (KS := []) (ini := false) (FL := []) (n := 13) (an := ak_779) h_283 rfl (by decide +kernel) KS_nil (by decide +kernel)
def k_780 : eK := (283, (([ya 27 27]), [yi 0, yj 2], [], (13, [])), [(([ya 27 27]), some (yj 0), [], (13, []))], 0, 0, 1)
def ak_780 : List eAn := [(0, [], [], [])]
theorem K_780 {l : Launch} {D : va_G} {ca : Nat → ClassId} : KMet l D ca k_780 := K_gq (KS := []) (ini := false) (FL := []) (n := 12) (an := ak_780) h_283 rfl (by decide +kernel) KS_nil (by decide +kernel)
def k_781 : eK := (283, (([ya 27 27]), [yi 0, yj 3], [], (13, [])), [(([ya 27 27]), some (yj 1), [], (13, []))], 0, 0, 1)
def ak_781 : List eAn := [(0, [], [], [])]
theorem K_781 {l : Launch} {D : va_G} {ca : Nat → ClassId} : KMet l D ca k_781 := K_gq (KS := []) (ini := false) (FL := []) (n := 13) (an := ak_781) h_283 rfl (by decide +kernel) KS_nil (by decide +kernel)
def k_782 : eK := (283, (([ya 27 27]), [yi 0, yj 4], [], (13, [])), [(([ya 27 27]), some (yj 1), [], (13, []))], 0, 0, 1)
def ak_782 : List eAn := [(0, [], [], [])]
theorem K_782 {l : Launch} {D : va_G} {ca : Nat → ClassId} : KMet l D ca k_782 := K_gq (KS := []) (ini := false) (FL := []) (n := 13) (an := ak_782) h_283 rfl (by decide +kernel) KS_nil (by decide +kernel)
def zv_892 : eEv := [ya 0 1, ya 27 27, ya 0 20, ya 0 20] ++ yu 2 ++ yR 5 (ya 0 940) ++ [ya 0 4] ++ yu 4 ++ yU 1 ++ yu 1 ++ [ya 0 8] ++ yEm [yA 4294967295 4294967294, ya 0 5] 3 ++ yu 3 ++ [ya 0 64] ++ yu 1 ++ [ya 0 40, ya 0 1, ya 0 40, ya 0 20, ya 0 8, ya 0 39] ++ yu 120
def zv_893 : eEv := [ya 0 1, ya 27 27, ya 0 20, ya 0 20] ++ yu 2 ++ yR 5 (ya 0 940) ++ [ya 0 4] ++ yu 4 ++ yU 1 ++ yu 1 ++ [ya 0 8] ++ yEm [yA 4294967295 4294967294, ya 0 5] 3 ++ yu 3 ++ [ya 0 64] ++ yu 1 ++ [ya 0 40, ya 0 1, ya 0 40, ya 0 20, ya 0 8, ya 0 39] ++ yu 121 ++ [ya 0 5]
def k_783 : eK := (328, (zv_892, [yr 13] ++ yis 0 5, [(13, zc_89), (15, zc_882), (30, yt 1 5 ([yf 5])), (31, yt 1 5 ([yf 5]))], (37, zf_883)), [(zv_893, none, [(15, zc_882), (13, zc_885), (30, yt 1 5 ([yf 5])), (31, yt 1 5 ([yf 5]))], (37, zf_883))], 0, 0, 6)
def ak_783 : List eAn := [(0, [yh 1 1], nas 0 13, []), (1, [yh 2 2, ye (yk 0), yh 5 151], nas 0 37, hsr 0 41), (2, [ye (yg [(0, 2)] 2), yh 156 2, yh 159 1, yh 5 151], nas 0 37, hsr 41 41), (3, [yh 1 1], nas 0 13, []), (1, [yh 2 2, ye (yk 1), yh 5 18, yh 160 2, yh 25 131], nas 0 37, hsr 82 41), (4, [ye (yg [(0, 2)] 2), yh 162 2, yh 165 1, yh 5 18, yh 160 2, yh 25 131], nas 0 37, hsr 123 41), (5, [yh 1 1], nas 0 13, []), (6, [yh 1 1], nas 0 13, []), (1, [yh 2 2, ye (yk 3), yh 5 18, yh 166 2, yh 25 131], nas 0 37, hsr 164 41), (7, [ye (yg [(0, 2)] 2), yh 168 2, yh 171 1, yh 5 18, yh 166 2, yh 25 131], nas 0 37, hsr 205 41), (8, [yh 1 1], nas 0 13, []), (1, [yh 2 2, ye (yk 4), yh 5 18, yh 172 2, yh 25 131], nas 0 37, hsr 246 41), (9, [ye (yg [(0, 2)] 2), yh 174 2, yh 177 1, yh 5 18, yh 172 2, yh 25 131], nas 0 37, hsr 287 41), (0, [yh 178 2], [], hsr 328 41)]
theorem K_783 {l : Launch} {D : va_G} {ca : Nat → ClassId} : KMet l D ca k_783 := K_gq (KS := [k_778, k_573, k_643, k_779, k_692, k_780, k_781, k_730, k_782, k_737]) (ini := false) (FL := []) (n := 209) (an := ak_783) h_328 rfl (by decide +kernel) (KS_cons K_778 (KS_cons K_573 (KS_cons K_643 (KS_cons K_779 (KS_cons K_692 (KS_cons K_780 (KS_cons K_781 (KS_cons K_730 (KS_cons K_782 (KS_cons K_737 KS_nil)))))))))) (by decide +kernel)
def k_784 : eK := (283, (([ya 26 26]), [yi 0, yj 0], [], (13, [])), [(([ya 26 26]), some (yj 0), [], (13, []))], 0, 0, 1)
def ak_784 : List eAn := [(0, [], [], [])]
theorem K_784 {l : Launch} {D : va_G} {ca : Nat → ClassId} : KMet l D ca k_784 := K_gq (KS := []) (ini := false) (FL := []) (n := 12) (an := ak_784) h_283 rfl (by decide +kernel) KS_nil (by decide +kernel)
def k_785 : eK := (283, (([ya 26 26]), [yi 0, yj 1], [], (13, [])), [(([ya 26 26]), some (yj 1), [], (13, []))], 0, 0, 1)
def ak_785 : List eAn := [(0, [], [], [])]
theorem K_785 {l : Launch} {D : va_G} {ca : Nat → ClassId} : KMet l D ca k_785 := K_gq (KS := []) (ini := false) (FL := []) (n := 13) (an := ak_785) h_283 rfl (by decide +kernel) KS_nil (by decide +kernel)
def k_786 : eK := (283, (([ya 26 26]), [yi 0, yj 2], [], (13, [])), [(([ya 26 26]), some (yj 0), [], (13, []))], 0, 0, 1)
def ak_786 : List eAn := [(0, [], [], [])]
theorem K_786 {l : Launch} {D : va_G} {ca : Nat → ClassId} : KMet l D ca k_786 := K_gq (KS := []) (ini := false) (FL := []) (n := 12) (an := ak_786) h_283 rfl (by decide +kernel) KS_nil (by decide +kernel)
def k_787 : eK := (283, (([ya 26 26]), [yi 0, yj 3], [], (13, [])), [(([ya 26 26]), some (yj 1), [], (13, []))], 0, 0, 1)
def ak_787 : List eAn := [(0, [], [], [])]
theorem K_787 {l : Launch} {D : va_G} {ca : Nat → ClassId} : KMet l D ca k_787 := K_gq (KS := []) (ini := false) (FL := []) (n := 13) (an := ak_787) h_283 rfl (by decide +kernel) KS_nil (by decide +kernel)
def k_788 : eK := (283, (([ya 26 26]), [yi 0, yj 4], [], (13, [])), [(([ya 26 26]), some (yj 1), [], (13, []))], 0, 0, 1)
def ak_788 : List eAn := [(0, [], [], [])]
theorem K_788 {l : Launch} {D : va_G} {ca : Nat → ClassId} : KMet l D ca k_788 := K_gq (KS := []) (ini := false) (FL := []) (n := 13) (an := ak_788) h_283 rfl (by decide +kernel) KS_nil (by decide +kernel)
def zv_894 : eEv := [ya 0 2, ya 26 26, ya 0 20, ya 0 20] ++ yu 2 ++ yR 5 (ya 0 940) ++ [ya 0 4] ++ yu 4 ++ yU 1 ++ yu 1 ++ [ya 0 8] ++ yEm [yA 4294967295 4294967294, ya 0 5] 3 ++ yu 3 ++ [ya 0 64] ++ yu 1 ++ [ya 0 40, ya 0 1, ya 0 40, ya 0 20, ya 0 8, ya 0 39] ++ yu 120
def zv_895 : eEv := [ya 0 2, ya 26 26, ya 0 20, ya 0 20] ++ yu 2 ++ yR 5 (ya 0 940) ++ [ya 0 4] ++ yu 4 ++ yU 1 ++ yu 1 ++ [ya 0 8] ++ yEm [yA 4294967295 4294967294, ya 0 5] 3 ++ yu 3 ++ [ya 0 64] ++ yu 1 ++ [ya 0 40, ya 0 1, ya 0 40, ya 0 20, ya 0 8, ya 0 39] ++ yu 121 ++ [ya 0 5]
def k_789 : eK := (328, (zv_894, [yr 13] ++ yis 0 5, [(13, zc_89), (15, zc_882), (30, yt 1 5 ([yf 5])), (31, yt 1 5 ([yf 5]))], (37, zf_883)), [(zv_895, none, [(15, zc_882), (13, zc_885), (30, yt 1 5 ([yf 5])), (31, yt 1 5 ([yf 5]))], (37, zf_883))], 0, 0, 5)
def ak_789 : List eAn := [(0, [yh 1 1], nas 0 13, []), (1, [yh 1 1], nas 0 13, []), (2, [yh 2 2, ye (yk 1), yh 5 151], nas 0 37, hsr 0 41), (3, [ye (yg [(0, 2)] 2), yh 156 2, yh 159 1, yh 5 151], nas 0 37, hsr 41 41), (4, [yh 1 1], nas 0 13, []), (5, [yh 1 1], nas 0 13, []), (2, [yh 2 2, ye (yk 3), yh 5 18, yh 160 2, yh 25 131], nas 0 37, hsr 82 41), (6, [ye (yg [(0, 2)] 2), yh 162 2, yh 165 1, yh 5 18, yh 160 2, yh 25 131], nas 0 37, hsr 123 41), (7, [yh 1 1], nas 0 13, []), (2, [yh 2 2, ye (yk 4), yh 5 18, yh 166 2, yh 25 131], nas 0 37, hsr 164 41), (8, [ye (yg [(0, 2)] 2), yh 168 2, yh 171 1, yh 5 18, yh 166 2, yh 25 131], nas 0 37, hsr 205 41), (0, [yh 172 2], [], hsr 246 41)]
theorem K_789 {l : Launch} {D : va_G} {ca : Nat → ClassId} : KMet l D ca k_789 := K_gq (KS := [k_784, k_785, k_573, k_597, k_786, k_787, k_635, k_788, k_642]) (ini := false) (FL := []) (n := 172) (an := ak_789) h_328 rfl (by decide +kernel) (KS_cons K_784 (KS_cons K_785 (KS_cons K_573 (KS_cons K_597 (KS_cons K_786 (KS_cons K_787 (KS_cons K_635 (KS_cons K_788 (KS_cons K_642 KS_nil))))))))) (by decide +kernel)
def k_790 : eK := (283, (([ya 25 25]), [yi 0, yj 0], [], (13, [])), [(([ya 25 25]), some (yj 1), [], (13, []))], 0, 0, 1)
def ak_790 : List eAn := [(0, [], [], [])]
theorem K_790 {l : Launch} {D : va_G} {ca : Nat → ClassId} : KMet l D ca k_790 := K_gq (KS := []) (ini := false) (FL := []) (n := 13) (an := ak_790) h_283 rfl (by decide +kernel) KS_nil (by decide +kernel)
def k_791 : eK := (283, (([ya 25 25]), [yi 0, yj 1], [], (13, [])), [(([ya 25 25]), some (yj 0), [], (13, []))], 0, 0, 1)
def ak_791 : List eAn := [(0, [], [], [])]
theorem K_791 {l : Launch} {D : va_G} {ca : Nat → ClassId} : KMet l D ca k_791 := K_gq (KS := []) (ini := false) (FL := []) (n := 12) (an := ak_791) h_283 rfl (by decide +kernel) KS_nil (by decide +kernel)
def k_792 : eK := (283, (([ya 25 25]), [yi 0, yj 2], [], (13, [])), [(([ya 25 25]), some (yj 0), [], (13, []))], 0, 0, 1)
def ak_792 : List eAn := [(0, [], [], [])]
theorem K_792 {l : Launch} {D : va_G} {ca : Nat → ClassId} : KMet l D ca k_792 := K_gq (KS := []) (ini := false) (FL := []) (n := 12) (an := ak_792) h_283 rfl (by decide +kernel) KS_nil (by decide +kernel)
def k_793 : eK := (283, (([ya 25 25]), [yi 0, yj 3], [], (13, [])), [(([ya 25 25]), some (yj 1), [], (13, []))], 0, 0, 1)
def ak_793 : List eAn := [(0, [], [], [])]
theorem K_793 {l : Launch} {D : va_G} {ca : Nat → ClassId} : KMet l D ca k_793 := K_gq (KS := []) (ini := false) (FL := []) (n := 13) (an := ak_793) h_283 rfl (by decide +kernel) KS_nil (by decide +kernel)
def k_794 : eK := (283, (([ya 25 25]), [yi 0, yj 4], [], (13, [])), [(([ya 25 25]), some (yj 1), [], (13, []))], 0, 0, 1)
def ak_794 : List eAn := [(0, [], [], [])]
theorem K_794 {l : Launch} {D : va_G} {ca : Nat → ClassId} : KMet l D ca k_794 := K_gq (KS := []) (ini := false) (FL := []) (n := 13) (an := ak_794) h_283 rfl (by decide +kernel) KS_nil (by decide +kernel)
def zv_896 : eEv := [ya 0 2, ya 25 25, ya 0 20, ya 0 20] ++ yu 2 ++ yR 5 (ya 0 940) ++ [ya 0 4] ++ yu 4 ++ yU 1 ++ yu 1 ++ [ya 0 8] ++ yEm [yA 4294967295 4294967294, ya 0 5] 3 ++ yu 3 ++ [ya 0 64] ++ yu 1 ++ [ya 0 40, ya 0 1, ya 0 40, ya 0 20, ya 0 8, ya 0 39] ++ yu 120
def zv_897 : eEv := [ya 0 2, ya 25 25, ya 0 20, ya 0 20] ++ yu 2 ++ yR 5 (ya 0 940) ++ [ya 0 4] ++ yu 4 ++ yU 1 ++ yu 1 ++ [ya 0 8] ++ yEm [yA 4294967295 4294967294, ya 0 5] 3 ++ yu 3 ++ [ya 0 64] ++ yu 1 ++ [ya 0 40, ya 0 1, ya 0 40, ya 0 20, ya 0 8, ya 0 39] ++ yu 121 ++ [ya 0 5]
def k_795 : eK := (328, (zv_896, [yr 13] ++ yis 0 5, [(13, zc_89), (15, zc_882), (30, yt 1 5 ([yf 5])), (31, yt 1 5 ([yf 5]))], (37, zf_883)), [(zv_897, none, [(15, zc_882), (13, zc_885), (30, yt 1 5 ([yf 5])), (31, yt 1 5 ([yf 5]))], (37, zf_883))], 0, 0, 5)
def ak_795 : List eAn := [(0, [yh 1 1], nas 0 13, []), (1, [yh 2 2, ye (yk 0), yh 5 151], nas 0 37, hsr 0 41), (2, [ye (yg [(0, 2)] 2), yh 156 2, yh 159 1, yh 5 151], nas 0 37, hsr 41 41), (3, [yh 1 1], nas 0 13, []), (4, [yh 1 1], nas 0 13, []), (5, [yh 1 1], nas 0 13, []), (1, [yh 2 2, ye (yk 3), yh 5 18, yh 160 2, yh 25 131], nas 0 37, hsr 82 41), (6, [ye (yg [(0, 2)] 2), yh 162 2, yh 165 1, yh 5 18, yh 160 2, yh 25 131], nas 0 37, hsr 123 41), (7, [yh 1 1], nas 0 13, []), (1, [yh 2 2, ye (yk 4), yh 5 18, yh 166 2, yh 25 131], nas 0 37, hsr 164 41), (8, [ye (yg [(0, 2)] 2), yh 168 2, yh 171 1, yh 5 18, yh 166 2, yh 25 131], nas 0 37, hsr 205 41), (0, [yh 172 2], [], hsr 246 41)]
theorem K_795 {l : Launch} {D : va_G} {ca : Nat → ClassId} : KMet l D ca k_795 := K_gq (KS := [k_790, k_573, k_597, k_791, k_792, k_793, k_684, k_794, k_691]) (ini := false) (FL := []) (n := 172) (an := ak_795) h_328 rfl (by decide +kernel) (KS_cons K_790 (KS_cons K_573 (KS_cons K_597 (KS_cons K_791 (KS_cons K_792 (KS_cons K_793 (KS_cons K_684 (KS_cons K_794 (KS_cons K_691 KS_nil))))))))) (by decide +kernel)
def k_796 : eK := (283, (([ya 24 24]), [yi 0, yj 0], [], (13, [])), [(([ya 24 24]), some (yj 0), [], (13, []))], 0, 0, 1)
def ak_796 : List eAn := [(0, [], [], [])]
theorem K_796 {l : Launch} {D : va_G} {ca : Nat → ClassId} : KMet l D ca k_796 := K_gq (KS := []) (ini := false) (FL := []) (n := 12) (an := ak_796) h_283 rfl (by decide +kernel) KS_nil (by decide +kernel)
def k_797 : eK := (283, (([ya 24 24]), [yi 0, yj 1], [], (13, [])), [(([ya 24 24]), some (yj 0), [], (13, []))], 0, 0, 1)
def ak_797 : List eAn := [(0, [], [], [])]
theorem K_797 {l : Launch} {D : va_G} {ca : Nat → ClassId} : KMet l D ca k_797 := K_gq (KS := []) (ini := false) (FL := []) (n := 12) (an := ak_797) h_283 rfl (by decide +kernel) KS_nil (by decide +kernel)
def k_798 : eK := (283, (([ya 24 24]), [yi 0, yj 2], [], (13, [])), [(([ya 24 24]), some (yj 0), [], (13, []))], 0, 0, 1)
def ak_798 : List eAn := [(0, [], [], [])]
theorem K_798 {l : Launch} {D : va_G} {ca : Nat → ClassId} : KMet l D ca k_798 := K_gq (KS := []) (ini := false) (FL := []) (n := 12) (an := ak_798) h_283 rfl (by decide +kernel) KS_nil (by decide +kernel)
def k_799 : eK := (283, (([ya 24 24]), [yi 0, yj 3], [], (13, [])), [(([ya 24 24]), some (yj 1), [], (13, []))], 0, 0, 1)
def ak_799 : List eAn := [(0, [], [], [])]
theorem K_799 {l : Launch} {D : va_G} {ca : Nat → ClassId} : KMet l D ca k_799 := K_gq (KS := []) (ini := false) (FL := []) (n := 13) (an := ak_799) h_283 rfl (by decide +kernel) KS_nil (by decide +kernel)
def k_800 : eK := (283, (([ya 24 24]), [yi 0, yj 4], [], (13, [])), [(([ya 24 24]), some (yj 1), [], (13, []))], 0, 0, 1)
def ak_800 : List eAn := [(0, [], [], [])]
theorem K_800 {l : Launch} {D : va_G} {ca : Nat → ClassId} : KMet l D ca k_800 := K_gq (KS := []) (ini := false) (FL := []) (n := 13) (an := ak_800) h_283 rfl (by decide +kernel) KS_nil (by decide +kernel)
def zv_898 : eEv := [ya 0 3, ya 24 24, ya 0 20, ya 0 20] ++ yu 2 ++ yR 5 (ya 0 940) ++ [ya 0 4] ++ yu 4 ++ yU 1 ++ yu 1 ++ [ya 0 8] ++ yEm [yA 4294967295 4294967294, ya 0 5] 3 ++ yu 3 ++ [ya 0 64] ++ yu 1 ++ [ya 0 40, ya 0 1, ya 0 40, ya 0 20, ya 0 8, ya 0 39] ++ yu 120
def zv_899 : eEv := [ya 0 3, ya 24 24, ya 0 20, ya 0 20] ++ yu 2 ++ yR 5 (ya 0 940) ++ [ya 0 4] ++ yu 4 ++ yU 1 ++ yu 1 ++ [ya 0 8] ++ yEm [yA 4294967295 4294967294, ya 0 5] 3 ++ yu 3 ++ [ya 0 64] ++ yu 1 ++ [ya 0 40, ya 0 1, ya 0 40, ya 0 20, ya 0 8, ya 0 39] ++ yu 121 ++ [ya 0 5]
def k_801 : eK := (328, (zv_898, [yr 13] ++ yis 0 5, [(13, zc_89), (15, zc_882), (30, yt 1 5 ([yf 5])), (31, yt 1 5 ([yf 5]))], (37, zf_883)), [(zv_899, none, [(15, zc_882), (13, zc_885), (30, yt 1 5 ([yf 5])), (31, yt 1 5 ([yf 5]))], (37, zf_883))], 0, 0, 4)
def ak_801 : List eAn := [(0, [yh 1 1], nas 0 13, []), (1, [yh 1 1], nas 0 13, []), (2, [yh 1 1], nas 0 13, []), (3, [yh 1 1], nas 0 13, []), (4, [yh 2 2, ye (yk 3), yh 5 151], nas 0 37, hsr 0 41), (5, [ye (yg [(0, 2)] 2), yh 156 2, yh 159 1, yh 5 151], nas 0 37, hsr 41 41), (6, [yh 1 1], nas 0 13, []), (4, [yh 2 2, ye (yk 4), yh 5 18, yh 160 2, yh 25 131], nas 0 37, hsr 82 41), (7, [ye (yg [(0, 2)] 2), yh 162 2, yh 165 1, yh 5 18, yh 160 2, yh 25 131], nas 0 37, hsr 123 41), (0, [yh 166 2], [], hsr 164 41)]
theorem K_801 {l : Launch} {D : va_G} {ca : Nat → ClassId} : KMet l D ca k_801 := K_gq (KS := [k_796, k_797, k_798, k_799, k_573, k_589, k_800, k_596]) (ini := false) (FL := []) (n := 135) (an := ak_801) h_328 rfl (by decide +kernel) (KS_cons K_796 (KS_cons K_797 (KS_cons K_798 (KS_cons K_799 (KS_cons K_573 (KS_cons K_589 (KS_cons K_800 (KS_cons K_596 KS_nil)))))))) (by decide +kernel)
def k_802 : eK := (283, (([ya 23 23]), [yi 0, yj 0], [], (13, [])), [(([ya 23 23]), some (yj 1), [], (13, []))], 0, 0, 1)
def ak_802 : List eAn := [(0, [], [], [])]
theorem K_802 {l : Launch} {D : va_G} {ca : Nat → ClassId} : KMet l D ca k_802 := K_gq (KS := []) (ini := false) (FL := []) (n := 13) (an := ak_802) h_283 rfl (by decide +kernel) KS_nil (by decide +kernel)
def k_803 : eK := (283, (([ya 23 23]), [yi 0, yj 1], [], (13, [])), [(([ya 23 23]), some (yj 1), [], (13, []))], 0, 0, 1)
def ak_803 : List eAn := [(0, [], [], [])]
theorem K_803 {l : Launch} {D : va_G} {ca : Nat → ClassId} : KMet l D ca k_803 := K_gq (KS := []) (ini := false) (FL := []) (n := 13) (an := ak_803) h_283 rfl (by decide +kernel) KS_nil (by decide +kernel)
def k_804 : eK := (283, (([ya 23 23]), [yi 0, yj 2], [], (13, [])), [(([ya 23 23]), some (yj 1), [], (13, []))], 0, 0, 1)
def ak_804 : List eAn := [(0, [], [], [])]
theorem K_804 {l : Launch} {D : va_G} {ca : Nat → ClassId} : KMet l D ca k_804 := K_gq (KS := []) (ini := false) (FL := []) (n := 13) (an := ak_804) h_283 rfl (by decide +kernel) KS_nil (by decide +kernel)
def k_805 : eK := (283, (([ya 23 23]), [yi 0, yj 3], [], (13, [])), [(([ya 23 23]), some (yj 0), [], (13, []))], 0, 0, 1)
def ak_805 : List eAn := [(0, [], [], [])]
theorem K_805 {l : Launch} {D : va_G} {ca : Nat → ClassId} : KMet l D ca k_805 := K_gq (KS := []) (ini := false) (FL := []) (n := 12) (an := ak_805) h_283 rfl (by decide +kernel) KS_nil (by decide +kernel)
def k_806 : eK := (283, (([ya 23 23]), [yi 0, yj 4], [], (13, [])), [(([ya 23 23]), some (yj 1), [], (13, []))], 0, 0, 1)
def ak_806 : List eAn := [(0, [], [], [])]
theorem K_806 {l : Launch} {D : va_G} {ca : Nat → ClassId} : KMet l D ca k_806 := K_gq (KS := []) (ini := false) (FL := []) (n := 13) (an := ak_806) h_283 rfl (by decide +kernel) KS_nil (by decide +kernel)
def zv_900 : eEv := [ya 0 1, ya 23 23, ya 0 20, ya 0 20] ++ yu 2 ++ yR 5 (ya 0 940) ++ [ya 0 4] ++ yu 4 ++ yU 1 ++ yu 1 ++ [ya 0 8] ++ yEm [yA 4294967295 4294967294, ya 0 5] 3 ++ yu 3 ++ [ya 0 64] ++ yu 1 ++ [ya 0 40, ya 0 1, ya 0 40, ya 0 20, ya 0 8, ya 0 39] ++ yu 120
def zv_901 : eEv := [ya 0 1, ya 23 23, ya 0 20, ya 0 20] ++ yu 2 ++ yR 5 (ya 0 940) ++ [ya 0 4] ++ yu 4 ++ yU 1 ++ yu 1 ++ [ya 0 8] ++ yEm [yA 4294967295 4294967294, ya 0 5] 3 ++ yu 3 ++ [ya 0 64] ++ yu 1 ++ [ya 0 40, ya 0 1, ya 0 40, ya 0 20, ya 0 8, ya 0 39] ++ yu 121 ++ [ya 0 5]
def k_807 : eK := (328, (zv_900, [yr 13] ++ yis 0 5, [(13, zc_89), (15, zc_882), (30, yt 1 5 ([yf 5])), (31, yt 1 5 ([yf 5]))], (37, zf_883)), [(zv_901, none, [(15, zc_882), (13, zc_885), (30, yt 1 5 ([yf 5])), (31, yt 1 5 ([yf 5]))], (37, zf_883))], 0, 0, 6)
def ak_807 : List eAn := [(0, [yh 1 1], nas 0 13, []), (1, [yh 2 2, ye (yk 0), yh 5 151], nas 0 37, hsr 0 41), (2, [ye (yg [(0, 2)] 2), yh 156 2, yh 159 1, yh 5 151], nas 0 37, hsr 41 41), (3, [yh 1 1], nas 0 13, []), (1, [yh 2 2, ye (yk 1), yh 5 18, yh 160 2, yh 25 131], nas 0 37, hsr 82 41), (4, [ye (yg [(0, 2)] 2), yh 162 2, yh 165 1, yh 5 18, yh 160 2, yh 25 131], nas 0 37, hsr 123 41), (5, [yh 1 1], nas 0 13, []), (1, [yh 2 2, ye (yk 2), yh 5 18, yh 166 2, yh 25 131], nas 0 37, hsr 164 41), (6, [ye (yg [(0, 2)] 2), yh 168 2, yh 171 1, yh 5 18, yh 166 2, yh 25 131], nas 0 37, hsr 205 41), (7, [yh 1 1], nas 0 13, []), (8, [yh 1 1], nas 0 13, []), (1, [yh 2 2, ye (yk 4), yh 5 18, yh 172 2, yh 25 131], nas 0 37, hsr 246 41), (9, [ye (yg [(0, 2)] 2), yh 174 2, yh 177 1, yh 5 18, yh 172 2, yh 25 131], nas 0 37, hsr 287 41), (0, [yh 178 2], [], hsr 328 41)]
theorem K_807 {l : Launch} {D : va_G} {ca : Nat → ClassId} : KMet l D ca k_807 := K_gq (KS := [k_802, k_573, k_656, k_803, k_705, k_804, k_730, k_805, k_806, k_750]) (ini := false) (FL := []) (n := 209) (an := ak_807) h_328 rfl (by decide +kernel) (KS_cons K_802 (KS_cons K_573 (KS_cons K_656 (KS_cons K_803 (KS_cons K_705 (KS_cons K_804 (KS_cons K_730 (KS_cons K_805 (KS_cons K_806 (KS_cons K_750 KS_nil)))))))))) (by decide +kernel)
def k_808 : eK := (283, (([ya 22 22]), [yi 0, yj 0], [], (13, [])), [(([ya 22 22]), some (yj 0), [], (13, []))], 0, 0, 1)
def ak_808 : List eAn := [(0, [], [], [])]
theorem K_808 {l : Launch} {D : va_G} {ca : Nat → ClassId} : KMet l D ca k_808 := K_gq (KS := []) (ini := false) (FL := []) (n := 12) (an := ak_808) h_283 rfl (by decide +kernel) KS_nil (by decide +kernel)
def k_809 : eK := (283, (([ya 22 22]), [yi 0, yj 1], [], (13, [])), [(([ya 22 22]), some (yj 1), [], (13, []))], 0, 0, 1)
def ak_809 : List eAn := [(0, [], [], [])]
theorem K_809 {l : Launch} {D : va_G} {ca : Nat → ClassId} : KMet l D ca k_809 := K_gq (KS := []) (ini := false) (FL := []) (n := 13) (an := ak_809) h_283 rfl (by decide +kernel) KS_nil (by decide +kernel)
def k_810 : eK := (283, (([ya 22 22]), [yi 0, yj 2], [], (13, [])), [(([ya 22 22]), some (yj 1), [], (13, []))], 0, 0, 1)
def ak_810 : List eAn := [(0, [], [], [])]
theorem K_810 {l : Launch} {D : va_G} {ca : Nat → ClassId} : KMet l D ca k_810 := K_gq (KS := []) (ini := false) (FL := []) (n := 13) (an := ak_810) h_283 rfl (by decide +kernel) KS_nil (by decide +kernel)
def k_811 : eK := (283, (([ya 22 22]), [yi 0, yj 3], [], (13, [])), [(([ya 22 22]), some (yj 0), [], (13, []))], 0, 0, 1)
def ak_811 : List eAn := [(0, [], [], [])]
theorem K_811 {l : Launch} {D : va_G} {ca : Nat → ClassId} : KMet l D ca k_811 := K_gq (KS := []) (ini := false) (FL := []) (n := 12) (an := ak_811) h_283 rfl (by decide +kernel) KS_nil (by decide +kernel)
def k_812 : eK := (283, (([ya 22 22]), [yi 0, yj 4], [], (13, [])), [(([ya 22 22]), some (yj 1), [], (13, []))], 0, 0, 1)
def ak_812 : List eAn := [(0, [], [], [])]
theorem K_812 {l : Launch} {D : va_G} {ca : Nat → ClassId} : KMet l D ca k_812 := K_gq (KS := []) (ini := false) (FL := []) (n := 13) (an := ak_812) h_283 rfl (by decide +kernel) KS_nil (by decide +kernel)
def zv_902 : eEv := [ya 0 2, ya 22 22, ya 0 20, ya 0 20] ++ yu 2 ++ yR 5 (ya 0 940) ++ [ya 0 4] ++ yu 4 ++ yU 1 ++ yu 1 ++ [ya 0 8] ++ yEm [yA 4294967295 4294967294, ya 0 5] 3 ++ yu 3 ++ [ya 0 64] ++ yu 1 ++ [ya 0 40, ya 0 1, ya 0 40, ya 0 20, ya 0 8, ya 0 39] ++ yu 120
def zv_903 : eEv := [ya 0 2, ya 22 22, ya 0 20, ya 0 20] ++ yu 2 ++ yR 5 (ya 0 940) ++ [ya 0 4] ++ yu 4 ++ yU 1 ++ yu 1 ++ [ya 0 8] ++ yEm [yA 4294967295 4294967294, ya 0 5] 3 ++ yu 3 ++ [ya 0 64] ++ yu 1 ++ [ya 0 40, ya 0 1, ya 0 40, ya 0 20, ya 0 8, ya 0 39] ++ yu 121 ++ [ya 0 5]
def k_813 : eK := (328, (zv_902, [yr 13] ++ yis 0 5, [(13, zc_89), (15, zc_882), (30, yt 1 5 ([yf 5])), (31, yt 1 5 ([yf 5]))], (37, zf_883)), [(zv_903, none, [(15, zc_882), (13, zc_885), (30, yt 1 5 ([yf 5])), (31, yt 1 5 ([yf 5]))], (37, zf_883))], 0, 0, 5)
def ak_813 : List eAn := [(0, [yh 1 1], nas 0 13, []), (1, [yh 1 1], nas 0 13, []), (2, [yh 2 2, ye (yk 1), yh 5 151], nas 0 37, hsr 0 41), (3, [ye (yg [(0, 2)] 2), yh 156 2, yh 159 1, yh 5 151], nas 0 37, hsr 41 41), (4, [yh 1 1], nas 0 13, []), (2, [yh 2 2, ye (yk 2), yh 5 18, yh 160 2, yh 25 131], nas 0 37, hsr 82 41), (5, [ye (yg [(0, 2)] 2), yh 162 2, yh 165 1, yh 5 18, yh 160 2, yh 25 131], nas 0 37, hsr 123 41), (6, [yh 1 1], nas 0 13, []), (7, [yh 1 1], nas 0 13, []), (2, [yh 2 2, ye (yk 4), yh 5 18, yh 166 2, yh 25 131], nas 0 37, hsr 164 41), (8, [ye (yg [(0, 2)] 2), yh 168 2, yh 171 1, yh 5 18, yh 166 2, yh 25 131], nas 0 37, hsr 205 41), (0, [yh 172 2], [], hsr 246 41)]
theorem K_813 {l : Launch} {D : va_G} {ca : Nat → ClassId} : KMet l D ca k_813 := K_gq (KS := [k_808, k_809, k_573, k_610, k_810, k_635, k_811, k_812, k_655]) (ini := false) (FL := []) (n := 172) (an := ak_813) h_328 rfl (by decide +kernel) (KS_cons K_808 (KS_cons K_809 (KS_cons K_573 (KS_cons K_610 (KS_cons K_810 (KS_cons K_635 (KS_cons K_811 (KS_cons K_812 (KS_cons K_655 KS_nil))))))))) (by decide +kernel)
def k_814 : eK := (283, (([ya 21 21]), [yi 0, yj 0], [], (13, [])), [(([ya 21 21]), some (yj 1), [], (13, []))], 0, 0, 1)
def ak_814 : List eAn := [(0, [], [], [])]
theorem K_814 {l : Launch} {D : va_G} {ca : Nat → ClassId} : KMet l D ca k_814 := K_gq (KS := []) (ini := false) (FL := []) (n := 13) (an := ak_814) h_283 rfl (by decide +kernel) KS_nil (by decide +kernel)
def k_815 : eK := (283, (([ya 21 21]), [yi 0, yj 1], [], (13, [])), [(([ya 21 21]), some (yj 0), [], (13, []))], 0, 0, 1)
def ak_815 : List eAn := [(0, [], [], [])]
theorem K_815 {l : Launch} {D : va_G} {ca : Nat → ClassId} : KMet l D ca k_815 := K_gq (KS := []) (ini := false) (FL := []) (n := 12) (an := ak_815) h_283 rfl (by decide +kernel) KS_nil (by decide +kernel)
def k_816 : eK := (283, (([ya 21 21]), [yi 0, yj 2], [], (13, [])), [(([ya 21 21]), some (yj 1), [], (13, []))], 0, 0, 1)
def ak_816 : List eAn := [(0, [], [], [])]
theorem K_816 {l : Launch} {D : va_G} {ca : Nat → ClassId} : KMet l D ca k_816 := K_gq (KS := []) (ini := false) (FL := []) (n := 13) (an := ak_816) h_283 rfl (by decide +kernel) KS_nil (by decide +kernel)
def k_817 : eK := (283, (([ya 21 21]), [yi 0, yj 3], [], (13, [])), [(([ya 21 21]), some (yj 0), [], (13, []))], 0, 0, 1)
def ak_817 : List eAn := [(0, [], [], [])]
theorem K_817 {l : Launch} {D : va_G} {ca : Nat → ClassId} : KMet l D ca k_817 := K_gq (KS := []) (ini := false) (FL := []) (n := 12) (an := ak_817) h_283 rfl (by decide +kernel) KS_nil (by decide +kernel)
def k_818 : eK := (283, (([ya 21 21]), [yi 0, yj 4], [], (13, [])), [(([ya 21 21]), some (yj 1), [], (13, []))], 0, 0, 1)
def ak_818 : List eAn := [(0, [], [], [])]
theorem K_818 {l : Launch} {D : va_G} {ca : Nat → ClassId} : KMet l D ca k_818 := K_gq (KS := []) (ini := false) (FL := []) (n := 13) (an := ak_818) h_283 rfl (by decide +kernel) KS_nil (by decide +kernel)
def zv_904 : eEv := [ya 0 2, ya 21 21, ya 0 20, ya 0 20] ++ yu 2 ++ yR 5 (ya 0 940) ++ [ya 0 4] ++ yu 4 ++ yU 1 ++ yu 1 ++ [ya 0 8] ++ yEm [yA 4294967295 4294967294, ya 0 5] 3 ++ yu 3 ++ [ya 0 64] ++ yu 1 ++ [ya 0 40, ya 0 1, ya 0 40, ya 0 20, ya 0 8, ya 0 39] ++ yu 120
def zv_905 : eEv := [ya 0 2, ya 21 21, ya 0 20, ya 0 20] ++ yu 2 ++ yR 5 (ya 0 940) ++ [ya 0 4] ++ yu 4 ++ yU 1 ++ yu 1 ++ [ya 0 8] ++ yEm [yA 4294967295 4294967294, ya 0 5] 3 ++ yu 3 ++ [ya 0 64] ++ yu 1 ++ [ya 0 40, ya 0 1, ya 0 40, ya 0 20, ya 0 8, ya 0 39] ++ yu 121 ++ [ya 0 5]
def k_819 : eK := (328, (zv_904, [yr 13] ++ yis 0 5, [(13, zc_89), (15, zc_882), (30, yt 1 5 ([yf 5])), (31, yt 1 5 ([yf 5]))], (37, zf_883)), [(zv_905, none, [(15, zc_882), (13, zc_885), (30, yt 1 5 ([yf 5])), (31, yt 1 5 ([yf 5]))], (37, zf_883))], 0, 0, 5)
def ak_819 : List eAn := [(0, [yh 1 1], nas 0 13, []), (1, [yh 2 2, ye (yk 0), yh 5 151], nas 0 37, hsr 0 41), (2, [ye (yg [(0, 2)] 2), yh 156 2, yh 159 1, yh 5 151], nas 0 37, hsr 41 41), (3, [yh 1 1], nas 0 13, []), (4, [yh 1 1], nas 0 13, []), (1, [yh 2 2, ye (yk 2), yh 5 18, yh 160 2, yh 25 131], nas 0 37, hsr 82 41), (5, [ye (yg [(0, 2)] 2), yh 162 2, yh 165 1, yh 5 18, yh 160 2, yh 25 131], nas 0 37, hsr 123 41), (6, [yh 1 1], nas 0 13, []), (7, [yh 1 1], nas 0 13, []), (1, [yh 2 2, ye (yk 4), yh 5 18, yh 166 2, yh 25 131], nas 0 37, hsr 164 41), (8, [ye (yg [(0, 2)] 2), yh 168 2, yh 171 1, yh 5 18, yh 166 2, yh 25 131], nas 0 37, hsr 205 41), (0, [yh 172 2], [], hsr 246 41)]
theorem K_819 {l : Launch} {D : va_G} {ca : Nat → ClassId} : KMet l D ca k_819 := K_gq (KS := [k_814, k_573, k_610, k_815, k_816, k_684, k_817, k_818, k_704]) (ini := false) (FL := []) (n := 172) (an := ak_819) h_328 rfl (by decide +kernel) (KS_cons K_814 (KS_cons K_573 (KS_cons K_610 (KS_cons K_815 (KS_cons K_816 (KS_cons K_684 (KS_cons K_817 (KS_cons K_818 (KS_cons K_704 KS_nil))))))))) (by decide +kernel)
def k_820 : eK := (283, (([ya 20 20]), [yi 0, yj 0], [], (13, [])), [(([ya 20 20]), some (yj 0), [], (13, []))], 0, 0, 1)
def ak_820 : List eAn := [(0, [], [], [])]
theorem K_820 {l : Launch} {D : va_G} {ca : Nat → ClassId} : KMet l D ca k_820 := K_gq (KS := []) (ini := false) (FL := []) (n := 12) (an := ak_820) h_283 rfl (by decide +kernel) KS_nil (by decide +kernel)
def k_821 : eK := (283, (([ya 20 20]), [yi 0, yj 1], [], (13, [])), [(([ya 20 20]), some (yj 0), [], (13, []))], 0, 0, 1)
def ak_821 : List eAn := [(0, [], [], [])]
theorem K_821 {l : Launch} {D : va_G} {ca : Nat → ClassId} : KMet l D ca k_821 := K_gq (KS := []) (ini := false) (FL := []) (n := 12) (an := ak_821) h_283 rfl (by decide +kernel) KS_nil (by decide +kernel)
def k_822 : eK := (283, (([ya 20 20]), [yi 0, yj 2], [], (13, [])), [(([ya 20 20]), some (yj 1), [], (13, []))], 0, 0, 1)
def ak_822 : List eAn := [(0, [], [], [])]
theorem K_822 {l : Launch} {D : va_G} {ca : Nat → ClassId} : KMet l D ca k_822 := K_gq (KS := []) (ini := false) (FL := []) (n := 13) (an := ak_822) h_283 rfl (by decide +kernel) KS_nil (by decide +kernel)
def k_823 : eK := (283, (([ya 20 20]), [yi 0, yj 3], [], (13, [])), [(([ya 20 20]), some (yj 0), [], (13, []))], 0, 0, 1)
def ak_823 : List eAn := [(0, [], [], [])]
theorem K_823 {l : Launch} {D : va_G} {ca : Nat → ClassId} : KMet l D ca k_823 := K_gq (KS := []) (ini := false) (FL := []) (n := 12) (an := ak_823) h_283 rfl (by decide +kernel) KS_nil (by decide +kernel)
def k_824 : eK := (283, (([ya 20 20]), [yi 0, yj 4], [], (13, [])), [(([ya 20 20]), some (yj 1), [], (13, []))], 0, 0, 1)
def ak_824 : List eAn := [(0, [], [], [])]
theorem K_824 {l : Launch} {D : va_G} {ca : Nat → ClassId} : KMet l D ca k_824 := K_gq (KS := []) (ini := false) (FL := []) (n := 13) (an := ak_824) h_283 rfl (by decide +kernel) KS_nil (by decide +kernel)
def zv_906 : eEv := [ya 0 3, ya 20 20, ya 0 20, ya 0 20] ++ yu 2 ++ yR 5 (ya 0 940) ++ [ya 0 4] ++ yu 4 ++ yU 1 ++ yu 1 ++ [ya 0 8] ++ yEm [yA 4294967295 4294967294, ya 0 5] 3 ++ yu 3 ++ [ya 0 64] ++ yu 1 ++ [ya 0 40, ya 0 1, ya 0 40, ya 0 20, ya 0 8, ya 0 39] ++ yu 120
def zv_907 : eEv := [ya 0 3, ya 20 20, ya 0 20, ya 0 20] ++ yu 2 ++ yR 5 (ya 0 940) ++ [ya 0 4] ++ yu 4 ++ yU 1 ++ yu 1 ++ [ya 0 8] ++ yEm [yA 4294967295 4294967294, ya 0 5] 3 ++ yu 3 ++ [ya 0 64] ++ yu 1 ++ [ya 0 40, ya 0 1, ya 0 40, ya 0 20, ya 0 8, ya 0 39] ++ yu 121 ++ [ya 0 5]
def k_825 : eK := (328, (zv_906, [yr 13] ++ yis 0 5, [(13, zc_89), (15, zc_882), (30, yt 1 5 ([yf 5])), (31, yt 1 5 ([yf 5]))], (37, zf_883)), [(zv_907, none, [(15, zc_882), (13, zc_885), (30, yt 1 5 ([yf 5])), (31, yt 1 5 ([yf 5]))], (37, zf_883))], 0, 0, 4)
def ak_825 : List eAn := [(0, [yh 1 1], nas 0 13, []), (1, [yh 1 1], nas 0 13, []), (2, [yh 1 1], nas 0 13, []), (3, [yh 2 2, ye (yk 2), yh 5 151], nas 0 37, hsr 0 41), (4, [ye (yg [(0, 2)] 2), yh 156 2, yh 159 1, yh 5 151], nas 0 37, hsr 41 41), (5, [yh 1 1], nas 0 13, []), (6, [yh 1 1], nas 0 13, []), (3, [yh 2 2, ye (yk 4), yh 5 18, yh 160 2, yh 25 131], nas 0 37, hsr 82 41), (7, [ye (yg [(0, 2)] 2), yh 162 2, yh 165 1, yh 5 18, yh 160 2, yh 25 131], nas 0 37, hsr 123 41), (0, [yh 166 2], [], hsr 164 41)]
theorem K_825 {l : Launch} {D : va_G} {ca : Nat → ClassId} : KMet l D ca k_825 := K_gq (KS := [k_820, k_821, k_822, k_573, k_589, k_823, k_824, k_609]) (ini := false) (FL := []) (n := 135) (an := ak_825) h_328 rfl (by decide +kernel) (KS_cons K_820 (KS_cons K_821 (KS_cons K_822 (KS_cons K_573 (KS_cons K_589 (KS_cons K_823 (KS_cons K_824 (KS_cons K_609 KS_nil)))))))) (by decide +kernel)
def k_826 : eK := (283, (([ya 19 19]), [yi 0, yj 0], [], (13, [])), [(([ya 19 19]), some (yj 1), [], (13, []))], 0, 0, 1)
def ak_826 : List eAn := [(0, [], [], [])]
theorem K_826 {l : Launch} {D : va_G} {ca : Nat → ClassId} : KMet l D ca k_826 := K_gq (KS := []) (ini := false) (FL := []) (n := 13) (an := ak_826) h_283 rfl (by decide +kernel) KS_nil (by decide +kernel)
def k_827 : eK := (283, (([ya 19 19]), [yi 0, yj 1], [], (13, [])), [(([ya 19 19]), some (yj 1), [], (13, []))], 0, 0, 1)
def ak_827 : List eAn := [(0, [], [], [])]
theorem K_827 {l : Launch} {D : va_G} {ca : Nat → ClassId} : KMet l D ca k_827 := K_gq (KS := []) (ini := false) (FL := []) (n := 13) (an := ak_827) h_283 rfl (by decide +kernel) KS_nil (by decide +kernel)
def k_828 : eK := (283, (([ya 19 19]), [yi 0, yj 2], [], (13, [])), [(([ya 19 19]), some (yj 0), [], (13, []))], 0, 0, 1)
def ak_828 : List eAn := [(0, [], [], [])]
theorem K_828 {l : Launch} {D : va_G} {ca : Nat → ClassId} : KMet l D ca k_828 := K_gq (KS := []) (ini := false) (FL := []) (n := 12) (an := ak_828) h_283 rfl (by decide +kernel) KS_nil (by decide +kernel)
def k_829 : eK := (283, (([ya 19 19]), [yi 0, yj 3], [], (13, [])), [(([ya 19 19]), some (yj 0), [], (13, []))], 0, 0, 1)
def ak_829 : List eAn := [(0, [], [], [])]
theorem K_829 {l : Launch} {D : va_G} {ca : Nat → ClassId} : KMet l D ca k_829 := K_gq (KS := []) (ini := false) (FL := []) (n := 12) (an := ak_829) h_283 rfl (by decide +kernel) KS_nil (by decide +kernel)
def k_830 : eK := (283, (([ya 19 19]), [yi 0, yj 4], [], (13, [])), [(([ya 19 19]), some (yj 1), [], (13, []))], 0, 0, 1)
def ak_830 : List eAn := [(0, [], [], [])]
theorem K_830 {l : Launch} {D : va_G} {ca : Nat → ClassId} : KMet l D ca k_830 := K_gq (KS := []) (ini := false) (FL := []) (n := 13) (an := ak_830) h_283 rfl (by decide +kernel) KS_nil (by decide +kernel)
def zv_908 : eEv := [ya 0 2, ya 19 19, ya 0 20, ya 0 20] ++ yu 2 ++ yR 5 (ya 0 940) ++ [ya 0 4] ++ yu 4 ++ yU 1 ++ yu 1 ++ [ya 0 8] ++ yEm [yA 4294967295 4294967294, ya 0 5] 3 ++ yu 3 ++ [ya 0 64] ++ yu 1 ++ [ya 0 40, ya 0 1, ya 0 40, ya 0 20, ya 0 8, ya 0 39] ++ yu 120
def zv_909 : eEv := [ya 0 2, ya 19 19, ya 0 20, ya 0 20] ++ yu 2 ++ yR 5 (ya 0 940) ++ [ya 0 4] ++ yu 4 ++ yU 1 ++ yu 1 ++ [ya 0 8] ++ yEm [yA 4294967295 4294967294, ya 0 5] 3 ++ yu 3 ++ [ya 0 64] ++ yu 1 ++ [ya 0 40, ya 0 1, ya 0 40, ya 0 20, ya 0 8, ya 0 39] ++ yu 121 ++ [ya 0 5]
def k_831 : eK := (328, (zv_908, [yr 13] ++ yis 0 5, [(13, zc_89), (15, zc_882), (30, yt 1 5 ([yf 5])), (31, yt 1 5 ([yf 5]))], (37, zf_883)), [(zv_909, none, [(15, zc_882), (13, zc_885), (30, yt 1 5 ([yf 5])), (31, yt 1 5 ([yf 5]))], (37, zf_883))], 0, 0, 5)
def ak_831 : List eAn := [(0, [yh 1 1], nas 0 13, []), (1, [yh 2 2, ye (yk 0), yh 5 151], nas 0 37, hsr 0 41), (2, [ye (yg [(0, 2)] 2), yh 156 2, yh 159 1, yh 5 151], nas 0 37, hsr 41 41), (3, [yh 1 1], nas 0 13, []), (1, [yh 2 2, ye (yk 1), yh 5 18, yh 160 2, yh 25 131], nas 0 37, hsr 82 41), (4, [ye (yg [(0, 2)] 2), yh 162 2, yh 165 1, yh 5 18, yh 160 2, yh 25 131], nas 0 37, hsr 123 41), (5, [yh 1 1], nas 0 13, []), (6, [yh 1 1], nas 0 13, []), (7, [yh 1 1], nas 0 13, []), (1, [yh 2 2, ye (yk 4), yh 5 18, yh 166 2, yh 25 131], nas 0 37, hsr 164 41), (8, [ye (yg [(0, 2)] 2), yh 168 2, yh 171 1, yh 5 18, yh 166 2, yh 25 131], nas 0 37, hsr 205 41), (0, [yh 172 2], [], hsr 246 41)]
theorem K_831 {l : Launch} {D : va_G} {ca : Nat → ClassId} : KMet l D ca k_831 := K_gq (KS := [k_826, k_573, k_635, k_827, k_684, k_828, k_829, k_830, k_729]) (ini := false) (FL := []) (n := 172) (an := ak_831) h_328 rfl (by decide +kernel) (KS_cons K_826 (KS_cons K_573 (KS_cons K_635 (KS_cons K_827 (KS_cons K_684 (KS_cons K_828 (KS_cons K_829 (KS_cons K_830 (KS_cons K_729 KS_nil))))))))) (by decide +kernel)
def k_832 : eK := (283, (([ya 18 18]), [yi 0, yj 0], [], (13, [])), [(([ya 18 18]), some (yj 0), [], (13, []))], 0, 0, 1)
def ak_832 : List eAn := [(0, [], [], [])]
theorem K_832 {l : Launch} {D : va_G} {ca : Nat → ClassId} : KMet l D ca k_832 := K_gq (KS := []) (ini := false) (FL := []) (n := 12) (an := ak_832) h_283 rfl (by decide +kernel) KS_nil (by decide +kernel)
def k_833 : eK := (283, (([ya 18 18]), [yi 0, yj 1], [], (13, [])), [(([ya 18 18]), some (yj 1), [], (13, []))], 0, 0, 1)
def ak_833 : List eAn := [(0, [], [], [])]
theorem K_833 {l : Launch} {D : va_G} {ca : Nat → ClassId} : KMet l D ca k_833 := K_gq (KS := []) (ini := false) (FL := []) (n := 13) (an := ak_833) h_283 rfl (by decide +kernel) KS_nil (by decide +kernel)
def k_834 : eK := (283, (([ya 18 18]), [yi 0, yj 2], [], (13, [])), [(([ya 18 18]), some (yj 0), [], (13, []))], 0, 0, 1)
def ak_834 : List eAn := [(0, [], [], [])]
theorem K_834 {l : Launch} {D : va_G} {ca : Nat → ClassId} : KMet l D ca k_834 := K_gq (KS := []) (ini := false) (FL := []) (n := 12) (an := ak_834) h_283 rfl (by decide +kernel) KS_nil (by decide +kernel)
def k_835 : eK := (283, (([ya 18 18]), [yi 0, yj 3], [], (13, [])), [(([ya 18 18]), some (yj 0), [], (13, []))], 0, 0, 1)
def ak_835 : List eAn := [(0, [], [], [])]
theorem K_835 {l : Launch} {D : va_G} {ca : Nat → ClassId} : KMet l D ca k_835 := K_gq (KS := []) (ini := false) (FL := []) (n := 12) (an := ak_835) h_283 rfl (by decide +kernel) KS_nil (by decide +kernel)
def k_836 : eK := (283, (([ya 18 18]), [yi 0, yj 4], [], (13, [])), [(([ya 18 18]), some (yj 1), [], (13, []))], 0, 0, 1)
def ak_836 : List eAn := [(0, [], [], [])]
theorem K_836 {l : Launch} {D : va_G} {ca : Nat → ClassId} : KMet l D ca k_836 := K_gq (KS := []) (ini := false) (FL := []) (n := 13) (an := ak_836) h_283 rfl (by decide +kernel) KS_nil (by decide +kernel)
def zv_910 : eEv := [ya 0 3, ya 18 18, ya 0 20, ya 0 20] ++ yu 2 ++ yR 5 (ya 0 940) ++ [ya 0 4] ++ yu 4 ++ yU 1 ++ yu 1 ++ [ya 0 8] ++ yEm [yA 4294967295 4294967294, ya 0 5] 3 ++ yu 3 ++ [ya 0 64] ++ yu 1 ++ [ya 0 40, ya 0 1, ya 0 40, ya 0 20, ya 0 8, ya 0 39] ++ yu 120
def zv_911 : eEv := [ya 0 3, ya 18 18, ya 0 20, ya 0 20] ++ yu 2 ++ yR 5 (ya 0 940) ++ [ya 0 4] ++ yu 4 ++ yU 1 ++ yu 1 ++ [ya 0 8] ++ yEm [yA 4294967295 4294967294, ya 0 5] 3 ++ yu 3 ++ [ya 0 64] ++ yu 1 ++ [ya 0 40, ya 0 1, ya 0 40, ya 0 20, ya 0 8, ya 0 39] ++ yu 121 ++ [ya 0 5]
def k_837 : eK := (328, (zv_910, [yr 13] ++ yis 0 5, [(13, zc_89), (15, zc_882), (30, yt 1 5 ([yf 5])), (31, yt 1 5 ([yf 5]))], (37, zf_883)), [(zv_911, none, [(15, zc_882), (13, zc_885), (30, yt 1 5 ([yf 5])), (31, yt 1 5 ([yf 5]))], (37, zf_883))], 0, 0, 4)
def ak_837 : List eAn := [(0, [yh 1 1], nas 0 13, []), (1, [yh 1 1], nas 0 13, []), (2, [yh 2 2, ye (yk 1), yh 5 151], nas 0 37, hsr 0 41), (3, [ye (yg [(0, 2)] 2), yh 156 2, yh 159 1, yh 5 151], nas 0 37, hsr 41 41), (4, [yh 1 1], nas 0 13, []), (5, [yh 1 1], nas 0 13, []), (6, [yh 1 1], nas 0 13, []), (2, [yh 2 2, ye (yk 4), yh 5 18, yh 160 2, yh 25 131], nas 0 37, hsr 82 41), (7, [ye (yg [(0, 2)] 2), yh 162 2, yh 165 1, yh 5 18, yh 160 2, yh 25 131], nas 0 37, hsr 123 41), (0, [yh 166 2], [], hsr 164 41)]
theorem K_837 {l : Launch} {D : va_G} {ca : Nat → ClassId} : KMet l D ca k_837 := K_gq (KS := [k_832, k_833, k_573, k_589, k_834, k_835, k_836, k_634]) (ini := false) (FL := []) (n := 135) (an := ak_837) h_328 rfl (by decide +kernel) (KS_cons K_832 (KS_cons K_833 (KS_cons K_573 (KS_cons K_589 (KS_cons K_834 (KS_cons K_835 (KS_cons K_836 (KS_cons K_634 KS_nil)))))))) (by decide +kernel)
def k_838 : eK := (283, (([ya 17 17]), [yi 0, yj 0], [], (13, [])), [(([ya 17 17]), some (yj 1), [], (13, []))], 0, 0, 1)
def ak_838 : List eAn := [(0, [], [], [])]
theorem K_838 {l : Launch} {D : va_G} {ca : Nat → ClassId} : KMet l D ca k_838 := K_gq (KS := []) (ini := false) (FL := []) (n := 13) (an := ak_838) h_283 rfl (by decide +kernel) KS_nil (by decide +kernel)
def k_839 : eK := (283, (([ya 17 17]), [yi 0, yj 1], [], (13, [])), [(([ya 17 17]), some (yj 0), [], (13, []))], 0, 0, 1)
def ak_839 : List eAn := [(0, [], [], [])]
theorem K_839 {l : Launch} {D : va_G} {ca : Nat → ClassId} : KMet l D ca k_839 := K_gq (KS := []) (ini := false) (FL := []) (n := 12) (an := ak_839) h_283 rfl (by decide +kernel) KS_nil (by decide +kernel)
def k_840 : eK := (283, (([ya 17 17]), [yi 0, yj 2], [], (13, [])), [(([ya 17 17]), some (yj 0), [], (13, []))], 0, 0, 1)
def ak_840 : List eAn := [(0, [], [], [])]
theorem K_840 {l : Launch} {D : va_G} {ca : Nat → ClassId} : KMet l D ca k_840 := K_gq (KS := []) (ini := false) (FL := []) (n := 12) (an := ak_840) h_283 rfl (by decide +kernel) KS_nil (by decide +kernel)
def k_841 : eK := (283, (([ya 17 17]), [yi 0, yj 3], [], (13, [])), [(([ya 17 17]), some (yj 0), [], (13, []))], 0, 0, 1)
def ak_841 : List eAn := [(0, [], [], [])]
theorem K_841 {l : Launch} {D : va_G} {ca : Nat → ClassId} : KMet l D ca k_841 := K_gq (KS := []) (ini := false) (FL := []) (n := 12) (an := ak_841) h_283 rfl (by decide +kernel) KS_nil (by decide +kernel)
def k_842 : eK := (283, (([ya 17 17]), [yi 0, yj 4], [], (13, [])), [(([ya 17 17]), some (yj 1), [], (13, []))], 0, 0, 1)
def ak_842 : List eAn := [(0, [], [], [])]
theorem K_842 {l : Launch} {D : va_G} {ca : Nat → ClassId} : KMet l D ca k_842 := K_gq (KS := []) (ini := false) (FL := []) (n := 13) (an := ak_842) h_283 rfl (by decide +kernel) KS_nil (by decide +kernel)
def zv_912 : eEv := [ya 0 3, ya 17 17, ya 0 20, ya 0 20] ++ yu 2 ++ yR 5 (ya 0 940) ++ [ya 0 4] ++ yu 4 ++ yU 1 ++ yu 1 ++ [ya 0 8] ++ yEm [yA 4294967295 4294967294, ya 0 5] 3 ++ yu 3 ++ [ya 0 64] ++ yu 1 ++ [ya 0 40, ya 0 1, ya 0 40, ya 0 20, ya 0 8, ya 0 39] ++ yu 120
def zv_913 : eEv := [ya 0 3, ya 17 17, ya 0 20, ya 0 20] ++ yu 2 ++ yR 5 (ya 0 940) ++ [ya 0 4] ++ yu 4 ++ yU 1 ++ yu 1 ++ [ya 0 8] ++ yEm [yA 4294967295 4294967294, ya 0 5] 3 ++ yu 3 ++ [ya 0 64] ++ yu 1 ++ [ya 0 40, ya 0 1, ya 0 40, ya 0 20, ya 0 8, ya 0 39] ++ yu 121 ++ [ya 0 5]
def k_843 : eK := (328, (zv_912, [yr 13] ++ yis 0 5, [(13, zc_89), (15, zc_882), (30, yt 1 5 ([yf 5])), (31, yt 1 5 ([yf 5]))], (37, zf_883)), [(zv_913, none, [(15, zc_882), (13, zc_885), (30, yt 1 5 ([yf 5])), (31, yt 1 5 ([yf 5]))], (37, zf_883))], 0, 0, 4)
def ak_843 : List eAn := [(0, [yh 1 1], nas 0 13, []), (1, [yh 2 2, ye (yk 0), yh 5 151], nas 0 37, hsr 0 41), (2, [ye (yg [(0, 2)] 2), yh 156 2, yh 159 1, yh 5 151], nas 0 37, hsr 41 41), (3, [yh 1 1], nas 0 13, []), (4, [yh 1 1], nas 0 13, []), (5, [yh 1 1], nas 0 13, []), (6, [yh 1 1], nas 0 13, []), (1, [yh 2 2, ye (yk 4), yh 5 18, yh 160 2, yh 25 131], nas 0 37, hsr 82 41), (7, [ye (yg [(0, 2)] 2), yh 162 2, yh 165 1, yh 5 18, yh 160 2, yh 25 131], nas 0 37, hsr 123 41), (0, [yh 166 2], [], hsr 164 41)]
theorem K_843 {l : Launch} {D : va_G} {ca : Nat → ClassId} : KMet l D ca k_843 := K_gq (KS := [k_838, k_573, k_589, k_839, k_840, k_841, k_842, k_683]) (ini := false) (FL := []) (n := 135) (an := ak_843) h_328 rfl (by decide +kernel) (KS_cons K_838 (KS_cons K_573 (KS_cons K_589 (KS_cons K_839 (KS_cons K_840 (KS_cons K_841 (KS_cons K_842 (KS_cons K_683 KS_nil)))))))) (by decide +kernel)
def k_844 : eK := (283, (([ya 16 16]), [yi 0, yj 0], [], (13, [])), [(([ya 16 16]), some (yj 0), [], (13, []))], 0, 0, 1)
def ak_844 : List eAn := [(0, [], [], [])]
theorem K_844 {l : Launch} {D : va_G} {ca : Nat → ClassId} : KMet l D ca k_844 := K_gq (KS := []) (ini := false) (FL := []) (n := 12) (an := ak_844) h_283 rfl (by decide +kernel) KS_nil (by decide +kernel)
def k_845 : eK := (283, (([ya 16 16]), [yi 0, yj 1], [], (13, [])), [(([ya 16 16]), some (yj 0), [], (13, []))], 0, 0, 1)
def ak_845 : List eAn := [(0, [], [], [])]
theorem K_845 {l : Launch} {D : va_G} {ca : Nat → ClassId} : KMet l D ca k_845 := K_gq (KS := []) (ini := false) (FL := []) (n := 12) (an := ak_845) h_283 rfl (by decide +kernel) KS_nil (by decide +kernel)
def k_846 : eK := (283, (([ya 16 16]), [yi 0, yj 2], [], (13, [])), [(([ya 16 16]), some (yj 0), [], (13, []))], 0, 0, 1)
def ak_846 : List eAn := [(0, [], [], [])]
theorem K_846 {l : Launch} {D : va_G} {ca : Nat → ClassId} : KMet l D ca k_846 := K_gq (KS := []) (ini := false) (FL := []) (n := 12) (an := ak_846) h_283 rfl (by decide +kernel) KS_nil (by decide +kernel)
def k_847 : eK := (283, (([ya 16 16]), [yi 0, yj 3], [], (13, [])), [(([ya 16 16]), some (yj 0), [], (13, []))], 0, 0, 1)
def ak_847 : List eAn := [(0, [], [], [])]
theorem K_847 {l : Launch} {D : va_G} {ca : Nat → ClassId} : KMet l D ca k_847 := K_gq (KS := []) (ini := false) (FL := []) (n := 12) (an := ak_847) h_283 rfl (by decide +kernel) KS_nil (by decide +kernel)
def k_848 : eK := (283, (([ya 16 16]), [yi 0, yj 4], [], (13, [])), [(([ya 16 16]), some (yj 1), [], (13, []))], 0, 0, 1)
def ak_848 : List eAn := [(0, [], [], [])]
theorem K_848 {l : Launch} {D : va_G} {ca : Nat → ClassId} : KMet l D ca k_848 := K_gq (KS := []) (ini := false) (FL := []) (n := 13) (an := ak_848) h_283 rfl (by decide +kernel) KS_nil (by decide +kernel)
def zv_914 : eEv := [ya 0 4, ya 16 16, ya 0 20, ya 0 20] ++ yu 2 ++ yR 5 (ya 0 940) ++ [ya 0 4] ++ yu 4 ++ yU 1 ++ yu 1 ++ [ya 0 8] ++ yEm [yA 4294967295 4294967294, ya 0 5] 3 ++ yu 3 ++ [ya 0 64] ++ yu 1 ++ [ya 0 40, ya 0 1, ya 0 40, ya 0 20, ya 0 8, ya 0 39] ++ yu 120
def zv_915 : eEv := [ya 0 4, ya 16 16, ya 0 20, ya 0 20] ++ yu 2 ++ yR 5 (ya 0 940) ++ [ya 0 4] ++ yu 4 ++ yU 1 ++ yu 1 ++ [ya 0 8] ++ yEm [yA 4294967295 4294967294, ya 0 5] 3 ++ yu 3 ++ [ya 0 64] ++ yu 1 ++ [ya 0 40, ya 0 1, ya 0 40, ya 0 20, ya 0 8, ya 0 39] ++ yu 121 ++ [ya 0 5]
def k_849 : eK := (328, (zv_914, [yr 13] ++ yis 0 5, [(13, zc_89), (15, zc_882), (30, yt 1 5 ([yf 5])), (31, yt 1 5 ([yf 5]))], (37, zf_883)), [(zv_915, none, [(15, zc_882), (13, zc_885), (30, yt 1 5 ([yf 5])), (31, yt 1 5 ([yf 5]))], (37, zf_883))], 0, 0, 3)
def ak_849 : List eAn := [(0, [yh 1 1], nas 0 13, []), (1, [yh 1 1], nas 0 13, []), (2, [yh 1 1], nas 0 13, []), (3, [yh 1 1], nas 0 13, []), (4, [yh 1 1], nas 0 13, []), (5, [yh 2 2, ye (yk 4), yh 5 151], nas 0 37, hsr 0 41), (6, [ye (yg [(0, 2)] 2), yh 156 2, yh 159 1, yh 5 31], nas 0 37, [[0, 81]]), (0, [yh 160 2], [], hsr 41 40 ++ [[0, 82]])]
theorem K_849 {l : Launch} {D : va_G} {ca : Nat → ClassId} : KMet l D ca k_849 := K_gq (KS := [k_844, k_845, k_846, k_847, k_848, k_573, k_588]) (ini := false) (FL := []) (n := 98) (an := ak_849) h_328 rfl (by decide +kernel) (KS_cons K_844 (KS_cons K_845 (KS_cons K_846 (KS_cons K_847 (KS_cons K_848 (KS_cons K_573 (KS_cons K_588 KS_nil))))))) (by decide +kernel)
def k_850 : eK := (283, (([ya 15 15]), [yi 0, yj 0], [], (13, [])), [(([ya 15 15]), some (yj 1), [], (13, []))], 0, 0, 1)
def ak_850 : List eAn := [(0, [], [], [])]
theorem K_850 {l : Launch} {D : va_G} {ca : Nat → ClassId} : KMet l D ca k_850 := K_gq (KS := []) (ini := false) (FL := []) (n := 13) (an := ak_850) h_283 rfl (by decide +kernel) KS_nil (by decide +kernel)
def k_851 : eK := (283, (([ya 15 15]), [yi 0, yj 1], [], (13, [])), [(([ya 15 15]), some (yj 1), [], (13, []))], 0, 0, 1)
def ak_851 : List eAn := [(0, [], [], [])]
theorem K_851 {l : Launch} {D : va_G} {ca : Nat → ClassId} : KMet l D ca k_851 := K_gq (KS := []) (ini := false) (FL := []) (n := 13) (an := ak_851) h_283 rfl (by decide +kernel) KS_nil (by decide +kernel)
def k_852 : eK := (283, (([ya 15 15]), [yi 0, yj 2], [], (13, [])), [(([ya 15 15]), some (yj 1), [], (13, []))], 0, 0, 1)
def ak_852 : List eAn := [(0, [], [], [])]
theorem K_852 {l : Launch} {D : va_G} {ca : Nat → ClassId} : KMet l D ca k_852 := K_gq (KS := []) (ini := false) (FL := []) (n := 13) (an := ak_852) h_283 rfl (by decide +kernel) KS_nil (by decide +kernel)
def k_853 : eK := (283, (([ya 15 15]), [yi 0, yj 3], [], (13, [])), [(([ya 15 15]), some (yj 1), [], (13, []))], 0, 0, 1)
def ak_853 : List eAn := [(0, [], [], [])]
theorem K_853 {l : Launch} {D : va_G} {ca : Nat → ClassId} : KMet l D ca k_853 := K_gq (KS := []) (ini := false) (FL := []) (n := 13) (an := ak_853) h_283 rfl (by decide +kernel) KS_nil (by decide +kernel)
def k_854 : eK := (283, (([ya 15 15]), [yi 0, yj 4], [], (13, [])), [(([ya 15 15]), some (yj 0), [], (13, []))], 0, 0, 1)
def ak_854 : List eAn := [(0, [], [], [])]
theorem K_854 {l : Launch} {D : va_G} {ca : Nat → ClassId} : KMet l D ca k_854 := K_gq (KS := []) (ini := false) (FL := []) (n := 12) (an := ak_854) h_283 rfl (by decide +kernel) KS_nil (by decide +kernel)
def zv_916 : eEv := [ya 0 1, ya 15 15, ya 0 20, ya 0 20] ++ yu 2 ++ yR 5 (ya 0 940) ++ [ya 0 4] ++ yu 4 ++ yU 1 ++ yu 1 ++ [ya 0 8] ++ yEm [yA 4294967295 4294967294, ya 0 5] 3 ++ yu 3 ++ [ya 0 64] ++ yu 1 ++ [ya 0 40, ya 0 1, ya 0 40, ya 0 20, ya 0 8, ya 0 39] ++ yu 120
def zv_917 : eEv := [ya 0 1, ya 15 15, ya 0 20, ya 0 20] ++ yu 2 ++ yR 5 (ya 0 940) ++ [ya 0 4] ++ yu 4 ++ yU 1 ++ yu 1 ++ [ya 0 8] ++ yEm [yA 4294967295 4294967294, ya 0 5] 3 ++ yu 3 ++ [ya 0 64] ++ yu 1 ++ [ya 0 40, ya 0 1, ya 0 40, ya 0 20, ya 0 8, ya 0 39] ++ yu 121 ++ [ya 0 5]
def k_855 : eK := (328, (zv_916, [yr 13] ++ yis 0 5, [(13, zc_89), (15, zc_882), (30, yt 1 5 ([yf 5])), (31, yt 1 5 ([yf 5]))], (37, zf_883)), [(zv_917, none, [(15, zc_882), (13, zc_885), (30, yt 1 5 ([yf 5])), (31, yt 1 5 ([yf 5]))], (37, zf_883))], 0, 0, 6)
def ak_855 : List eAn := [(0, [yh 1 1], nas 0 13, []), (1, [yh 2 2, ye (yk 0), yh 5 151], nas 0 37, hsr 0 41), (2, [ye (yg [(0, 2)] 2), yh 156 2, yh 159 1, yh 5 151], nas 0 37, hsr 41 41), (3, [yh 1 1], nas 0 13, []), (1, [yh 2 2, ye (yk 1), yh 5 18, yh 160 2, yh 25 131], nas 0 37, hsr 82 41), (4, [ye (yg [(0, 2)] 2), yh 162 2, yh 165 1, yh 5 18, yh 160 2, yh 25 131], nas 0 37, hsr 123 41), (5, [yh 1 1], nas 0 13, []), (1, [yh 2 2, ye (yk 2), yh 5 18, yh 166 2, yh 25 131], nas 0 37, hsr 164 41), (6, [ye (yg [(0, 2)] 2), yh 168 2, yh 171 1, yh 5 18, yh 166 2, yh 25 131], nas 0 37, hsr 205 41), (7, [yh 1 1], nas 0 13, []), (1, [yh 2 2, ye (yk 3), yh 5 18, yh 172 2, yh 25 131], nas 0 37, hsr 246 41), (8, [ye (yg [(0, 2)] 2), yh 174 2, yh 177 1, yh 5 18, yh 172 2, yh 25 131], nas 0 37, hsr 287 41), (9, [yh 1 1], nas 0 13, []), (0, [yh 178 2], [], hsr 328 41)]
theorem K_855 {l : Launch} {D : va_G} {ca : Nat → ClassId} : KMet l D ca k_855 := K_gq (KS := [k_850, k_573, k_663, k_851, k_712, k_852, k_737, k_853, k_750, k_854]) (ini := false) (FL := []) (n := 209) (an := ak_855) h_328 rfl (by decide +kernel) (KS_cons K_850 (KS_cons K_573 (KS_cons K_663 (KS_cons K_851 (KS_cons K_712 (KS_cons K_852 (KS_cons K_737 (KS_cons K_853 (KS_cons K_750 (KS_cons K_854 KS_nil)))))))))) (by decide +kernel)
def k_856 : eK := (283, (([ya 14 14]), [yi 0, yj 0], [], (13, [])), [(([ya 14 14]), some (yj 0), [], (13, []))], 0, 0, 1)
def ak_856 : List eAn := [(0, [], [], [])]
theorem K_856 {l : Launch} {D : va_G} {ca : Nat → ClassId} : KMet l D ca k_856 := K_gq (KS := []) (ini := false) (FL := []) (n := 12) (an := ak_856) h_283 rfl (by decide +kernel) KS_nil (by decide +kernel)
def k_857 : eK := (283, (([ya 14 14]), [yi 0, yj 1], [], (13, [])), [(([ya 14 14]), some (yj 1), [], (13, []))], 0, 0, 1)
def ak_857 : List eAn := [(0, [], [], [])]
theorem K_857 {l : Launch} {D : va_G} {ca : Nat → ClassId} : KMet l D ca k_857 := K_gq (KS := []) (ini := false) (FL := []) (n := 13) (an := ak_857) h_283 rfl (by decide +kernel) KS_nil (by decide +kernel)
def k_858 : eK := (283, (([ya 14 14]), [yi 0, yj 2], [], (13, [])), [(([ya 14 14]), some (yj 1), [], (13, []))], 0, 0, 1)
def ak_858 : List eAn := [(0, [], [], [])]
theorem K_858 {l : Launch} {D : va_G} {ca : Nat → ClassId} : KMet l D ca k_858 := K_gq (KS := []) (ini := false) (FL := []) (n := 13) (an := ak_858) h_283 rfl (by decide +kernel) KS_nil (by decide +kernel)
def k_859 : eK := (283, (([ya 14 14]), [yi 0, yj 3], [], (13, [])), [(([ya 14 14]), some (yj 1), [], (13, []))], 0, 0, 1)
def ak_859 : List eAn := [(0, [], [], [])]
theorem K_859 {l : Launch} {D : va_G} {ca : Nat → ClassId} : KMet l D ca k_859 := K_gq (KS := []) (ini := false) (FL := []) (n := 13) (an := ak_859) h_283 rfl (by decide +kernel) KS_nil (by decide +kernel)
def k_860 : eK := (283, (([ya 14 14]), [yi 0, yj 4], [], (13, [])), [(([ya 14 14]), some (yj 0), [], (13, []))], 0, 0, 1)
def ak_860 : List eAn := [(0, [], [], [])]
theorem K_860 {l : Launch} {D : va_G} {ca : Nat → ClassId} : KMet l D ca k_860 := K_gq (KS := []) (ini := false) (FL := []) (n := 12) (an := ak_860) h_283 rfl (by decide +kernel) KS_nil (by decide +kernel)
def zv_918 : eEv := [ya 0 2, ya 14 14, ya 0 20, ya 0 20] ++ yu 2 ++ yR 5 (ya 0 940) ++ [ya 0 4] ++ yu 4 ++ yU 1 ++ yu 1 ++ [ya 0 8] ++ yEm [yA 4294967295 4294967294, ya 0 5] 3 ++ yu 3 ++ [ya 0 64] ++ yu 1 ++ [ya 0 40, ya 0 1, ya 0 40, ya 0 20, ya 0 8, ya 0 39] ++ yu 120
def zv_919 : eEv := [ya 0 2, ya 14 14, ya 0 20, ya 0 20] ++ yu 2 ++ yR 5 (ya 0 940) ++ [ya 0 4] ++ yu 4 ++ yU 1 ++ yu 1 ++ [ya 0 8] ++ yEm [yA 4294967295 4294967294, ya 0 5] 3 ++ yu 3 ++ [ya 0 64] ++ yu 1 ++ [ya 0 40, ya 0 1, ya 0 40, ya 0 20, ya 0 8, ya 0 39] ++ yu 121 ++ [ya 0 5]
def k_861 : eK := (328, (zv_918, [yr 13] ++ yis 0 5, [(13, zc_89), (15, zc_882), (30, yt 1 5 ([yf 5])), (31, yt 1 5 ([yf 5]))], (37, zf_883)), [(zv_919, none, [(15, zc_882), (13, zc_885), (30, yt 1 5 ([yf 5])), (31, yt 1 5 ([yf 5]))], (37, zf_883))], 0, 0, 5)
def ak_861 : List eAn := [(0, [yh 1 1], nas 0 13, []), (1, [yh 1 1], nas 0 13, []), (2, [yh 2 2, ye (yk 1), yh 5 151], nas 0 37, hsr 0 41), (3, [ye (yg [(0, 2)] 2), yh 156 2, yh 159 1, yh 5 151], nas 0 37, hsr 41 41), (4, [yh 1 1], nas 0 13, []), (2, [yh 2 2, ye (yk 2), yh 5 18, yh 160 2, yh 25 131], nas 0 37, hsr 82 41), (5, [ye (yg [(0, 2)] 2), yh 162 2, yh 165 1, yh 5 18, yh 160 2, yh 25 131], nas 0 37, hsr 123 41), (6, [yh 1 1], nas 0 13, []), (2, [yh 2 2, ye (yk 3), yh 5 18, yh 166 2, yh 25 131], nas 0 37, hsr 164 41), (7, [ye (yg [(0, 2)] 2), yh 168 2, yh 171 1, yh 5 18, yh 166 2, yh 25 131], nas 0 37, hsr 205 41), (8, [yh 1 1], nas 0 13, []), (0, [yh 172 2], [], hsr 246 41)]
theorem K_861 {l : Launch} {D : va_G} {ca : Nat → ClassId} : KMet l D ca k_861 := K_gq (KS := [k_856, k_857, k_573, k_617, k_858, k_642, k_859, k_655, k_860]) (ini := false) (FL := []) (n := 172) (an := ak_861) h_328 rfl (by decide +kernel) (KS_cons K_856 (KS_cons K_857 (KS_cons K_573 (KS_cons K_617 (KS_cons K_858 (KS_cons K_642 (KS_cons K_859 (KS_cons K_655 (KS_cons K_860 KS_nil))))))))) (by decide +kernel)
def k_862 : eK := (283, (([ya 13 13]), [yi 0, yj 0], [], (13, [])), [(([ya 13 13]), some (yj 1), [], (13, []))], 0, 0, 1)
def ak_862 : List eAn := [(0, [], [], [])]
theorem K_862 {l : Launch} {D : va_G} {ca : Nat → ClassId} : KMet l D ca k_862 := K_gq (KS := []) (ini := false) (FL := []) (n := 13) (an := ak_862) h_283 rfl (by decide +kernel) KS_nil (by decide +kernel)
def k_863 : eK := (283, (([ya 13 13]), [yi 0, yj 1], [], (13, [])), [(([ya 13 13]), some (yj 0), [], (13, []))], 0, 0, 1)
def ak_863 : List eAn := [(0, [], [], [])]
theorem K_863 {l : Launch} {D : va_G} {ca : Nat → ClassId} : KMet l D ca k_863 := K_gq (KS := []) (ini := false) (FL := []) (n := 12) (an := ak_863) h_283 rfl (by decide +kernel) KS_nil (by decide +kernel)
def k_864 : eK := (283, (([ya 13 13]), [yi 0, yj 2], [], (13, [])), [(([ya 13 13]), some (yj 1), [], (13, []))], 0, 0, 1)
def ak_864 : List eAn := [(0, [], [], [])]
theorem K_864 {l : Launch} {D : va_G} {ca : Nat → ClassId} : KMet l D ca k_864 := K_gq (KS := []) (ini := false) (FL := []) (n := 13) (an := ak_864) h_283 rfl (by decide +kernel) KS_nil (by decide +kernel)
def k_865 : eK := (283, (([ya 13 13]), [yi 0, yj 3], [], (13, [])), [(([ya 13 13]), some (yj 1), [], (13, []))], 0, 0, 1)
def ak_865 : List eAn := [(0, [], [], [])]
theorem K_865 {l : Launch} {D : va_G} {ca : Nat → ClassId} : KMet l D ca k_865 := K_gq (KS := []) (ini := false) (FL := []) (n := 13) (an := ak_865) h_283 rfl (by decide +kernel) KS_nil (by decide +kernel)
def k_866 : eK := (283, (([ya 13 13]), [yi 0, yj 4], [], (13, [])), [(([ya 13 13]), some (yj 0), [], (13, []))], 0, 0, 1)
def ak_866 : List eAn := [(0, [], [], [])]
theorem K_866 {l : Launch} {D : va_G} {ca : Nat → ClassId} : KMet l D ca k_866 := K_gq (KS := []) (ini := false) (FL := []) (n := 12) (an := ak_866) h_283 rfl (by decide +kernel) KS_nil (by decide +kernel)
def zv_920 : eEv := [ya 0 2, ya 13 13, ya 0 20, ya 0 20] ++ yu 2 ++ yR 5 (ya 0 940) ++ [ya 0 4] ++ yu 4 ++ yU 1 ++ yu 1 ++ [ya 0 8] ++ yEm [yA 4294967295 4294967294, ya 0 5] 3 ++ yu 3 ++ [ya 0 64] ++ yu 1 ++ [ya 0 40, ya 0 1, ya 0 40, ya 0 20, ya 0 8, ya 0 39] ++ yu 120
def zv_921 : eEv := [ya 0 2, ya 13 13, ya 0 20, ya 0 20] ++ yu 2 ++ yR 5 (ya 0 940) ++ [ya 0 4] ++ yu 4 ++ yU 1 ++ yu 1 ++ [ya 0 8] ++ yEm [yA 4294967295 4294967294, ya 0 5] 3 ++ yu 3 ++ [ya 0 64] ++ yu 1 ++ [ya 0 40, ya 0 1, ya 0 40, ya 0 20, ya 0 8, ya 0 39] ++ yu 121 ++ [ya 0 5]
def k_867 : eK := (328, (zv_920, [yr 13] ++ yis 0 5, [(13, zc_89), (15, zc_882), (30, yt 1 5 ([yf 5])), (31, yt 1 5 ([yf 5]))], (37, zf_883)), [(zv_921, none, [(15, zc_882), (13, zc_885), (30, yt 1 5 ([yf 5])), (31, yt 1 5 ([yf 5]))], (37, zf_883))], 0, 0, 5)
def ak_867 : List eAn := [(0, [yh 1 1], nas 0 13, []), (1, [yh 2 2, ye (yk 0), yh 5 151], nas 0 37, hsr 0 41), (2, [ye (yg [(0, 2)] 2), yh 156 2, yh 159 1, yh 5 151], nas 0 37, hsr 41 41), (3, [yh 1 1], nas 0 13, []), (4, [yh 1 1], nas 0 13, []), (1, [yh 2 2, ye (yk 2), yh 5 18, yh 160 2, yh 25 131], nas 0 37, hsr 82 41), (5, [ye (yg [(0, 2)] 2), yh 162 2, yh 165 1, yh 5 18, yh 160 2, yh 25 131], nas 0 37, hsr 123 41), (6, [yh 1 1], nas 0 13, []), (1, [yh 2 2, ye (yk 3), yh 5 18, yh 166 2, yh 25 131], nas 0 37, hsr 164 41), (7, [ye (yg [(0, 2)] 2), yh 168 2, yh 171 1, yh 5 18, yh 166 2, yh 25 131], nas 0 37, hsr 205 41), (8, [yh 1 1], nas 0 13, []), (0, [yh 172 2], [], hsr 246 41)]
theorem K_867 {l : Launch} {D : va_G} {ca : Nat → ClassId} : KMet l D ca k_867 := K_gq (KS := [k_862, k_573, k_617, k_863, k_864, k_691, k_865, k_704, k_866]) (ini := false) (FL := []) (n := 172) (an := ak_867) h_328 rfl (by decide +kernel) (KS_cons K_862 (KS_cons K_573 (KS_cons K_617 (KS_cons K_863 (KS_cons K_864 (KS_cons K_691 (KS_cons K_865 (KS_cons K_704 (KS_cons K_866 KS_nil))))))))) (by decide +kernel)
def k_868 : eK := (283, (([ya 12 12]), [yi 0, yj 0], [], (13, [])), [(([ya 12 12]), some (yj 0), [], (13, []))], 0, 0, 1)
def ak_868 : List eAn := [(0, [], [], [])]
theorem K_868 {l : Launch} {D : va_G} {ca : Nat → ClassId} : KMet l D ca k_868 := K_gq (KS := []) (ini := false) (FL := []) (n := 12) (an := ak_868) h_283 rfl (by decide +kernel) KS_nil (by decide +kernel)
def k_869 : eK := (283, (([ya 12 12]), [yi 0, yj 1], [], (13, [])), [(([ya 12 12]), some (yj 0), [], (13, []))], 0, 0, 1)
def ak_869 : List eAn := [(0, [], [], [])]
theorem K_869 {l : Launch} {D : va_G} {ca : Nat → ClassId} : KMet l D ca k_869 := K_gq (KS := []) (ini := false) (FL := []) (n := 12) (an := ak_869) h_283 rfl (by decide +kernel) KS_nil (by decide +kernel)
def k_870 : eK := (283, (([ya 12 12]), [yi 0, yj 2], [], (13, [])), [(([ya 12 12]), some (yj 1), [], (13, []))], 0, 0, 1)
def ak_870 : List eAn := [(0, [], [], [])]
theorem K_870 {l : Launch} {D : va_G} {ca : Nat → ClassId} : KMet l D ca k_870 := K_gq (KS := []) (ini := false) (FL := []) (n := 13) (an := ak_870) h_283 rfl (by decide +kernel) KS_nil (by decide +kernel)
def k_871 : eK := (283, (([ya 12 12]), [yi 0, yj 3], [], (13, [])), [(([ya 12 12]), some (yj 1), [], (13, []))], 0, 0, 1)
def ak_871 : List eAn := [(0, [], [], [])]
theorem K_871 {l : Launch} {D : va_G} {ca : Nat → ClassId} : KMet l D ca k_871 := K_gq (KS := []) (ini := false) (FL := []) (n := 13) (an := ak_871) h_283 rfl (by decide +kernel) KS_nil (by decide +kernel)
def k_872 : eK := (283, (([ya 12 12]), [yi 0, yj 4], [], (13, [])), [(([ya 12 12]), some (yj 0), [], (13, []))], 0, 0, 1)
def ak_872 : List eAn := [(0, [], [], [])]
theorem K_872 {l : Launch} {D : va_G} {ca : Nat → ClassId} : KMet l D ca k_872 := K_gq (KS := []) (ini := false) (FL := []) (n := 12) (an := ak_872) h_283 rfl (by decide +kernel) KS_nil (by decide +kernel)
def zv_922 : eEv := [ya 0 3, ya 12 12, ya 0 20, ya 0 20] ++ yu 2 ++ yR 5 (ya 0 940) ++ [ya 0 4] ++ yu 4 ++ yU 1 ++ yu 1 ++ [ya 0 8] ++ yEm [yA 4294967295 4294967294, ya 0 5] 3 ++ yu 3 ++ [ya 0 64] ++ yu 1 ++ [ya 0 40, ya 0 1, ya 0 40, ya 0 20, ya 0 8, ya 0 39] ++ yu 120
def zv_923 : eEv := [ya 0 3, ya 12 12, ya 0 20, ya 0 20] ++ yu 2 ++ yR 5 (ya 0 940) ++ [ya 0 4] ++ yu 4 ++ yU 1 ++ yu 1 ++ [ya 0 8] ++ yEm [yA 4294967295 4294967294, ya 0 5] 3 ++ yu 3 ++ [ya 0 64] ++ yu 1 ++ [ya 0 40, ya 0 1, ya 0 40, ya 0 20, ya 0 8, ya 0 39] ++ yu 121 ++ [ya 0 5]
def k_873 : eK := (328, (zv_922, [yr 13] ++ yis 0 5, [(13, zc_89), (15, zc_882), (30, yt 1 5 ([yf 5])), (31, yt 1 5 ([yf 5]))], (37, zf_883)), [(zv_923, none, [(15, zc_882), (13, zc_885), (30, yt 1 5 ([yf 5])), (31, yt 1 5 ([yf 5]))], (37, zf_883))], 0, 0, 4)
def ak_873 : List eAn := [(0, [yh 1 1], nas 0 13, []), (1, [yh 1 1], nas 0 13, []), (2, [yh 1 1], nas 0 13, []), (3, [yh 2 2, ye (yk 2), yh 5 151], nas 0 37, hsr 0 41), (4, [ye (yg [(0, 2)] 2), yh 156 2, yh 159 1, yh 5 151], nas 0 37, hsr 41 41), (5, [yh 1 1], nas 0 13, []), (3, [yh 2 2, ye (yk 3), yh 5 18, yh 160 2, yh 25 131], nas 0 37, hsr 82 41), (6, [ye (yg [(0, 2)] 2), yh 162 2, yh 165 1, yh 5 18, yh 160 2, yh 25 131], nas 0 37, hsr 123 41), (7, [yh 1 1], nas 0 13, []), (0, [yh 166 2], [], hsr 164 41)]
theorem K_873 {l : Launch} {D : va_G} {ca : Nat → ClassId} : KMet l D ca k_873 := K_gq (KS := [k_868, k_869, k_870, k_573, k_596, k_871, k_609, k_872]) (ini := false) (FL := []) (n := 135) (an := ak_873) h_328 rfl (by decide +kernel) (KS_cons K_868 (KS_cons K_869 (KS_cons K_870 (KS_cons K_573 (KS_cons K_596 (KS_cons K_871 (KS_cons K_609 (KS_cons K_872 KS_nil)))))))) (by decide +kernel)
def k_874 : eK := (283, (([ya 11 11]), [yi 0, yj 0], [], (13, [])), [(([ya 11 11]), some (yj 1), [], (13, []))], 0, 0, 1)
def ak_874 : List eAn := [(0, [], [], [])]
theorem K_874 {l : Launch} {D : va_G} {ca : Nat → ClassId} : KMet l D ca k_874 := K_gq (KS := []) (ini := false) (FL := []) (n := 13) (an := ak_874) h_283 rfl (by decide +kernel) KS_nil (by decide +kernel)
def k_875 : eK := (283, (([ya 11 11]), [yi 0, yj 1], [], (13, [])), [(([ya 11 11]), some (yj 1), [], (13, []))], 0, 0, 1)
def ak_875 : List eAn := [(0, [], [], [])]
theorem K_875 {l : Launch} {D : va_G} {ca : Nat → ClassId} : KMet l D ca k_875 := K_gq (KS := []) (ini := false) (FL := []) (n := 13) (an := ak_875) h_283 rfl (by decide +kernel) KS_nil (by decide +kernel)
def k_876 : eK := (283, (([ya 11 11]), [yi 0, yj 2], [], (13, [])), [(([ya 11 11]), some (yj 0), [], (13, []))], 0, 0, 1)
def ak_876 : List eAn := [(0, [], [], [])]
theorem K_876 {l : Launch} {D : va_G} {ca : Nat → ClassId} : KMet l D ca k_876 := K_gq (KS := []) (ini := false) (FL := []) (n := 12) (an := ak_876) h_283 rfl (by decide +kernel) KS_nil (by decide +kernel)
def k_877 : eK := (283, (([ya 11 11]), [yi 0, yj 3], [], (13, [])), [(([ya 11 11]), some (yj 1), [], (13, []))], 0, 0, 1)
def ak_877 : List eAn := [(0, [], [], [])]
theorem K_877 {l : Launch} {D : va_G} {ca : Nat → ClassId} : KMet l D ca k_877 := K_gq (KS := []) (ini := false) (FL := []) (n := 13) (an := ak_877) h_283 rfl (by decide +kernel) KS_nil (by decide +kernel)
def k_878 : eK := (283, (([ya 11 11]), [yi 0, yj 4], [], (13, [])), [(([ya 11 11]), some (yj 0), [], (13, []))], 0, 0, 1)
def ak_878 : List eAn := [(0, [], [], [])]
theorem K_878 {l : Launch} {D : va_G} {ca : Nat → ClassId} : KMet l D ca k_878 := K_gq (KS := []) (ini := false) (FL := []) (n := 12) (an := ak_878) h_283 rfl (by decide +kernel) KS_nil (by decide +kernel)
def zv_924 : eEv := [ya 0 2, ya 11 11, ya 0 20, ya 0 20] ++ yu 2 ++ yR 5 (ya 0 940) ++ [ya 0 4] ++ yu 4 ++ yU 1 ++ yu 1 ++ [ya 0 8] ++ yEm [yA 4294967295 4294967294, ya 0 5] 3 ++ yu 3 ++ [ya 0 64] ++ yu 1 ++ [ya 0 40, ya 0 1, ya 0 40, ya 0 20, ya 0 8, ya 0 39] ++ yu 120
def zv_925 : eEv := [ya 0 2, ya 11 11, ya 0 20, ya 0 20] ++ yu 2 ++ yR 5 (ya 0 940) ++ [ya 0 4] ++ yu 4 ++ yU 1 ++ yu 1 ++ [ya 0 8] ++ yEm [yA 4294967295 4294967294, ya 0 5] 3 ++ yu 3 ++ [ya 0 64] ++ yu 1 ++ [ya 0 40, ya 0 1, ya 0 40, ya 0 20, ya 0 8, ya 0 39] ++ yu 121 ++ [ya 0 5]
def k_879 : eK := (328, (zv_924, [yr 13] ++ yis 0 5, [(13, zc_89), (15, zc_882), (30, yt 1 5 ([yf 5])), (31, yt 1 5 ([yf 5]))], (37, zf_883)), [(zv_925, none, [(15, zc_882), (13, zc_885), (30, yt 1 5 ([yf 5])), (31, yt 1 5 ([yf 5]))], (37, zf_883))], 0, 0, 5)
def ak_879 : List eAn := [(0, [yh 1 1], nas 0 13, []), (1, [yh 2 2, ye (yk 0), yh 5 151], nas 0 37, hsr 0 41), (2, [ye (yg [(0, 2)] 2), yh 156 2, yh 159 1, yh 5 151], nas 0 37, hsr 41 41), (3, [yh 1 1], nas 0 13, []), (1, [yh 2 2, ye (yk 1), yh 5 18, yh 160 2, yh 25 131], nas 0 37, hsr 82 41), (4, [ye (yg [(0, 2)] 2), yh 162 2, yh 165 1, yh 5 18, yh 160 2, yh 25 131], nas 0 37, hsr 123 41), (5, [yh 1 1], nas 0 13, []), (6, [yh 1 1], nas 0 13, []), (1, [yh 2 2, ye (yk 3), yh 5 18, yh 166 2, yh 25 131], nas 0 37, hsr 164 41), (7, [ye (yg [(0, 2)] 2), yh 168 2, yh 171 1, yh 5 18, yh 166 2, yh 25 131], nas 0 37, hsr 205 41), (8, [yh 1 1], nas 0 13, []), (0, [yh 172 2], [], hsr 246 41)]
theorem K_879 {l : Launch} {D : va_G} {ca : Nat → ClassId} : KMet l D ca k_879 := K_gq (KS := [k_874, k_573, k_642, k_875, k_691, k_876, k_877, k_729, k_878]) (ini := false) (FL := []) (n := 172) (an := ak_879) h_328 rfl (by decide +kernel) (KS_cons K_874 (KS_cons K_573 (KS_cons K_642 (KS_cons K_875 (KS_cons K_691 (KS_cons K_876 (KS_cons K_877 (KS_cons K_729 (KS_cons K_878 KS_nil))))))))) (by decide +kernel)
def k_880 : eK := (283, (([ya 10 10]), [yi 0, yj 0], [], (13, [])), [(([ya 10 10]), some (yj 0), [], (13, []))], 0, 0, 1)
def ak_880 : List eAn := [(0, [], [], [])]
theorem K_880 {l : Launch} {D : va_G} {ca : Nat → ClassId} : KMet l D ca k_880 := K_gq (KS := []) (ini := false) (FL := []) (n := 12) (an := ak_880) h_283 rfl (by decide +kernel) KS_nil (by decide +kernel)
def k_881 : eK := (283, (([ya 10 10]), [yi 0, yj 1], [], (13, [])), [(([ya 10 10]), some (yj 1), [], (13, []))], 0, 0, 1)
def ak_881 : List eAn := [(0, [], [], [])]
theorem K_881 {l : Launch} {D : va_G} {ca : Nat → ClassId} : KMet l D ca k_881 := K_gq (KS := []) (ini := false) (FL := []) (n := 13) (an := ak_881) h_283 rfl (by decide +kernel) KS_nil (by decide +kernel)
def k_882 : eK := (283, (([ya 10 10]), [yi 0, yj 2], [], (13, [])), [(([ya 10 10]), some (yj 0), [], (13, []))], 0, 0, 1)
def ak_882 : List eAn := [(0, [], [], [])]
theorem K_882 {l : Launch} {D : va_G} {ca : Nat → ClassId} : KMet l D ca k_882 := K_gq (KS := []) (ini := false) (FL := []) (n := 12) (an := ak_882) h_283 rfl (by decide +kernel) KS_nil (by decide +kernel)
def k_883 : eK := (283, (([ya 10 10]), [yi 0, yj 3], [], (13, [])), [(([ya 10 10]), some (yj 1), [], (13, []))], 0, 0, 1)
def ak_883 : List eAn := [(0, [], [], [])]
theorem K_883 {l : Launch} {D : va_G} {ca : Nat → ClassId} : KMet l D ca k_883 := K_gq (KS := []) (ini := false) (FL := []) (n := 13) (an := ak_883) h_283 rfl (by decide +kernel) KS_nil (by decide +kernel)
def k_884 : eK := (283, (([ya 10 10]), [yi 0, yj 4], [], (13, [])), [(([ya 10 10]), some (yj 0), [], (13, []))], 0, 0, 1)
def ak_884 : List eAn := [(0, [], [], [])]
theorem K_884 {l : Launch} {D : va_G} {ca : Nat → ClassId} : KMet l D ca k_884 := K_gq (KS := []) (ini := false) (FL := []) (n := 12) (an := ak_884) h_283 rfl (by decide +kernel) KS_nil (by decide +kernel)
def zv_926 : eEv := [ya 0 3, ya 10 10, ya 0 20, ya 0 20] ++ yu 2 ++ yR 5 (ya 0 940) ++ [ya 0 4] ++ yu 4 ++ yU 1 ++ yu 1 ++ [ya 0 8] ++ yEm [yA 4294967295 4294967294, ya 0 5] 3 ++ yu 3 ++ [ya 0 64] ++ yu 1 ++ [ya 0 40, ya 0 1, ya 0 40, ya 0 20, ya 0 8, ya 0 39] ++ yu 120
def zv_927 : eEv := [ya 0 3, ya 10 10, ya 0 20, ya 0 20] ++ yu 2 ++ yR 5 (ya 0 940) ++ [ya 0 4] ++ yu 4 ++ yU 1 ++ yu 1 ++ [ya 0 8] ++ yEm [yA 4294967295 4294967294, ya 0 5] 3 ++ yu 3 ++ [ya 0 64] ++ yu 1 ++ [ya 0 40, ya 0 1, ya 0 40, ya 0 20, ya 0 8, ya 0 39] ++ yu 121 ++ [ya 0 5]
def k_885 : eK := (328, (zv_926, [yr 13] ++ yis 0 5, [(13, zc_89), (15, zc_882), (30, yt 1 5 ([yf 5])), (31, yt 1 5 ([yf 5]))], (37, zf_883)), [(zv_927, none, [(15, zc_882), (13, zc_885), (30, yt 1 5 ([yf 5])), (31, yt 1 5 ([yf 5]))], (37, zf_883))], 0, 0, 4)
def ak_885 : List eAn := [(0, [yh 1 1], nas 0 13, []), (1, [yh 1 1], nas 0 13, []), (2, [yh 2 2, ye (yk 1), yh 5 151], nas 0 37, hsr 0 41), (3, [ye (yg [(0, 2)] 2), yh 156 2, yh 159 1, yh 5 151], nas 0 37, hsr 41 41), (4, [yh 1 1], nas 0 13, []), (5, [yh 1 1], nas 0 13, []), (2, [yh 2 2, ye (yk 3), yh 5 18, yh 160 2, yh 25 131], nas 0 37, hsr 82 41), (6, [ye (yg [(0, 2)] 2), yh 162 2, yh 165 1, yh 5 18, yh 160 2, yh 25 131], nas 0 37, hsr 123 41), (7, [yh 1 1], nas 0 13, []), (0, [yh 166 2], [], hsr 164 41)]
theorem K_885 {l : Launch} {D : va_G} {ca : Nat → ClassId} : KMet l D ca k_885 := K_gq (KS := [k_880, k_881, k_573, k_596, k_882, k_883, k_634, k_884]) (ini := false) (FL := []) (n := 135) (an := ak_885) h_328 rfl (by decide +kernel) (KS_cons K_880 (KS_cons K_881 (KS_cons K_573 (KS_cons K_596 (KS_cons K_882 (KS_cons K_883 (KS_cons K_634 (KS_cons K_884 KS_nil)))))))) (by decide +kernel)
def k_886 : eK := (283, (([ya 9 9]), [yi 0, yj 0], [], (13, [])), [(([ya 9 9]), some (yj 1), [], (13, []))], 0, 0, 1)
def ak_886 : List eAn := [(0, [], [], [])]
theorem K_886 {l : Launch} {D : va_G} {ca : Nat → ClassId} : KMet l D ca k_886 := K_gq (KS := []) (ini := false) (FL := []) (n := 13) (an := ak_886) h_283 rfl (by decide +kernel) KS_nil (by decide +kernel)
def k_887 : eK := (283, (([ya 9 9]), [yi 0, yj 1], [], (13, [])), [(([ya 9 9]), some (yj 0), [], (13, []))], 0, 0, 1)
def ak_887 : List eAn := [(0, [], [], [])]
theorem K_887 {l : Launch} {D : va_G} {ca : Nat → ClassId} : KMet l D ca k_887 := K_gq (KS := []) (ini := false) (FL := []) (n := 12) (an := ak_887) h_283 rfl (by decide +kernel) KS_nil (by decide +kernel)
def k_888 : eK := (283, (([ya 9 9]), [yi 0, yj 2], [], (13, [])), [(([ya 9 9]), some (yj 0), [], (13, []))], 0, 0, 1)
def ak_888 : List eAn := [(0, [], [], [])]
theorem K_888 {l : Launch} {D : va_G} {ca : Nat → ClassId} : KMet l D ca k_888 := K_gq (KS := []) (ini := false) (FL := []) (n := 12) (an := ak_888) h_283 rfl (by decide +kernel) KS_nil (by decide +kernel)
def k_889 : eK := (283, (([ya 9 9]), [yi 0, yj 3], [], (13, [])), [(([ya 9 9]), some (yj 1), [], (13, []))], 0, 0, 1)
def ak_889 : List eAn := [(0, [], [], [])]
theorem K_889 {l : Launch} {D : va_G} {ca : Nat → ClassId} : KMet l D ca k_889 := K_gq (KS := []) (ini := false) (FL := []) (n := 13) (an := ak_889) h_283 rfl (by decide +kernel) KS_nil (by decide +kernel)
def k_890 : eK := (283, (([ya 9 9]), [yi 0, yj 4], [], (13, [])), [(([ya 9 9]), some (yj 0), [], (13, []))], 0, 0, 1)
def ak_890 : List eAn := [(0, [], [], [])]
theorem K_890 {l : Launch} {D : va_G} {ca : Nat → ClassId} : KMet l D ca k_890 := K_gq (KS := []) (ini := false) (FL := []) (n := 12) (an := ak_890) h_283 rfl (by decide +kernel) KS_nil (by decide +kernel)
def zv_928 : eEv := [ya 0 3, ya 9 9, ya 0 20, ya 0 20] ++ yu 2 ++ yR 5 (ya 0 940) ++ [ya 0 4] ++ yu 4 ++ yU 1 ++ yu 1 ++ [ya 0 8] ++ yEm [yA 4294967295 4294967294, ya 0 5] 3 ++ yu 3 ++ [ya 0 64] ++ yu 1 ++ [ya 0 40, ya 0 1, ya 0 40, ya 0 20, ya 0 8, ya 0 39] ++ yu 120
def zv_929 : eEv := [ya 0 3, ya 9 9, ya 0 20, ya 0 20] ++ yu 2 ++ yR 5 (ya 0 940) ++ [ya 0 4] ++ yu 4 ++ yU 1 ++ yu 1 ++ [ya 0 8] ++ yEm [yA 4294967295 4294967294, ya 0 5] 3 ++ yu 3 ++ [ya 0 64] ++ yu 1 ++ [ya 0 40, ya 0 1, ya 0 40, ya 0 20, ya 0 8, ya 0 39] ++ yu 121 ++ [ya 0 5]
def k_891 : eK := (328, (zv_928, [yr 13] ++ yis 0 5, [(13, zc_89), (15, zc_882), (30, yt 1 5 ([yf 5])), (31, yt 1 5 ([yf 5]))], (37, zf_883)), [(zv_929, none, [(15, zc_882), (13, zc_885), (30, yt 1 5 ([yf 5])), (31, yt 1 5 ([yf 5]))], (37, zf_883))], 0, 0, 4)
def ak_891 : List eAn := [(0, [yh 1 1], nas 0 13, []), (1, [yh 2 2, ye (yk 0), yh 5 151], nas 0 37, hsr 0 41), (2, [ye (yg [(0, 2)] 2), yh 156 2, yh 159 1, yh 5 151], nas 0 37, hsr 41 41), (3, [yh 1 1], nas 0 13, []), (4, [yh 1 1], nas 0 13, []), (5, [yh 1 1], nas 0 13, []), (1, [yh 2 2, ye (yk 3), yh 5 18, yh 160 2, yh 25 131], nas 0 37, hsr 82 41), (6, [ye (yg [(0, 2)] 2), yh 162 2, yh 165 1, yh 5 18, yh 160 2, yh 25 131], nas 0 37, hsr 123 41), (7, [yh 1 1], nas 0 13, []), (0, [yh 166 2], [], hsr 164 41)]
theorem K_891 {l : Launch} {D : va_G} {ca : Nat → ClassId} : KMet l D ca k_891 := K_gq (KS := [k_886, k_573, k_596, k_887, k_888, k_889, k_683, k_890]) (ini := false) (FL := []) (n := 135) (an := ak_891) h_328 rfl (by decide +kernel) (KS_cons K_886 (KS_cons K_573 (KS_cons K_596 (KS_cons K_887 (KS_cons K_888 (KS_cons K_889 (KS_cons K_683 (KS_cons K_890 KS_nil)))))))) (by decide +kernel)
def k_892 : eK := (283, (([ya 8 8]), [yi 0, yj 0], [], (13, [])), [(([ya 8 8]), some (yj 0), [], (13, []))], 0, 0, 1)
def ak_892 : List eAn := [(0, [], [], [])]
theorem K_892 {l : Launch} {D : va_G} {ca : Nat → ClassId} : KMet l D ca k_892 := K_gq (KS := []) (ini := false) (FL := []) (n := 12) (an := ak_892) h_283 rfl (by decide +kernel) KS_nil (by decide +kernel)
def k_893 : eK := (283, (([ya 8 8]), [yi 0, yj 1], [], (13, [])), [(([ya 8 8]), some (yj 0), [], (13, []))], 0, 0, 1)
def ak_893 : List eAn := [(0, [], [], [])]
theorem K_893 {l : Launch} {D : va_G} {ca : Nat → ClassId} : KMet l D ca k_893 := K_gq (KS := []) (ini := false) (FL := []) (n := 12) (an := ak_893) h_283 rfl (by decide +kernel) KS_nil (by decide +kernel)
def k_894 : eK := (283, (([ya 8 8]), [yi 0, yj 2], [], (13, [])), [(([ya 8 8]), some (yj 0), [], (13, []))], 0, 0, 1)
def ak_894 : List eAn := [(0, [], [], [])]
theorem K_894 {l : Launch} {D : va_G} {ca : Nat → ClassId} : KMet l D ca k_894 := K_gq (KS := []) (ini := false) (FL := []) (n := 12) (an := ak_894) h_283 rfl (by decide +kernel) KS_nil (by decide +kernel)
def k_895 : eK := (283, (([ya 8 8]), [yi 0, yj 3], [], (13, [])), [(([ya 8 8]), some (yj 1), [], (13, []))], 0, 0, 1)
def ak_895 : List eAn := [(0, [], [], [])]
theorem K_895 {l : Launch} {D : va_G} {ca : Nat → ClassId} : KMet l D ca k_895 := K_gq (KS := []) (ini := false) (FL := []) (n := 13) (an := ak_895) h_283 rfl (by decide +kernel) KS_nil (by decide +kernel)
def k_896 : eK := (283, (([ya 8 8]), [yi 0, yj 4], [], (13, [])), [(([ya 8 8]), some (yj 0), [], (13, []))], 0, 0, 1)
def ak_896 : List eAn := [(0, [], [], [])]
theorem K_896 {l : Launch} {D : va_G} {ca : Nat → ClassId} : KMet l D ca k_896 := K_gq (KS := []) (ini := false) (FL := []) (n := 12) (an := ak_896) h_283 rfl (by decide +kernel) KS_nil (by decide +kernel)
def zv_930 : eEv := [ya 0 4, ya 8 8, ya 0 20, ya 0 20] ++ yu 2 ++ yR 5 (ya 0 940) ++ [ya 0 4] ++ yu 4 ++ yU 1 ++ yu 1 ++ [ya 0 8] ++ yEm [yA 4294967295 4294967294, ya 0 5] 3 ++ yu 3 ++ [ya 0 64] ++ yu 1 ++ [ya 0 40, ya 0 1, ya 0 40, ya 0 20, ya 0 8, ya 0 39] ++ yu 120
def zv_931 : eEv := [ya 0 4, ya 8 8, ya 0 20, ya 0 20] ++ yu 2 ++ yR 5 (ya 0 940) ++ [ya 0 4] ++ yu 4 ++ yU 1 ++ yu 1 ++ [ya 0 8] ++ yEm [yA 4294967295 4294967294, ya 0 5] 3 ++ yu 3 ++ [ya 0 64] ++ yu 1 ++ [ya 0 40, ya 0 1, ya 0 40, ya 0 20, ya 0 8, ya 0 39] ++ yu 121 ++ [ya 0 5]
def k_897 : eK := (328, (zv_930, [yr 13] ++ yis 0 5, [(13, zc_89), (15, zc_882), (30, yt 1 5 ([yf 5])), (31, yt 1 5 ([yf 5]))], (37, zf_883)), [(zv_931, none, [(15, zc_882), (13, zc_885), (30, yt 1 5 ([yf 5])), (31, yt 1 5 ([yf 5]))], (37, zf_883))], 0, 0, 3)
def ak_897 : List eAn := [(0, [yh 1 1], nas 0 13, []), (1, [yh 1 1], nas 0 13, []), (2, [yh 1 1], nas 0 13, []), (3, [yh 1 1], nas 0 13, []), (4, [yh 2 2, ye (yk 3), yh 5 151], nas 0 37, hsr 0 41), (5, [ye (yg [(0, 2)] 2), yh 156 2, yh 159 1, yh 5 31], nas 0 37, [[0, 81]]), (6, [yh 1 1], nas 0 13, []), (0, [yh 160 2], [], hsr 41 40 ++ [[0, 82]])]
theorem K_897 {l : Launch} {D : va_G} {ca : Nat → ClassId} : KMet l D ca k_897 := K_gq (KS := [k_892, k_893, k_894, k_895, k_573, k_588, k_896]) (ini := false) (FL := []) (n := 98) (an := ak_897) h_328 rfl (by decide +kernel) (KS_cons K_892 (KS_cons K_893 (KS_cons K_894 (KS_cons K_895 (KS_cons K_573 (KS_cons K_588 (KS_cons K_896 KS_nil))))))) (by decide +kernel)
def k_898 : eK := (283, (([ya 7 7]), [yi 0, yj 0], [], (13, [])), [(([ya 7 7]), some (yj 1), [], (13, []))], 0, 0, 1)
def ak_898 : List eAn := [(0, [], [], [])]
theorem K_898 {l : Launch} {D : va_G} {ca : Nat → ClassId} : KMet l D ca k_898 := K_gq (KS := []) (ini := false) (FL := []) (n := 13) (an := ak_898) h_283 rfl (by decide +kernel) KS_nil (by decide +kernel)
def k_899 : eK := (283, (([ya 7 7]), [yi 0, yj 1], [], (13, [])), [(([ya 7 7]), some (yj 1), [], (13, []))], 0, 0, 1)
def ak_899 : List eAn := [(0, [], [], [])]
theorem K_899 {l : Launch} {D : va_G} {ca : Nat → ClassId} : KMet l D ca k_899 := K_gq (KS := []) (ini := false) (FL := []) (n := 13) (an := ak_899) h_283 rfl (by decide +kernel) KS_nil (by decide +kernel)
def k_900 : eK := (283, (([ya 7 7]), [yi 0, yj 2], [], (13, [])), [(([ya 7 7]), some (yj 1), [], (13, []))], 0, 0, 1)
def ak_900 : List eAn := [(0, [], [], [])]
theorem K_900 {l : Launch} {D : va_G} {ca : Nat → ClassId} : KMet l D ca k_900 := K_gq (KS := []) (ini := false) (FL := []) (n := 13) (an := ak_900) h_283 rfl (by decide +kernel) KS_nil (by decide +kernel)
def k_901 : eK := (283, (([ya 7 7]), [yi 0, yj 3], [], (13, [])), [(([ya 7 7]), some (yj 0), [], (13, []))], 0, 0, 1)
def ak_901 : List eAn := [(0, [], [], [])]
theorem K_901 {l : Launch} {D : va_G} {ca : Nat → ClassId} : KMet l D ca k_901 := K_gq (KS := []) (ini := false) (FL := []) (n := 12) (an := ak_901) h_283 rfl (by decide +kernel) KS_nil (by decide +kernel)
def k_902 : eK := (283, (([ya 7 7]), [yi 0, yj 4], [], (13, [])), [(([ya 7 7]), some (yj 0), [], (13, []))], 0, 0, 1)
def ak_902 : List eAn := [(0, [], [], [])]
theorem K_902 {l : Launch} {D : va_G} {ca : Nat → ClassId} : KMet l D ca k_902 := K_gq (KS := []) (ini := false) (FL := []) (n := 12) (an := ak_902) h_283 rfl (by decide +kernel) KS_nil (by decide +kernel)
def zv_932 : eEv := [ya 0 2, ya 7 7, ya 0 20, ya 0 20] ++ yu 2 ++ yR 5 (ya 0 940) ++ [ya 0 4] ++ yu 4 ++ yU 1 ++ yu 1 ++ [ya 0 8] ++ yEm [yA 4294967295 4294967294, ya 0 5] 3 ++ yu 3 ++ [ya 0 64] ++ yu 1 ++ [ya 0 40, ya 0 1, ya 0 40, ya 0 20, ya 0 8, ya 0 39] ++ yu 120
def zv_933 : eEv := [ya 0 2, ya 7 7, ya 0 20, ya 0 20] ++ yu 2 ++ yR 5 (ya 0 940) ++ [ya 0 4] ++ yu 4 ++ yU 1 ++ yu 1 ++ [ya 0 8] ++ yEm [yA 4294967295 4294967294, ya 0 5] 3 ++ yu 3 ++ [ya 0 64] ++ yu 1 ++ [ya 0 40, ya 0 1, ya 0 40, ya 0 20, ya 0 8, ya 0 39] ++ yu 121 ++ [ya 0 5]
def k_903 : eK := (328, (zv_932, [yr 13] ++ yis 0 5, [(13, zc_89), (15, zc_882), (30, yt 1 5 ([yf 5])), (31, yt 1 5 ([yf 5]))], (37, zf_883)), [(zv_933, none, [(15, zc_882), (13, zc_885), (30, yt 1 5 ([yf 5])), (31, yt 1 5 ([yf 5]))], (37, zf_883))], 0, 0, 5)
def ak_903 : List eAn := [(0, [yh 1 1], nas 0 13, []), (1, [yh 2 2, ye (yk 0), yh 5 151], nas 0 37, hsr 0 41), (2, [ye (yg [(0, 2)] 2), yh 156 2, yh 159 1, yh 5 151], nas 0 37, hsr 41 41), (3, [yh 1 1], nas 0 13, []), (1, [yh 2 2, ye (yk 1), yh 5 18, yh 160 2, yh 25 131], nas 0 37, hsr 82 41), (4, [ye (yg [(0, 2)] 2), yh 162 2, yh 165 1, yh 5 18, yh 160 2, yh 25 131], nas 0 37, hsr 123 41), (5, [yh 1 1], nas 0 13, []), (1, [yh 2 2, ye (yk 2), yh 5 18, yh 166 2, yh 25 131], nas 0 37, hsr 164 41), (6, [ye (yg [(0, 2)] 2), yh 168 2, yh 171 1, yh 5 18, yh 166 2, yh 25 131], nas 0 37, hsr 205 41), (7, [yh 1 1], nas 0 13, []), (8, [yh 1 1], nas 0 13, []), (0, [yh 172 2], [], hsr 246 41)]
theorem K_903 {l : Launch} {D : va_G} {ca : Nat → ClassId} : KMet l D ca k_903 := K_gq (KS := [k_898, k_573, k_655, k_899, k_704, k_900, k_729, k_901, k_902]) (ini := false) (FL := []) (n := 172) (an := ak_903) h_328 rfl (by decide +kernel) (KS_cons K_898 (KS_cons K_573 (KS_cons K_655 (KS_cons K_899 (KS_cons K_704 (KS_cons K_900 (KS_cons K_729 (KS_cons K_901 (KS_cons K_902 KS_nil))))))))) (by decide +kernel)
def k_904 : eK := (283, (([ya 6 6]), [yi 0, yj 0], [], (13, [])), [(([ya 6 6]), some (yj 0), [], (13, []))], 0, 0, 1)
def ak_904 : List eAn := [(0, [], [], [])]
theorem K_904 {l : Launch} {D : va_G} {ca : Nat → ClassId} : KMet l D ca k_904 := K_gq (KS := []) (ini := false) (FL := []) (n := 12) (an := ak_904) h_283 rfl (by decide +kernel) KS_nil (by decide +kernel)
def k_905 : eK := (283, (([ya 6 6]), [yi 0, yj 1], [], (13, [])), [(([ya 6 6]), some (yj 1), [], (13, []))], 0, 0, 1)
def ak_905 : List eAn := [(0, [], [], [])]
theorem K_905 {l : Launch} {D : va_G} {ca : Nat → ClassId} : KMet l D ca k_905 := K_gq (KS := []) (ini := false) (FL := []) (n := 13) (an := ak_905) h_283 rfl (by decide +kernel) KS_nil (by decide +kernel)
def k_906 : eK := (283, (([ya 6 6]), [yi 0, yj 2], [], (13, [])), [(([ya 6 6]), some (yj 1), [], (13, []))], 0, 0, 1)
def ak_906 : List eAn := [(0, [], [], [])]
theorem K_906 {l : Launch} {D : va_G} {ca : Nat → ClassId} : KMet l D ca k_906 := K_gq (KS := []) (ini := false) (FL := []) (n := 13) (an := ak_906) h_283 rfl (by decide +kernel) KS_nil (by decide +kernel)
def k_907 : eK := (283, (([ya 6 6]), [yi 0, yj 3], [], (13, [])), [(([ya 6 6]), some (yj 0), [], (13, []))], 0, 0, 1)
def ak_907 : List eAn := [(0, [], [], [])]
theorem K_907 {l : Launch} {D : va_G} {ca : Nat → ClassId} : KMet l D ca k_907 := K_gq (KS := []) (ini := false) (FL := []) (n := 12) (an := ak_907) h_283 rfl (by decide +kernel) KS_nil (by decide +kernel)
def k_908 : eK := (283, (([ya 6 6]), [yi 0, yj 4], [], (13, [])), [(([ya 6 6]), some (yj 0), [], (13, []))], 0, 0, 1)
def ak_908 : List eAn := [(0, [], [], [])]
theorem K_908 {l : Launch} {D : va_G} {ca : Nat → ClassId} : KMet l D ca k_908 := K_gq (KS := []) (ini := false) (FL := []) (n := 12) (an := ak_908) h_283 rfl (by decide +kernel) KS_nil (by decide +kernel)
def zv_934 : eEv := [ya 0 3, ya 6 6, ya 0 20, ya 0 20] ++ yu 2 ++ yR 5 (ya 0 940) ++ [ya 0 4] ++ yu 4 ++ yU 1 ++ yu 1 ++ [ya 0 8] ++ yEm [yA 4294967295 4294967294, ya 0 5] 3 ++ yu 3 ++ [ya 0 64] ++ yu 1 ++ [ya 0 40, ya 0 1, ya 0 40, ya 0 20, ya 0 8, ya 0 39] ++ yu 120
def zv_935 : eEv := [ya 0 3, ya 6 6, ya 0 20, ya 0 20] ++ yu 2 ++ yR 5 (ya 0 940) ++ [ya 0 4] ++ yu 4 ++ yU 1 ++ yu 1 ++ [ya 0 8] ++ yEm [yA 4294967295 4294967294, ya 0 5] 3 ++ yu 3 ++ [ya 0 64] ++ yu 1 ++ [ya 0 40, ya 0 1, ya 0 40, ya 0 20, ya 0 8, ya 0 39] ++ yu 121 ++ [ya 0 5]
def k_909 : eK := (328, (zv_934, [yr 13] ++ yis 0 5, [(13, zc_89), (15, zc_882), (30, yt 1 5 ([yf 5])), (31, yt 1 5 ([yf 5]))], (37, zf_883)), [(zv_935, none, [(15, zc_882), (13, zc_885), (30, yt 1 5 ([yf 5])), (31, yt 1 5 ([yf 5]))], (37, zf_883))], 0, 0, 4)
def ak_909 : List eAn := [(0, [yh 1 1], nas 0 13, []), (1, [yh 1 1], nas 0 13, []), (2, [yh 2 2, ye (yk 1), yh 5 151], nas 0 37, hsr 0 41), (3, [ye (yg [(0, 2)] 2), yh 156 2, yh 159 1, yh 5 151], nas 0 37, hsr 41 41), (4, [yh 1 1], nas 0 13, []), (2, [yh 2 2, ye (yk 2), yh 5 18, yh 160 2, yh 25 131], nas 0 37, hsr 82 41), (5, [ye (yg [(0, 2)] 2), yh 162 2, yh 165 1, yh 5 18, yh 160 2, yh 25 131], nas 0 37, hsr 123 41), (6, [yh 1 1], nas 0 13, []), (7, [yh 1 1], nas 0 13, []), (0, [yh 166 2], [], hsr 164 41)]
theorem K_909 {l : Launch} {D : va_G} {ca : Nat → ClassId} : KMet l D ca k_909 := K_gq (KS := [k_904, k_905, k_573, k_609, k_906, k_634, k_907, k_908]) (ini := false) (FL := []) (n := 135) (an := ak_909) h_328 rfl (by decide +kernel) (KS_cons K_904 (KS_cons K_905 (KS_cons K_573 (KS_cons K_609 (KS_cons K_906 (KS_cons K_634 (KS_cons K_907 (KS_cons K_908 KS_nil)))))))) (by decide +kernel)
def k_910 : eK := (283, (([ya 5 5]), [yi 0, yj 0], [], (13, [])), [(([ya 5 5]), some (yj 1), [], (13, []))], 0, 0, 1)
def ak_910 : List eAn := [(0, [], [], [])]
theorem K_910 {l : Launch} {D : va_G} {ca : Nat → ClassId} : KMet l D ca k_910 := K_gq (KS := []) (ini := false) (FL := []) (n := 13) (an := ak_910) h_283 rfl (by decide +kernel) KS_nil (by decide +kernel)
def k_911 : eK := (283, (([ya 5 5]), [yi 0, yj 1], [], (13, [])), [(([ya 5 5]), some (yj 0), [], (13, []))], 0, 0, 1)
def ak_911 : List eAn := [(0, [], [], [])]
theorem K_911 {l : Launch} {D : va_G} {ca : Nat → ClassId} : KMet l D ca k_911 := K_gq (KS := []) (ini := false) (FL := []) (n := 12) (an := ak_911) h_283 rfl (by decide +kernel) KS_nil (by decide +kernel)
def k_912 : eK := (283, (([ya 5 5]), [yi 0, yj 2], [], (13, [])), [(([ya 5 5]), some (yj 1), [], (13, []))], 0, 0, 1)
def ak_912 : List eAn := [(0, [], [], [])]
theorem K_912 {l : Launch} {D : va_G} {ca : Nat → ClassId} : KMet l D ca k_912 := K_gq (KS := []) (ini := false) (FL := []) (n := 13) (an := ak_912) h_283 rfl (by decide +kernel) KS_nil (by decide +kernel)
def k_913 : eK := (283, (([ya 5 5]), [yi 0, yj 3], [], (13, [])), [(([ya 5 5]), some (yj 0), [], (13, []))], 0, 0, 1)
def ak_913 : List eAn := [(0, [], [], [])]
theorem K_913 {l : Launch} {D : va_G} {ca : Nat → ClassId} : KMet l D ca k_913 := K_gq (KS := []) (ini := false) (FL := []) (n := 12) (an := ak_913) h_283 rfl (by decide +kernel) KS_nil (by decide +kernel)
def k_914 : eK := (283, (([ya 5 5]), [yi 0, yj 4], [], (13, [])), [(([ya 5 5]), some (yj 0), [], (13, []))], 0, 0, 1)
def ak_914 : List eAn := [(0, [], [], [])]
theorem K_914 {l : Launch} {D : va_G} {ca : Nat → ClassId} : KMet l D ca k_914 := K_gq (KS := []) (ini := false) (FL := []) (n := 12) (an := ak_914) h_283 rfl (by decide +kernel) KS_nil (by decide +kernel)
def zv_936 : eEv := [ya 0 3, ya 5 5, ya 0 20, ya 0 20] ++ yu 2 ++ yR 5 (ya 0 940) ++ [ya 0 4] ++ yu 4 ++ yU 1 ++ yu 1 ++ [ya 0 8] ++ yEm [yA 4294967295 4294967294, ya 0 5] 3 ++ yu 3 ++ [ya 0 64] ++ yu 1 ++ [ya 0 40, ya 0 1, ya 0 40, ya 0 20, ya 0 8, ya 0 39] ++ yu 120
def zv_937 : eEv := [ya 0 3, ya 5 5, ya 0 20, ya 0 20] ++ yu 2 ++ yR 5 (ya 0 940) ++ [ya 0 4] ++ yu 4 ++ yU 1 ++ yu 1 ++ [ya 0 8] ++ yEm [yA 4294967295 4294967294, ya 0 5] 3 ++ yu 3 ++ [ya 0 64] ++ yu 1 ++ [ya 0 40, ya 0 1, ya 0 40, ya 0 20, ya 0 8, ya 0 39] ++ yu 121 ++ [ya 0 5]
def k_915 : eK := (328, (zv_936, [yr 13] ++ yis 0 5, [(13, zc_89), (15, zc_882), (30, yt 1 5 ([yf 5])), (31, yt 1 5 ([yf 5]))], (37, zf_883)), [(zv_937, none, [(15, zc_882), (13, zc_885), (30, yt 1 5 ([yf 5])), (31, yt 1 5 ([yf 5]))], (37, zf_883))], 0, 0, 4)
def ak_915 : List eAn := [(0, [yh 1 1], nas 0 13, []), (1, [yh 2 2, ye (yk 0), yh 5 151], nas 0 37, hsr 0 41), (2, [ye (yg [(0, 2)] 2), yh 156 2, yh 159 1, yh 5 151], nas 0 37, hsr 41 41), (3, [yh 1 1], nas 0 13, []), (4, [yh 1 1], nas 0 13, []), (1, [yh 2 2, ye (yk 2), yh 5 18, yh 160 2, yh 25 131], nas 0 37, hsr 82 41), (5, [ye (yg [(0, 2)] 2), yh 162 2, yh 165 1, yh 5 18, yh 160 2, yh 25 131], nas 0 37, hsr 123 41), (6, [yh 1 1], nas 0 13, []), (7, [yh 1 1], nas 0 13, []), (0, [yh 166 2], [], hsr 164 41)]
theorem K_915 {l : Launch} {D : va_G} {ca : Nat → ClassId} : KMet l D ca k_915 := K_gq (KS := [k_910, k_573, k_609, k_911, k_912, k_683, k_913, k_914]) (ini := false) (FL := []) (n := 135) (an := ak_915) h_328 rfl (by decide +kernel) (KS_cons K_910 (KS_cons K_573 (KS_cons K_609 (KS_cons K_911 (KS_cons K_912 (KS_cons K_683 (KS_cons K_913 (KS_cons K_914 KS_nil)))))))) (by decide +kernel)
def k_916 : eK := (283, (([ya 4 4]), [yi 0, yj 0], [], (13, [])), [(([ya 4 4]), some (yj 0), [], (13, []))], 0, 0, 1)
def ak_916 : List eAn := [(0, [], [], [])]
theorem K_916 {l : Launch} {D : va_G} {ca : Nat → ClassId} : KMet l D ca k_916 := K_gq (KS := []) (ini := false) (FL := []) (n := 12) (an := ak_916) h_283 rfl (by decide +kernel) KS_nil (by decide +kernel)
def k_917 : eK := (283, (([ya 4 4]), [yi 0, yj 1], [], (13, [])), [(([ya 4 4]), some (yj 0), [], (13, []))], 0, 0, 1)
def ak_917 : List eAn := [(0, [], [], [])]
theorem K_917 {l : Launch} {D : va_G} {ca : Nat → ClassId} : KMet l D ca k_917 := K_gq (KS := []) (ini := false) (FL := []) (n := 12) (an := ak_917) h_283 rfl (by decide +kernel) KS_nil (by decide +kernel)
def k_918 : eK := (283, (([ya 4 4]), [yi 0, yj 2], [], (13, [])), [(([ya 4 4]), some (yj 1), [], (13, []))], 0, 0, 1)
def ak_918 : List eAn := [(0, [], [], [])]
theorem K_918 {l : Launch} {D : va_G} {ca : Nat → ClassId} : KMet l D ca k_918 := K_gq (KS := []) (ini := false) (FL := []) (n := 13) (an := ak_918) h_283 rfl (by decide +kernel) KS_nil (by decide +kernel)
def k_919 : eK := (283, (([ya 4 4]), [yi 0, yj 3], [], (13, [])), [(([ya 4 4]), some (yj 0), [], (13, []))], 0, 0, 1)
def ak_919 : List eAn := [(0, [], [], [])]
theorem K_919 {l : Launch} {D : va_G} {ca : Nat → ClassId} : KMet l D ca k_919 := K_gq (KS := []) (ini := false) (FL := []) (n := 12) (an := ak_919) h_283 rfl (by decide +kernel) KS_nil (by decide +kernel)
def k_920 : eK := (283, (([ya 4 4]), [yi 0, yj 4], [], (13, [])), [(([ya 4 4]), some (yj 0), [], (13, []))], 0, 0, 1)
def ak_920 : List eAn := [(0, [], [], [])]
theorem K_920 {l : Launch} {D : va_G} {ca : Nat → ClassId} : KMet l D ca k_920 := K_gq (KS := []) (ini := false) (FL := []) (n := 12) (an := ak_920) h_283 rfl (by decide +kernel) KS_nil (by decide +kernel)
def zv_938 : eEv := [ya 0 4, ya 4 4, ya 0 20, ya 0 20] ++ yu 2 ++ yR 5 (ya 0 940) ++ [ya 0 4] ++ yu 4 ++ yU 1 ++ yu 1 ++ [ya 0 8] ++ yEm [yA 4294967295 4294967294, ya 0 5] 3 ++ yu 3 ++ [ya 0 64] ++ yu 1 ++ [ya 0 40, ya 0 1, ya 0 40, ya 0 20, ya 0 8, ya 0 39] ++ yu 120
def zv_939 : eEv := [ya 0 4, ya 4 4, ya 0 20, ya 0 20] ++ yu 2 ++ yR 5 (ya 0 940) ++ [ya 0 4] ++ yu 4 ++ yU 1 ++ yu 1 ++ [ya 0 8] ++ yEm [yA 4294967295 4294967294, ya 0 5] 3 ++ yu 3 ++ [ya 0 64] ++ yu 1 ++ [ya 0 40, ya 0 1, ya 0 40, ya 0 20, ya 0 8, ya 0 39] ++ yu 121 ++ [ya 0 5]
def k_921 : eK := (328, (zv_938, [yr 13] ++ yis 0 5, [(13, zc_89), (15, zc_882), (30, yt 1 5 ([yf 5])), (31, yt 1 5 ([yf 5]))], (37, zf_883)), [(zv_939, none, [(15, zc_882), (13, zc_885), (30, yt 1 5 ([yf 5])), (31, yt 1 5 ([yf 5]))], (37, zf_883))], 0, 0, 3)
def ak_921 : List eAn := [(0, [yh 1 1], nas 0 13, []), (1, [yh 1 1], nas 0 13, []), (2, [yh 1 1], nas 0 13, []), (3, [yh 2 2, ye (yk 2), yh 5 151], nas 0 37, hsr 0 41), (4, [ye (yg [(0, 2)] 2), yh 156 2, yh 159 1, yh 5 31], nas 0 37, [[0, 81]]), (5, [yh 1 1], nas 0 13, []), (6, [yh 1 1], nas 0 13, []), (0, [yh 160 2], [], hsr 41 40 ++ [[0, 82]])]
theorem K_921 {l : Launch} {D : va_G} {ca : Nat → ClassId} : KMet l D ca k_921 := K_gq (KS := [k_916, k_917, k_918, k_573, k_588, k_919, k_920]) (ini := false) (FL := []) (n := 98) (an := ak_921) h_328 rfl (by decide +kernel) (KS_cons K_916 (KS_cons K_917 (KS_cons K_918 (KS_cons K_573 (KS_cons K_588 (KS_cons K_919 (KS_cons K_920 KS_nil))))))) (by decide +kernel)
def k_922 : eK := (283, (([ya 3 3]), [yi 0, yj 0], [], (13, [])), [(([ya 3 3]), some (yj 1), [], (13, []))], 0, 0, 1)
def ak_922 : List eAn := [(0, [], [], [])]
theorem K_922 {l : Launch} {D : va_G} {ca : Nat → ClassId} : KMet l D ca k_922 := K_gq (KS := []) (ini := false) (FL := []) (n := 13) (an := ak_922) h_283 rfl (by decide +kernel) KS_nil (by decide +kernel)
def k_923 : eK := (283, (([ya 3 3]), [yi 0, yj 1], [], (13, [])), [(([ya 3 3]), some (yj 1), [], (13, []))], 0, 0, 1)
def ak_923 : List eAn := [(0, [], [], [])]
theorem K_923 {l : Launch} {D : va_G} {ca : Nat → ClassId} : KMet l D ca k_923 := K_gq (KS := []) (ini := false) (FL := []) (n := 13) (an := ak_923) h_283 rfl (by decide +kernel) KS_nil (by decide +kernel)
def k_924 : eK := (283, (([ya 3 3]), [yi 0, yj 2], [], (13, [])), [(([ya 3 3]), some (yj 0), [], (13, []))], 0, 0, 1)
def ak_924 : List eAn := [(0, [], [], [])]
theorem K_924 {l : Launch} {D : va_G} {ca : Nat → ClassId} : KMet l D ca k_924 := K_gq (KS := []) (ini := false) (FL := []) (n := 12) (an := ak_924) h_283 rfl (by decide +kernel) KS_nil (by decide +kernel)
def k_925 : eK := (283, (([ya 3 3]), [yi 0, yj 3], [], (13, [])), [(([ya 3 3]), some (yj 0), [], (13, []))], 0, 0, 1)
def ak_925 : List eAn := [(0, [], [], [])]
theorem K_925 {l : Launch} {D : va_G} {ca : Nat → ClassId} : KMet l D ca k_925 := K_gq (KS := []) (ini := false) (FL := []) (n := 12) (an := ak_925) h_283 rfl (by decide +kernel) KS_nil (by decide +kernel)
def k_926 : eK := (283, (([ya 3 3]), [yi 0, yj 4], [], (13, [])), [(([ya 3 3]), some (yj 0), [], (13, []))], 0, 0, 1)
def ak_926 : List eAn := [(0, [], [], [])]
theorem K_926 {l : Launch} {D : va_G} {ca : Nat → ClassId} : KMet l D ca k_926 := K_gq (KS := []) (ini := false) (FL := []) (n := 12) (an := ak_926) h_283 rfl (by decide +kernel) KS_nil (by decide +kernel)
def zv_940 : eEv := [ya 0 3, ya 3 3, ya 0 20, ya 0 20] ++ yu 2 ++ yR 5 (ya 0 940) ++ [ya 0 4] ++ yu 4 ++ yU 1 ++ yu 1 ++ [ya 0 8] ++ yEm [yA 4294967295 4294967294, ya 0 5] 3 ++ yu 3 ++ [ya 0 64] ++ yu 1 ++ [ya 0 40, ya 0 1, ya 0 40, ya 0 20, ya 0 8, ya 0 39] ++ yu 120
def zv_941 : eEv := [ya 0 3, ya 3 3, ya 0 20, ya 0 20] ++ yu 2 ++ yR 5 (ya 0 940) ++ [ya 0 4] ++ yu 4 ++ yU 1 ++ yu 1 ++ [ya 0 8] ++ yEm [yA 4294967295 4294967294, ya 0 5] 3 ++ yu 3 ++ [ya 0 64] ++ yu 1 ++ [ya 0 40, ya 0 1, ya 0 40, ya 0 20, ya 0 8, ya 0 39] ++ yu 121 ++ [ya 0 5]
def k_927 : eK := (328, (zv_940, [yr 13] ++ yis 0 5, [(13, zc_89), (15, zc_882), (30, yt 1 5 ([yf 5])), (31, yt 1 5 ([yf 5]))], (37, zf_883)), [(zv_941, none, [(15, zc_882), (13, zc_885), (30, yt 1 5 ([yf 5])), (31, yt 1 5 ([yf 5]))], (37, zf_883))], 0, 0, 4)
def ak_927 : List eAn := [(0, [yh 1 1], nas 0 13, []), (1, [yh 2 2, ye (yk 0), yh 5 151], nas 0 37, hsr 0 41), (2, [ye (yg [(0, 2)] 2), yh 156 2, yh 159 1, yh 5 151], nas 0 37, hsr 41 41), (3, [yh 1 1], nas 0 13, []), (1, [yh 2 2, ye (yk 1), yh 5 18, yh 160 2, yh 25 131], nas 0 37, hsr 82 41), (4, [ye (yg [(0, 2)] 2), yh 162 2, yh 165 1, yh 5 18, yh 160 2, yh 25 131], nas 0 37, hsr 123 41), (5, [yh 1 1], nas 0 13, []), (6, [yh 1 1], nas 0 13, []), (7, [yh 1 1], nas 0 13, []), (0, [yh 166 2], [], hsr 164 41)]
theorem K_927 {l : Launch} {D : va_G} {ca : Nat → ClassId} : KMet l D ca k_927 := K_gq (KS := [k_922, k_573, k_634, k_923, k_683, k_924, k_925, k_926]) (ini := false) (FL := []) (n := 135) (an := ak_927) h_328 rfl (by decide +kernel) (KS_cons K_922 (KS_cons K_573 (KS_cons K_634 (KS_cons K_923 (KS_cons K_683 (KS_cons K_924 (KS_cons K_925 (KS_cons K_926 KS_nil)))))))) (by decide +kernel)
def k_928 : eK := (283, (([ya 2 2]), [yi 0, yj 0], [], (13, [])), [(([ya 2 2]), some (yj 0), [], (13, []))], 0, 0, 1)
def ak_928 : List eAn := [(0, [], [], [])]
theorem K_928 {l : Launch} {D : va_G} {ca : Nat → ClassId} : KMet l D ca k_928 := K_gq (KS := []) (ini := false) (FL := []) (n := 12) (an := ak_928) h_283 rfl (by decide +kernel) KS_nil (by decide +kernel)
def k_929 : eK := (283, (([ya 2 2]), [yi 0, yj 1], [], (13, [])), [(([ya 2 2]), some (yj 1), [], (13, []))], 0, 0, 1)
def ak_929 : List eAn := [(0, [], [], [])]
theorem K_929 {l : Launch} {D : va_G} {ca : Nat → ClassId} : KMet l D ca k_929 := K_gq (KS := []) (ini := false) (FL := []) (n := 13) (an := ak_929) h_283 rfl (by decide +kernel) KS_nil (by decide +kernel)
def k_930 : eK := (283, (([ya 2 2]), [yi 0, yj 2], [], (13, [])), [(([ya 2 2]), some (yj 0), [], (13, []))], 0, 0, 1)
def ak_930 : List eAn := [(0, [], [], [])]
theorem K_930 {l : Launch} {D : va_G} {ca : Nat → ClassId} : KMet l D ca k_930 := K_gq (KS := []) (ini := false) (FL := []) (n := 12) (an := ak_930) h_283 rfl (by decide +kernel) KS_nil (by decide +kernel)
def k_931 : eK := (283, (([ya 2 2]), [yi 0, yj 3], [], (13, [])), [(([ya 2 2]), some (yj 0), [], (13, []))], 0, 0, 1)
def ak_931 : List eAn := [(0, [], [], [])]
theorem K_931 {l : Launch} {D : va_G} {ca : Nat → ClassId} : KMet l D ca k_931 := K_gq (KS := []) (ini := false) (FL := []) (n := 12) (an := ak_931) h_283 rfl (by decide +kernel) KS_nil (by decide +kernel)
def k_932 : eK := (283, (([ya 2 2]), [yi 0, yj 4], [], (13, [])), [(([ya 2 2]), some (yj 0), [], (13, []))], 0, 0, 1)
def ak_932 : List eAn := [(0, [], [], [])]
theorem K_932 {l : Launch} {D : va_G} {ca : Nat → ClassId} : KMet l D ca k_932 := K_gq (KS := []) (ini := false) (FL := []) (n := 12) (an := ak_932) h_283 rfl (by decide +kernel) KS_nil (by decide +kernel)
def zv_942 : eEv := [ya 0 4, ya 2 2, ya 0 20, ya 0 20] ++ yu 2 ++ yR 5 (ya 0 940) ++ [ya 0 4] ++ yu 4 ++ yU 1 ++ yu 1 ++ [ya 0 8] ++ yEm [yA 4294967295 4294967294, ya 0 5] 3 ++ yu 3 ++ [ya 0 64] ++ yu 1 ++ [ya 0 40, ya 0 1, ya 0 40, ya 0 20, ya 0 8, ya 0 39] ++ yu 120
def zv_943 : eEv := [ya 0 4, ya 2 2, ya 0 20, ya 0 20] ++ yu 2 ++ yR 5 (ya 0 940) ++ [ya 0 4] ++ yu 4 ++ yU 1 ++ yu 1 ++ [ya 0 8] ++ yEm [yA 4294967295 4294967294, ya 0 5] 3 ++ yu 3 ++ [ya 0 64] ++ yu 1 ++ [ya 0 40, ya 0 1, ya 0 40, ya 0 20, ya 0 8, ya 0 39] ++ yu 121 ++ [ya 0 5]
def k_933 : eK := (328, (zv_942, [yr 13] ++ yis 0 5, [(13, zc_89), (15, zc_882), (30, yt 1 5 ([yf 5])), (31, yt 1 5 ([yf 5]))], (37, zf_883)), [(zv_943, none, [(15, zc_882), (13, zc_885), (30, yt 1 5 ([yf 5])), (31, yt 1 5 ([yf 5]))], (37, zf_883))], 0, 0, 3)
def ak_933 : List eAn := [(0, [yh 1 1], nas 0 13, []), (1, [yh 1 1], nas 0 13, []), (2, [yh 2 2, ye (yk 1), yh 5 151], nas 0 37, hsr 0 41), (3, [ye (yg [(0, 2)] 2), yh 156 2, yh 159 1, yh 5 31], nas 0 37, [[0, 81]]), (4, [yh 1 1], nas 0 13, []), (5, [yh 1 1], nas 0 13, []), (6, [yh 1 1], nas 0 13, []), (0, [yh 160 2], [], hsr 41 40 ++ [[0, 82]])]
theorem K_933 {l : Launch} {D : va_G} {ca : Nat → ClassId} : KMet l D ca k_933 := K_gq (KS := [k_928, k_929, k_573, k_588, k_930, k_931, k_932]) (ini := false) (FL := []) (n := 98) (an := ak_933) h_328 rfl (by decide +kernel) (KS_cons K_928 (KS_cons K_929 (KS_cons K_573 (KS_cons K_588 (KS_cons K_930 (KS_cons K_931 (KS_cons K_932 KS_nil))))))) (by decide +kernel)
def k_934 : eK := (283, (([ya 1 1]), [yi 0, yj 0], [], (13, [])), [(([ya 1 1]), some (yj 1), [], (13, []))], 0, 0, 1)
def ak_934 : List eAn := [(0, [], [], [])]
theorem K_934 {l : Launch} {D : va_G} {ca : Nat → ClassId} : KMet l D ca k_934 := K_gq (KS := []) (ini := false) (FL := []) (n := 13) (an := ak_934) h_283 rfl (by decide +kernel) KS_nil (by decide +kernel)
def k_935 : eK := (283, (([ya 1 1]), [yi 0, yj 1], [], (13, [])), [(([ya 1 1]), some (yj 0), [], (13, []))], 0, 0, 1)
def ak_935 : List eAn := [(0, [], [], [])]
theorem K_935 {l : Launch} {D : va_G} {ca : Nat → ClassId} : KMet l D ca k_935 := K_gq (KS := []) (ini := false) (FL := []) (n := 12) (an := ak_935) h_283 rfl (by decide +kernel) KS_nil (by decide +kernel)
def k_936 : eK := (283, (([ya 1 1]), [yi 0, yj 2], [], (13, [])), [(([ya 1 1]), some (yj 0), [], (13, []))], 0, 0, 1)
def ak_936 : List eAn := [(0, [], [], [])]
theorem K_936 {l : Launch} {D : va_G} {ca : Nat → ClassId} : KMet l D ca k_936 := K_gq (KS := []) (ini := false) (FL := []) (n := 12) (an := ak_936) h_283 rfl (by decide +kernel) KS_nil (by decide +kernel)
def k_937 : eK := (283, (([ya 1 1]), [yi 0, yj 3], [], (13, [])), [(([ya 1 1]), some (yj 0), [], (13, []))], 0, 0, 1)
def ak_937 : List eAn := [(0, [], [], [])]
theorem K_937 {l : Launch} {D : va_G} {ca : Nat → ClassId} : KMet l D ca k_937 := K_gq (KS := []) (ini := false) (FL := []) (n := 12) (an := ak_937) h_283 rfl (by decide +kernel) KS_nil (by decide +kernel)
def k_938 : eK := (283, (([ya 1 1]), [yi 0, yj 4], [], (13, [])), [(([ya 1 1]), some (yj 0), [], (13, []))], 0, 0, 1)
def ak_938 : List eAn := [(0, [], [], [])]
theorem K_938 {l : Launch} {D : va_G} {ca : Nat → ClassId} : KMet l D ca k_938 := K_gq (KS := []) (ini := false) (FL := []) (n := 12) (an := ak_938) h_283 rfl (by decide +kernel) KS_nil (by decide +kernel)
def zv_944 : eEv := [ya 0 4, ya 1 1, ya 0 20, ya 0 20] ++ yu 2 ++ yR 5 (ya 0 940) ++ [ya 0 4] ++ yu 4 ++ yU 1 ++ yu 1 ++ [ya 0 8] ++ yEm [yA 4294967295 4294967294, ya 0 5] 3 ++ yu 3 ++ [ya 0 64] ++ yu 1 ++ [ya 0 40, ya 0 1, ya 0 40, ya 0 20, ya 0 8, ya 0 39] ++ yu 120
def zv_945 : eEv := [ya 0 4, ya 1 1, ya 0 20, ya 0 20] ++ yu 2 ++ yR 5 (ya 0 940) ++ [ya 0 4] ++ yu 4 ++ yU 1 ++ yu 1 ++ [ya 0 8] ++ yEm [yA 4294967295 4294967294, ya 0 5] 3 ++ yu 3 ++ [ya 0 64] ++ yu 1 ++ [ya 0 40, ya 0 1, ya 0 40, ya 0 20, ya 0 8, ya 0 39] ++ yu 121 ++ [ya 0 5]
def k_939 : eK := (328, (zv_944, [yr 13] ++ yis 0 5, [(13, zc_89), (15, zc_882), (30, yt 1 5 ([yf 5])), (31, yt 1 5 ([yf 5]))], (37, zf_883)), [(zv_945, none, [(15, zc_882), (13, zc_885), (30, yt 1 5 ([yf 5])), (31, yt 1 5 ([yf 5]))], (37, zf_883))], 0, 0, 3)
def ak_939 : List eAn := [(0, [yh 1 1], nas 0 13, []), (1, [yh 2 2, ye (yk 0), yh 5 151], nas 0 37, hsr 0 41), (2, [ye (yg [(0, 2)] 2), yh 156 2, yh 159 1, yh 5 31], nas 0 37, [[0, 81]]), (3, [yh 1 1], nas 0 13, []), (4, [yh 1 1], nas 0 13, []), (5, [yh 1 1], nas 0 13, []), (6, [yh 1 1], nas 0 13, []), (0, [yh 160 2], [], hsr 41 40 ++ [[0, 82]])]
theorem K_939 {l : Launch} {D : va_G} {ca : Nat → ClassId} : KMet l D ca k_939 := K_gq (KS := [k_934, k_573, k_588, k_935, k_936, k_937, k_938]) (ini := false) (FL := []) (n := 98) (an := ak_939) h_328 rfl (by decide +kernel) (KS_cons K_934 (KS_cons K_573 (KS_cons K_588 (KS_cons K_935 (KS_cons K_936 (KS_cons K_937 (KS_cons K_938 KS_nil))))))) (by decide +kernel)
def zv_946 : eEv := [ya 0 5, ya 0 0, ya 0 20, ya 0 20] ++ yu 2 ++ yR 5 (ya 0 940) ++ [ya 0 4] ++ yu 4 ++ yU 1 ++ yu 1 ++ [ya 0 8] ++ yEm [yA 4294967295 4294967294, ya 0 5] 3 ++ yu 3 ++ [ya 0 64] ++ yu 1 ++ [ya 0 40, ya 0 1, ya 0 40, ya 0 20, ya 0 8, ya 0 39]
def zv_947 : eEv := [ya 0 5, ya 0 0, ya 0 20, ya 0 20] ++ yu 2 ++ yR 5 (ya 0 940) ++ [ya 0 4] ++ yu 4 ++ yU 1 ++ yu 1 ++ [ya 0 8] ++ yEm [yA 4294967295 4294967294, ya 0 5] 3 ++ yu 3 ++ [ya 0 64] ++ yu 1 ++ [ya 0 40, ya 0 1, ya 0 40, ya 0 20, ya 0 8, ya 0 39] ++ yu 1 ++ [ya 0 5]
def zc_948 : eSC := yo 13 ([yi 5, yr 14] ++ yis 6 10 ++ [yl 16, yi 17, yr 15, yr 16, yr 17, yr 18, yr 19, yr 20, yr 21, yr 22, yr 23, yr 24, yi 18, yr 25, yr 26, yr 27, yi 19, yi 20, yr 28, yr 29, yi 21, yi 22, yr 30, yr 31, yi 36, yi 37] ++ yis 25 3 ++ [yr 32, yr 33, yi 28, yi 29, yr 34, yr 35, yi 30, yi 31, yr 36] ++ yis 32 4)
def k_940 : eK := (328, (zv_946, [yr 13] ++ yis 0 5, [(13, zc_89), (30, yt 1 5 ([yf 5])), (31, yt 1 5 ([yf 5]))], (37, ([(zb_9, [yg [(32, 2), (33, 3)] 0])]))), [(zv_947, none, [(13, zc_948), (30, yt 1 5 ([yf 5])), (31, yt 1 5 ([yf 5]))], (37, ([(zb_9, [yg [(32, 2), (33, 3)] 0])])))], 0, 0, 1)
def ak_940 : List eAn := [(0, [yh 39 1, yh 0 1], [], [[0, 0]]), (0, [yh 39 1, yh 0 1], [], [[0, 0]]), (0, [yh 39 1, yh 0 1], [], [[0, 0]]), (0, [yh 39 1, yh 0 1], [], [[0, 0]]), (0, [yh 39 1, yh 0 1], [], [[0, 0]]), (0, [yh 39 1, yh 0 1], [], [[0, 0]]), (0, [yh 23 2], [], [[0, 0]])]
theorem K_940 {l : Launch} {D : va_G} {ca : Nat → ClassId} : KMet l D ca k_940 := K_gq (KS := []) (ini := false) (FL := []) (n := 99) (an := ak_940) h_328 rfl (by decide +kernel) KS_nil (by decide +kernel)
def zv_949 : eEv := [ya 5 5] ++ yu 1 ++ yR 5 (ya 0 940) ++ [ya 0 4] ++ yu 4 ++ yU 1 ++ yu 1 ++ [ya 0 8] ++ yEm [yA 4294967295 4294967294, ya 0 5] 3 ++ yu 3 ++ [ya 0 64] ++ yu 1 ++ [ya 0 40, ya 0 1, ya 0 40, ya 0 20, ya 0 8, ya 0 39] ++ yR 6 (yA 1 14) ++ yu 120
def zv_950 : eEv := [ya 5 5] ++ yu 1 ++ yR 5 (ya 0 940) ++ [ya 0 4] ++ yu 4 ++ yU 1 ++ yu 1 ++ [ya 0 8] ++ yEm [yA 4294967295 4294967294, ya 0 5] 3 ++ yu 3 ++ [ya 0 64] ++ yu 1 ++ [ya 0 40, ya 0 1, ya 0 40, ya 0 20, ya 0 8, ya 0 39] ++ yR 5 (yA 1 14) ++ [yA 1 1] ++ yu 120
def zv_951 : eEv := [ya 5 5] ++ yu 1 ++ yR 5 (ya 0 940) ++ [ya 0 4] ++ yu 4 ++ yU 1 ++ yu 1 ++ [ya 0 8] ++ yEm [yA 4294967295 4294967294, ya 0 5] 3 ++ yu 3 ++ [ya 0 64] ++ yu 1 ++ [ya 0 40, ya 0 1, ya 0 40, ya 0 20, ya 0 8, ya 0 39] ++ yR 5 (yA 1 14) ++ [ya 0 7] ++ yu 120
def k_945 : eK := (297, (zv_949, [yr 13, yi 0], [(13, zc_82), (15, zc_510)], (37, zf_511)), [(zv_950, some (yj 0), [(13, zc_82), (15, zc_510)], (37, zf_511)), (zv_951, some (yj 1), [(13, zc_82), (15, zc_510)], (37, zf_511))], 0, 0, 1)
def ak_945 : List eAn := [(0, [], [], hsr 0 41), (1, [], [], hsr 0 41)]
theorem K_945 {l : Launch} {D : va_G} {ca : Nat → ClassId} : KMet l D ca k_945 := K_gq (KS := []) (ini := false) (FL := []) (n := 14) (an := ak_945) h_297 rfl (by decide +kernel) KS_nil (by decide +kernel)
def zv_952 : eEv := [ya 4 4] ++ yu 1 ++ yR 5 (ya 0 940) ++ [ya 0 4] ++ yu 4 ++ yU 1 ++ yu 1 ++ [ya 0 8] ++ yEm [yA 4294967295 4294967294, ya 0 5] 3 ++ yu 3 ++ [ya 0 64] ++ yu 1 ++ [ya 0 40, ya 0 1, ya 0 40, ya 0 20, ya 0 8, ya 0 39] ++ yR 6 (yA 1 14) ++ yu 120
def zv_953 : eEv := [ya 4 4] ++ yu 1 ++ yR 5 (ya 0 940) ++ [ya 0 4] ++ yu 4 ++ yU 1 ++ yu 1 ++ [ya 0 8] ++ yEm [yA 4294967295 4294967294, ya 0 5] 3 ++ yu 3 ++ [ya 0 64] ++ yu 1 ++ [ya 0 40, ya 0 1, ya 0 40, ya 0 20, ya 0 8, ya 0 39] ++ yR 4 (yA 1 14) ++ [yA 1 1, yA 1 14] ++ yu 120
def zv_954 : eEv := [ya 4 4] ++ yu 1 ++ yR 5 (ya 0 940) ++ [ya 0 4] ++ yu 4 ++ yU 1 ++ yu 1 ++ [ya 0 8] ++ yEm [yA 4294967295 4294967294, ya 0 5] 3 ++ yu 3 ++ [ya 0 64] ++ yu 1 ++ [ya 0 40, ya 0 1, ya 0 40, ya 0 20, ya 0 8, ya 0 39] ++ yR 4 (yA 1 14) ++ [ya 0 7, yA 1 14] ++ yu 120
def k_944 : eK := (297, (zv_952, [yr 13, yi 0], [(13, zc_82), (15, zc_510)], (37, zf_511)), [(zv_953, some (yj 0), [(13, zc_82), (15, zc_510)], (37, zf_511)), (zv_954, some (yj 1), [(13, zc_82), (15, zc_510)], (37, zf_511))], 0, 0, 1)
def ak_944 : List eAn := [(0, [], [], hsr 0 41), (1, [], [], hsr 0 41)]
theorem K_944 {l : Launch} {D : va_G} {ca : Nat → ClassId} : KMet l D ca k_944 := K_gq (KS := []) (ini := false) (FL := []) (n := 14) (an := ak_944) h_297 rfl (by decide +kernel) KS_nil (by decide +kernel)
def zv_955 : eEv := [ya 3 3] ++ yu 1 ++ yR 5 (ya 0 940) ++ [ya 0 4] ++ yu 4 ++ yU 1 ++ yu 1 ++ [ya 0 8] ++ yEm [yA 4294967295 4294967294, ya 0 5] 3 ++ yu 3 ++ [ya 0 64] ++ yu 1 ++ [ya 0 40, ya 0 1, ya 0 40, ya 0 20, ya 0 8, ya 0 39] ++ yR 6 (yA 1 14) ++ yu 120
def zv_956 : eEv := [ya 3 3] ++ yu 1 ++ yR 5 (ya 0 940) ++ [ya 0 4] ++ yu 4 ++ yU 1 ++ yu 1 ++ [ya 0 8] ++ yEm [yA 4294967295 4294967294, ya 0 5] 3 ++ yu 3 ++ [ya 0 64] ++ yu 1 ++ [ya 0 40, ya 0 1, ya 0 40, ya 0 20, ya 0 8, ya 0 39] ++ yR 3 (yA 1 14) ++ [yA 1 1, yA 1 14, yA 1 14] ++ yu 120
def zv_957 : eEv := [ya 3 3] ++ yu 1 ++ yR 5 (ya 0 940) ++ [ya 0 4] ++ yu 4 ++ yU 1 ++ yu 1 ++ [ya 0 8] ++ yEm [yA 4294967295 4294967294, ya 0 5] 3 ++ yu 3 ++ [ya 0 64] ++ yu 1 ++ [ya 0 40, ya 0 1, ya 0 40, ya 0 20, ya 0 8, ya 0 39] ++ yR 3 (yA 1 14) ++ [ya 0 7, yA 1 14, yA 1 14] ++ yu 120
def k_943 : eK := (297, (zv_955, [yr 13, yi 0], [(13, zc_82), (15, zc_510)], (37, zf_511)), [(zv_956, some (yj 0), [(13, zc_82), (15, zc_510)], (37, zf_511)), (zv_957, some (yj 1), [(13, zc_82), (15, zc_510)], (37, zf_511))], 0, 0, 1)
def ak_943 : List eAn := [(0, [], [], hsr 0 41), (1, [], [], hsr 0 41)]
theorem K_943 {l : Launch} {D : va_G} {ca : Nat → ClassId} : KMet l D ca k_943 := K_gq (KS := []) (ini := false) (FL := []) (n := 14) (an := ak_943) h_297 rfl (by decide +kernel) KS_nil (by decide +kernel)
def zv_958 : eEv := [ya 2 2] ++ yu 1 ++ yR 5 (ya 0 940) ++ [ya 0 4] ++ yu 4 ++ yU 1 ++ yu 1 ++ [ya 0 8] ++ yEm [yA 4294967295 4294967294, ya 0 5] 3 ++ yu 3 ++ [ya 0 64] ++ yu 1 ++ [ya 0 40, ya 0 1, ya 0 40, ya 0 20, ya 0 8, ya 0 39] ++ yR 6 (yA 1 14) ++ yu 120
def zv_959 : eEv := [ya 2 2] ++ yu 1 ++ yR 5 (ya 0 940) ++ [ya 0 4] ++ yu 4 ++ yU 1 ++ yu 1 ++ [ya 0 8] ++ yEm [yA 4294967295 4294967294, ya 0 5] 3 ++ yu 3 ++ [ya 0 64] ++ yu 1 ++ [ya 0 40, ya 0 1, ya 0 40, ya 0 20, ya 0 8, ya 0 39, yA 1 14, yA 1 14, yA 1 1] ++ yR 3 (yA 1 14) ++ yu 120
def zv_960 : eEv := [ya 2 2] ++ yu 1 ++ yR 5 (ya 0 940) ++ [ya 0 4] ++ yu 4 ++ yU 1 ++ yu 1 ++ [ya 0 8] ++ yEm [yA 4294967295 4294967294, ya 0 5] 3 ++ yu 3 ++ [ya 0 64] ++ yu 1 ++ [ya 0 40, ya 0 1, ya 0 40, ya 0 20, ya 0 8, ya 0 39, yA 1 14, yA 1 14, ya 0 7] ++ yR 3 (yA 1 14) ++ yu 120
def k_942 : eK := (297, (zv_958, [yr 13, yi 0], [(13, zc_82), (15, zc_510)], (37, zf_511)), [(zv_959, some (yj 0), [(13, zc_82), (15, zc_510)], (37, zf_511)), (zv_960, some (yj 1), [(13, zc_82), (15, zc_510)], (37, zf_511))], 0, 0, 1)
def ak_942 : List eAn := [(0, [], [], hsr 0 41), (1, [], [], hsr 0 41)]
theorem K_942 {l : Launch} {D : va_G} {ca : Nat → ClassId} : KMet l D ca k_942 := K_gq (KS := []) (ini := false) (FL := []) (n := 14) (an := ak_942) h_297 rfl (by decide +kernel) KS_nil (by decide +kernel)
def zv_961 : eEv := [ya 1 1] ++ yu 1 ++ yR 5 (ya 0 940) ++ [ya 0 4] ++ yu 4 ++ yU 1 ++ yu 1 ++ [ya 0 8] ++ yEm [yA 4294967295 4294967294, ya 0 5] 3 ++ yu 3 ++ [ya 0 64] ++ yu 1 ++ [ya 0 40, ya 0 1, ya 0 40, ya 0 20, ya 0 8, ya 0 39] ++ yR 6 (yA 1 14) ++ yu 120
def zv_962 : eEv := [ya 1 1] ++ yu 1 ++ yR 5 (ya 0 940) ++ [ya 0 4] ++ yu 4 ++ yU 1 ++ yu 1 ++ [ya 0 8] ++ yEm [yA 4294967295 4294967294, ya 0 5] 3 ++ yu 3 ++ [ya 0 64] ++ yu 1 ++ [ya 0 40, ya 0 1, ya 0 40, ya 0 20, ya 0 8, ya 0 39, yA 1 14, yA 1 1] ++ yR 4 (yA 1 14) ++ yu 120
def zv_963 : eEv := [ya 1 1] ++ yu 1 ++ yR 5 (ya 0 940) ++ [ya 0 4] ++ yu 4 ++ yU 1 ++ yu 1 ++ [ya 0 8] ++ yEm [yA 4294967295 4294967294, ya 0 5] 3 ++ yu 3 ++ [ya 0 64] ++ yu 1 ++ [ya 0 40, ya 0 1, ya 0 40, ya 0 20, ya 0 8, ya 0 39, yA 1 14, ya 0 7] ++ yR 4 (yA 1 14) ++ yu 120
def k_941 : eK := (297, (zv_961, [yr 13, yi 0], [(13, zc_82), (15, zc_510)], (37, zf_511)), [(zv_962, some (yj 0), [(13, zc_82), (15, zc_510)], (37, zf_511)), (zv_963, some (yj 1), [(13, zc_82), (15, zc_510)], (37, zf_511))], 0, 0, 1)
def ak_941 : List eAn := [(0, [], [], hsr 0 41), (1, [], [], hsr 0 41)]
theorem K_941 {l : Launch} {D : va_G} {ca : Nat → ClassId} : KMet l D ca k_941 := K_gq (KS := []) (ini := false) (FL := []) (n := 14) (an := ak_941) h_297 rfl (by decide +kernel) KS_nil (by decide +kernel)
def zv_964 : eEv := [ya 0 0] ++ yu 1 ++ yR 5 (ya 0 940) ++ [ya 0 4] ++ yu 4 ++ yU 1 ++ yu 1 ++ [ya 0 8] ++ yEm [yA 4294967295 4294967294, ya 0 5] 3 ++ yu 3 ++ [ya 0 64] ++ yu 1 ++ [ya 0 40, ya 0 1, ya 0 40, ya 0 20, ya 0 8, ya 0 39] ++ yR 6 (yA 1 14) ++ yu 120
def zv_965 : eEv := [ya 0 0] ++ yu 1 ++ yR 5 (ya 0 940) ++ [ya 0 4] ++ yu 4 ++ yU 1 ++ yu 1 ++ [ya 0 8] ++ yEm [yA 4294967295 4294967294, ya 0 5] 3 ++ yu 3 ++ [ya 0 64] ++ yu 1 ++ [ya 0 40, ya 0 1, ya 0 40, ya 0 20, ya 0 8, ya 0 39, yA 1 1] ++ yR 5 (yA 1 14) ++ yu 120
def zv_966 : eEv := [ya 0 0] ++ yu 1 ++ yR 5 (ya 0 940) ++ [ya 0 4] ++ yu 4 ++ yU 1 ++ yu 1 ++ [ya 0 8] ++ yEm [yA 4294967295 4294967294, ya 0 5] 3 ++ yu 3 ++ [ya 0 64] ++ yu 1 ++ [ya 0 40, ya 0 1, ya 0 40, ya 0 20, ya 0 8, ya 0 39, ya 0 7] ++ yR 5 (yA 1 14) ++ yu 120
def k_399 : eK := (297, (zv_964, [yr 13, yi 0], [(13, zc_82), (15, zc_510)], (37, zf_511)), [(zv_965, some (yj 0), [(13, zc_82), (15, zc_510)], (37, zf_511)), (zv_966, some (yj 1), [(13, zc_82), (15, zc_510)], (37, zf_511))], 0, 0, 1)
def ak_399 : List eAn := [(0, [], [], hsr 0 41), (1, [], [], hsr 0 41)]
theorem K_399 {l : Launch} {D : va_G} {ca : Nat → ClassId} : KMet l D ca k_399 := K_gq (KS := []) (ini := false) (FL := []) (n := 14) (an := ak_399) h_297 rfl (by decide +kernel) KS_nil (by decide +kernel)
def zv_967 : eEv := yu 1 ++ yR 5 (ya 0 940) ++ [ya 0 4] ++ yu 4 ++ yU 1 ++ yu 1 ++ [ya 0 8] ++ yEm [yA 4294967295 4294967294, ya 0 5] 3 ++ yu 3 ++ [ya 0 64] ++ yu 1 ++ [ya 0 40, ya 0 1, ya 0 40, ya 0 20, ya 0 8, ya 0 39] ++ yu 121 ++ [ya 0 5]
def zc_968 : eSC := yo 13 ([yj 0, yr 14] ++ yis 1 10 ++ [yl 11, yi 12, yr 15, yr 16, yr 17, yr 18, yr 19, yr 20, yr 21, yr 22, yr 23, yr 24, yi 13, yr 25, yr 26, yr 27, yi 14, yi 15, yr 28, yr 29, yi 16, yi 17, yr 30, yr 31, yi 151, yi 152] ++ yis 20 3 ++ [yr 32, yr 33, yi 23, yi 24, yr 34, yr 35, yi 25, yi 26, yr 36] ++ yis 27 4)
def k_946 : eK := (327, (zv_430, [yr 13], [(13, zc_282), (15, zc_431), (30, yt 1 5 ([yf 5])), (31, yt 1 5 ([yf 5]))], (37, zf_432)), [(zv_967, some (yi 151), [(15, zc_431), (13, zc_968), (30, yt 1 5 ([yf 5])), (31, yt 1 5 ([yf 5]))], (37, zf_432))], 0, 0, 8)
def ak_946 : List eAn := [(0, [ye (yk 0), ye (yk 0)], [], hsr 0 41)]
def zv_969 : eEv := yu 1 ++ yR 5 (ya 0 940) ++ [ya 0 4] ++ yu 4 ++ yU 1 ++ yu 1 ++ [ya 0 8] ++ yEm [yA 4294967295 4294967294, ya 0 5] 3 ++ yu 3 ++ [ya 0 64] ++ yu 1 ++ [ya 0 40, ya 0 1, ya 0 40, ya 0 20, ya 0 8, ya 0 39] ++ yu 120 ++ [ya 0 6, ya 0 31]
def zk_946 : List (eCut × Nat × List eAn) := [((9, zv_969, [(0, yr 13), (1, yi 152), (2, yi 151)], [], [(13, zc_455), (15, zc_431), (30, yt 1 5 ([yf 5])), (31, yt 1 5 ([yf 5]))], (37, zf_432), 0, 0, yg [(151, 1)] 12), 35, [(1000, [], [], []), (2001, [ye (yv 152)], [], []), (1000, [], [], []), (0, [ye (yk 0), yh 152 1, ye (yk 0), ye (yk 0), ye (yk 0), ye (yk 0), yh 1 17, ye (yk 100000), yh 19 132], nas 0 37, hsr 0 41), (0, [yh 154 2], [], hsr 41 41), (1000, [], [], []), (1, [ye (yk 0), yh 152 1, ye (yk 0), ye (yk 0), ye (yk 0), ye (yk 0), yh 1 17, ye (yk 100000), yh 19 132], nas 0 37, hsr 0 41), (0, [yh 154 2], [], hsr 41 41), (1000, [], [], []), (2, [ye (yk 0), yh 152 1, ye (yk 0), ye (yk 0), ye (yk 0), ye (yk 0), yh 1 17, ye (yk 100000), yh 19 132], nas 0 37, hsr 0 41), (0, [yh 154 2], [], hsr 41 41), (1000, [], [], []), (3, [ye (yk 0), yh 152 1, ye (yk 0), ye (yk 0), ye (yk 0), ye (yk 0), yh 1 17, ye (yk 100000), yh 19 132], nas 0 37, hsr 0 41), (0, [yh 154 2], [], hsr 41 41), (1000, [], [], []), (4, [ye (yk 0), yh 152 1, ye (yk 0), ye (yk 0), ye (yk 0), ye (yk 0), yh 1 17, ye (yk 100000), yh 19 132], nas 0 37, hsr 0 41), (0, [yh 154 2], [], hsr 41 41), (1000, [], [], []), (5, [ye (yk 0), yh 152 1, ye (yk 0), ye (yk 0), ye (yk 0), ye (yk 0), yh 1 17, ye (yk 100000), yh 19 132], nas 0 37, hsr 0 41), (0, [yh 154 2], [], hsr 41 41), (1000, [], [], []), (6, [ye (yk 0), yh 152 1, ye (yk 0), ye (yk 0), ye (yk 0), ye (yk 0), yh 1 17, ye (yk 100000), yh 19 132], nas 0 37, hsr 0 41), (0, [yh 154 2], [], hsr 41 41), (1000, [], [], []), (7, [ye (yk 0), yh 152 1, ye (yk 0), ye (yk 0), ye (yk 0), ye (yk 0), yh 1 17, ye (yk 100000), yh 19 132], nas 0 37, hsr 0 41), (0, [yh 154 2], [], hsr 41 41), (1000, [], [], []), (8, [ye (yk 0), yh 152 1, ye (yk 0), ye (yk 0), ye (yk 0), ye (yk 0), yh 1 17, ye (yk 100000), yh 19 132], nas 0 37, hsr 0 41), (0, [yh 154 2], [], hsr 41 41), (1000, [], [], []), (9, [ye (yk 0), yh 152 1, ye (yk 0), ye (yk 0), ye (yk 0), ye (yk 0), yh 1 17, ye (yk 100000), yh 19 132], nas 0 37, hsr 0 41), (0, [yh 154 2], [], hsr 41 41), (1000, [], [], []), (10, [ye (yk 0), yh 152 1, ye (yk 0), ye (yk 0), ye (yk 0), ye (yk 0), yh 1 17, ye (yk 100000), yh 19 132], nas 0 37, hsr 0 41), (0, [yh 154 2], [], hsr 41 41), (1000, [], [], []), (11, [ye (yk 0), yh 152 1, ye (yk 0), ye (yk 0), ye (yk 0), ye (yk 0), yh 1 17, ye (yk 100000), yh 19 132], nas 0 37, hsr 0 41), (0, [yh 154 2], [], hsr 41 41), (1000, [], [], []), (12, [ye (yk 0), yh 152 1, ye (yk 0), ye (yk 0), ye (yk 0), ye (yk 0), yh 1 17, ye (yk 100000), yh 19 132], nas 0 37, hsr 0 41), (0, [yh 154 2], [], hsr 41 41), (1000, [], [], []), (13, [ye (yk 0), yh 152 1, ye (yk 0), ye (yk 0), ye (yk 0), ye (yk 0), yh 1 17, ye (yk 100000), yh 19 132], nas 0 37, hsr 0 41), (0, [yh 154 2], [], hsr 41 41), (1000, [], [], []), (14, [ye (yk 0), yh 152 1, ye (yk 0), ye (yk 0), ye (yk 0), ye (yk 0), yh 1 17, ye (yk 100000), yh 19 132], nas 0 37, hsr 0 41), (0, [yh 154 2], [], hsr 41 41), (1000, [], [], []), (15, [ye (yk 0), yh 152 1, ye (yk 0), ye (yk 0), ye (yk 0), ye (yk 0), yh 1 17, ye (yk 100000), yh 19 132], nas 0 37, hsr 0 41), (0, [yh 154 2], [], hsr 41 41), (1000, [], [], []), (16, [ye (yk 0), yh 152 1, ye (yk 0), ye (yk 0), ye (yk 0), ye (yk 0), yh 1 17, ye (yk 100000), yh 19 132], nas 0 37, hsr 0 41), (0, [yh 154 2], [], hsr 41 41), (1000, [], [], []), (17, [ye (yk 0), yh 152 1, ye (yk 0), ye (yk 0), ye (yk 0), ye (yk 0), yh 1 17, ye (yk 100000), yh 19 132], nas 0 37, hsr 0 41), (0, [yh 154 2], [], hsr 41 41), (1000, [], [], []), (18, [ye (yk 0), yh 152 1, ye (yk 0), ye (yk 0), ye (yk 0), ye (yk 0), yh 1 17, ye (yk 100000), yh 19 132], nas 0 37, hsr 0 41), (0, [yh 154 2], [], hsr 41 41), (1000, [], [], []), (19, [ye (yk 0), yh 152 1, ye (yk 0), ye (yk 0), ye (yk 0), ye (yk 0), yh 1 17, ye (yk 100000), yh 19 132], nas 0 37, hsr 0 41), (0, [yh 154 2], [], hsr 41 41), (1000, [], [], []), (20, [ye (yk 0), yh 152 1, ye (yk 0), ye (yk 0), ye (yk 0), ye (yk 0), yh 1 17, ye (yk 100000), yh 19 132], nas 0 37, hsr 0 41), (0, [yh 154 2], [], hsr 41 41), (1000, [], [], []), (21, [ye (yk 0), yh 152 1, ye (yk 0), ye (yk 0), ye (yk 0), ye (yk 0), yh 1 17, ye (yk 100000), yh 19 132], nas 0 37, hsr 0 41), (0, [yh 154 2], [], hsr 41 41), (1000, [], [], []), (22, [ye (yk 0), yh 152 1, ye (yk 0), ye (yk 0), ye (yk 0), ye (yk 0), yh 1 17, ye (yk 100000), yh 19 132], nas 0 37, hsr 0 41), (0, [yh 154 2], [], hsr 41 41), (1000, [], [], []), (23, [ye (yk 0), yh 152 1, ye (yk 0), ye (yk 0), ye (yk 0), ye (yk 0), yh 1 17, ye (yk 100000), yh 19 132], nas 0 37, hsr 0 41), (0, [yh 154 2], [], hsr 41 41), (1000, [], [], []), (24, [ye (yk 0), yh 152 1, ye (yk 0), ye (yk 0), ye (yk 0), ye (yk 0), yh 1 17, ye (yk 100000), yh 19 132], nas 0 37, hsr 0 41), (0, [yh 154 2], [], hsr 41 41), (1000, [], [], []), (25, [ye (yk 0), yh 152 1, ye (yk 0), ye (yk 0), ye (yk 0), ye (yk 0), yh 1 17, ye (yk 100000), yh 19 132], nas 0 37, hsr 0 41), (0, [yh 154 2], [], hsr 41 41), (1000, [], [], []), (26, [ye (yk 0), yh 152 1, ye (yk 0), ye (yk 0), ye (yk 0), ye (yk 0), yh 1 17, ye (yk 100000), yh 19 132], nas 0 37, hsr 0 41), (0, [yh 154 2], [], hsr 41 41), (1000, [], [], []), (27, [ye (yk 0), yh 152 1, ye (yk 0), ye (yk 0), ye (yk 0), ye (yk 0), yh 1 17, ye (yk 100000), yh 19 132], nas 0 37, hsr 0 41), (0, [yh 154 2], [], hsr 41 41), (1000, [], [], []), (28, [ye (yk 0), yh 152 1, ye (yk 0), ye (yk 0), ye (yk 0), ye (yk 0), yh 1 17, ye (yk 100000), yh 19 132], nas 0 37, hsr 0 41), (0, [yh 154 2], [], hsr 41 41), (1000, [], [], []), (29, [ye (yk 0), yh 152 1, ye (yk 0), ye (yk 0), ye (yk 0), ye (yk 0), yh 1 17, ye (yk 100000), yh 19 132], nas 0 37, hsr 0 41), (0, [yh 154 2], [], hsr 41 41), (1000, [], [], []), (30, [ye (yk 0), yh 152 1, ye (yk 0), ye (yk 0), ye (yk 0), ye (yk 0), yh 1 17, ye (yk 100000), yh 19 132], nas 0 37, hsr 0 41), (0, [yh 154 2], [], hsr 41 41), (1000, [], [], []), (31, [ye (yk 0), yh 152 1, ye (yk 0), ye (yk 0), ye (yk 0), ye (yk 0), yh 1 17, ye (yk 100000), yh 19 12], nas 0 37, [[0, 40]]), (0, [yh 154 2], [], hsr 0 40 ++ [[0, 41]]), (2001, [ye (yv 151)], [], []), (2003, [], [15] ++ nas 82 6, []), (1000, [], [], []), (32, [yh 151 1, ye (yk 0), yh 1 30, yh 154 6, yh 31 120], nas 0 37, hsr 0 41), (0, [ye (yg [(151, 2)] 2), yh 152 1], [], hsr 41 41), (0, [ye (yg [(151, 2)] 2), yh 162 1], [], hsr 41 41), (2003, [], [15] ++ nas 82 6, []), (1000, [], [], []), (33, [yh 151 1, ye (yk 0), yh 1 30, yh 154 6, yh 31 120], nas 0 37, hsr 0 41), (0, [ye (yg [(151, 2)] 2), yh 152 1], [], hsr 41 41), (0, [ye (yg [(151, 2)] 2), yh 162 1], [], hsr 41 41), (2003, [], [15] ++ nas 82 6, []), (1000, [], [], []), (34, [yh 151 1, ye (yk 0), yh 1 30, yh 154 6, yh 31 120], nas 0 37, hsr 0 41), (0, [ye (yg [(151, 2)] 2), yh 152 1], [], hsr 41 41), (0, [ye (yg [(151, 2)] 2), yh 162 1], [], hsr 41 41), (2003, [], [15] ++ nas 82 6, []), (1000, [], [], []), (35, [yh 151 1, ye (yk 0), yh 1 30, yh 154 6, yh 31 120], nas 0 37, hsr 0 41), (0, [ye (yg [(151, 2)] 2), yh 152 1], [], hsr 41 41), (0, [ye (yg [(151, 2)] 2), yh 162 1], [], hsr 41 41), (2003, [], [15] ++ nas 82 6, []), (1000, [], [], []), (36, [yh 151 1, ye (yk 0), yh 1 30, yh 154 6, yh 31 120], nas 0 37, hsr 0 41), (0, [ye (yg [(151, 2)] 2), yh 152 1], [], hsr 41 41), (0, [ye (yg [(151, 2)] 2), yh 162 1], [], hsr 41 41), (2003, [], [15] ++ nas 82 6, []), (1000, [], [], []), (37, [yh 151 1, ye (yk 0), yh 1 30, yh 154 6, yh 31 120], nas 0 37, hsr 0 41), (0, [ye (yg [(151, 2)] 2), yh 152 1], [], hsr 41 41), (0, [ye (yg [(151, 2)] 2), yh 162 1], [], hsr 41 41)])]
theorem K_946 {l : Launch} {D : va_G} {ca : Nat → ClassId} : KMet l D ca k_946 := K_gqL (KS := [k_759, k_765, k_771, k_777, k_783, k_789, k_795, k_801, k_807, k_813, k_819, k_825, k_831, k_837, k_843, k_849, k_855, k_861, k_867, k_873, k_879, k_885, k_891, k_897, k_903, k_909, k_915, k_921, k_927, k_933, k_939, k_940, k_945, k_944, k_943, k_942, k_941, k_399]) (ini := false) (FL := [21, 68]) (n := 11) (an := ak_946) (Z := zk_946) h_327 rfl (by decide +kernel) (KS_cons K_759 (KS_cons K_765 (KS_cons K_771 (KS_cons K_777 (KS_cons K_783 (KS_cons K_789 (KS_cons K_795 (KS_cons K_801 (KS_cons K_807 (KS_cons K_813 (KS_cons K_819 (KS_cons K_825 (KS_cons K_831 (KS_cons K_837 (KS_cons K_843 (KS_cons K_849 (KS_cons K_855 (KS_cons K_861 (KS_cons K_867 (KS_cons K_873 (KS_cons K_879 (KS_cons K_885 (KS_cons K_891 (KS_cons K_897 (KS_cons K_903 (KS_cons K_909 (KS_cons K_915 (KS_cons K_921 (KS_cons K_927 (KS_cons K_933 (KS_cons K_939 (KS_cons K_940 (KS_cons K_945 (KS_cons K_944 (KS_cons K_943 (KS_cons K_942 (KS_cons K_941 (KS_cons K_399 KS_nil)))))))))))))))))))))))))))))))))))))) (by decide +kernel) (by decide +kernel)
def k_947 : eK := (142, ((yu 1 ++ [ya 0 5] ++ yu 1), [yr 13, yi 0], [(13, yo 1 ([yr 14, yr 15, yi 1, yi 2])), (15, yt 1 5 ([yf 5]))], (16, [])), [((yu 1 ++ [ya 0 5] ++ yu 1), some (yn 0), [(13, yo 1 ([yr 14, yr 15, yi 1, yi 2])), (15, yt 1 5 ([yf 5]))], (16, [])), (([ya 0 4, ya 1 5] ++ yu 2), some (yi 3), [(13, yo 1 ([yr 14, yr 15, yi 1, yi 2])), (15, yt 1 5 ([yf 5]))], (16, []))], 0, 0, 1)
def ak_947 : List eAn := [(0, [], [], []), (0, [], [], []), (1, [yh 3 1], [], [])]
theorem K_947 {l : Launch} {D : va_G} {ca : Nat → ClassId} : KMet l D ca k_947 := K_gq (KS := []) (ini := false) (FL := []) (n := 15) (an := ak_947) h_142 rfl (by decide +kernel) KS_nil (by decide +kernel)
def k_948 : eK := (141, ((yu 1 ++ [ya 0 4, ya 0 5] ++ yu 1), [yr 13, yi 0], [(13, zc_97), (25, yo 1 ([yr 29, yr 30, yi 2, yi 3])), (30, yt 1 5 ([yf 5]))], (31, [])), [((yu 1 ++ [ya 0 4, ya 0 5] ++ yu 1), some (yn 0), [(13, zc_97), (25, yo 1 ([yr 29, yr 30, yi 2, yi 3])), (30, yt 1 5 ([yf 5]))], (31, [])), (([ya 0 4, ya 0 4, ya 1 5] ++ yu 2), some (yi 4), [(13, zc_97), (25, yo 1 ([yr 29, yr 30, yi 2, yi 3])), (30, yt 1 5 ([yf 5]))], (31, []))], 0, 0, 2)
def ak_948 : List eAn := [(0, [yh 0 1, yh 2 2], nas 0 13 ++ [25, 29, 30], []), (0, [], [], []), (1, [yh 4 1], [], [])]
theorem K_948 {l : Launch} {D : va_G} {ca : Nat → ClassId} : KMet l D ca k_948 := K_gq (KS := [k_947]) (ini := false) (FL := []) (n := 8) (an := ak_948) h_141 rfl (by decide +kernel) (KS_cons K_947 KS_nil) (by decide +kernel)
def zv_970 : eEv := [ya 0 4] ++ yu 1 ++ yR 5 (ya 0 940) ++ [ya 0 4] ++ yu 4 ++ yU 1 ++ yu 1 ++ [ya 0 8] ++ yu 1 ++ [ya 0 5] ++ yu 1 ++ [ya 0 5] ++ yu 1 ++ [ya 1 5] ++ yu 3 ++ [ya 0 64] ++ yu 1 ++ [ya 0 40, ya 0 1, ya 0 40, ya 0 20, ya 0 8, ya 0 39] ++ yu 1
def k_949 : eK := (331, (zv_101, [yr 13, yi 0], [(13, zc_82), (31, yt 1 5 ([yf 5]))], (37, ([(zb_9, [yg [(28, 2), (29, 3)] 0])]))), [(zv_101, some (yn 0), [(13, zc_102), (31, yt 1 5 ([yf 5]))], (37, ([(zb_9, [yg [(28, 2), (29, 3)] 0])]))), (zv_970, some (yi 32), [(13, zc_102), (31, yt 1 5 ([yf 5]))], (37, ([(zb_9, [yg [(28, 2), (29, 3)] 0])])))], 0, 0, 2)
def ak_949 : List eAn := [(0, [yh 0 1, ye (yg [(20, 2)] 1)], nas 0 13, []), (0, [], [], [[0, 0]]), (1, [yh 32 1], [], [[0, 0]])]
theorem K_949 {l : Launch} {D : va_G} {ca : Nat → ClassId} : KMet l D ca k_949 := K_gq (KS := [k_534]) (ini := false) (FL := []) (n := 20) (an := ak_949) h_331 rfl (by decide +kernel) (KS_cons K_534 KS_nil) (by decide +kernel)
def k_950 : eK := (53, (([ya 0 470]), [yi 0, yj 1, yj 8], [], (13, [])), [(([ya 0 470]), some (yj 0), [], (13, [])), (([ya 1 8]), some (yj 1), [], (13, []))], 0, 0, 1)
def ak_950 : List eAn := [(0, [], [], []), (0, [], [], []), (1, [], [], [])]
theorem K_950 {l : Launch} {D : va_G} {ca : Nat → ClassId} : KMet l D ca k_950 := K_gq (KS := []) (ini := false) (FL := []) (n := 12) (an := ak_950) h_53 rfl (by decide +kernel) KS_nil (by decide +kernel)
def zc_971 : eSC := yo 11 (yis 3 9 ++ [yr 15, yr 16, yr 17, yr 18, yr 19, yr 20, yr 21, yr 22, yr 23, yr 24, yr 25])
def zv_972 : eEv := yu 8 ++ [ya 0 5, ya 0 8, ya 0 6] ++ yu 1 ++ [yA 1 14]
def k_955 : eK := (145, ((yu 8 ++ [ya 0 5, ya 0 8, ya 0 6] ++ yu 1), [yr 13, yr 14], [(13, yo 6 (yis 0 3)), (14, zc_971), (19, yt 1 8 ([yf 8]))], (26, [])), [(zv_972, some (yi 12), [(13, yo 6 (yis 0 3)), (14, zc_971), (19, yt 1 8 ([yf 8]))], (26, []))], 0, 0, 1)
def ak_955 : List eAn := [(0, [ye (yk 0), ye (yk 101), ye (ym 0)], [], [])]
def zv_973 : eEv := yu 8 ++ [ya 0 5, ya 0 8, ya 0 6] ++ yu 1 ++ [ya 0 8, ya 0 2147483647, yA 1 14]
def zk_955 : List (eCut × Nat × List eAn) := [((8, zv_973, [(0, yr 13), (1, yr 14), (2, yi 14), (3, yi 13), (4, yi 12)], [], [(13, yo 6 (yis 0 3)), (14, zc_971), (19, yt 1 8 ([yf 8]))], (26, []), 0, 0, yg [(12, 1)] 16), 46, [(1000, [], [], []), (0, [yh 14 1], [], []), (0, [ye (yg [(12, 2)] 2), yh 13 2], [], []), (0, [ye (yg [(12, 2)] 2), yh 24 1, yh 12 1], [], [])])]
theorem K_955 {l : Launch} {D : va_G} {ca : Nat → ClassId} : KMet l D ca k_955 := K_gqL (KS := []) (ini := false) (FL := []) (n := 10) (an := ak_955) (Z := zk_955) h_145 rfl (by decide +kernel) KS_nil (by decide +kernel) (by decide +kernel)
