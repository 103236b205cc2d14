/-! contracts -/
def zv_2320 : eEv := [ya 97 97] ++ yu 1 ++ yR 5 (ya 0 940) ++ [ya 0 4] ++ yu 4 ++ yU 1 ++ [ya 0 5, ya 0 8] ++ yEm [yA 4294967295 4294967294, ya 0 5] 3 ++ yu 3 ++ [ya 0 64] ++ yu 1 ++ [ya 0 40, ya 0 1, ya 0 59, ya 0 20, ya 0 8, ya 0 59] ++ yEm [ya 0 3, ya 0 60] 40
def zf_2321 : List eFa := yFm (fun i => (zb_11, [yv (32 + 2 * i), yv (33 + 2 * i)])) 0 24 ++ [(zb_11, [yv 80, yv 13])] ++ yFm (fun i => (zb_11, [yv (82 + 2 * i), yv (83 + 2 * i)])) 0 15 ++ [(zb_9, [yg [(28, 2), (29, 3)] 0])]
def k_1865 : eK := (356, (zv_2320, [yr 13, yi 0, yj 1], [(13, zc_82), (34, zc_1792)], (37, zf_1793)), [(zv_2320, some (yj 1), [(13, zc_82), (34, zc_2215)], (37, zf_2321))], 0, 0, 1)
def ak_1865 : List eAn := [(0, [], [], hsr 0 24 ++ [[1, 24]] ++ hsr 25 16)]
theorem K_1865 {l : Launch} {D : va_G} {ca : Nat → ClassId} : KMet l D ca k_1865 := K_gq (KS := []) (ini := false) (FL := []) (n := 13) (an := ak_1865) h_356 rfl (by decide +kernel) KS_nil (by decide +kernel)
def zv_2322 : eEv := [ya 93 93] ++ yu 1 ++ yR 5 (ya 0 940) ++ [ya 0 4] ++ yu 4 ++ yU 1 ++ [ya 0 5, ya 0 8] ++ yEm [yA 4294967295 4294967294, ya 0 5] 3 ++ yu 3 ++ [ya 0 64] ++ yu 1 ++ [ya 0 40, ya 0 1, ya 0 59, ya 0 20, ya 0 8, ya 0 59] ++ yEm [ya 0 3, ya 0 60] 40
def zf_2323 : List eFa := yFm (fun i => (zb_11, [yv (32 + 2 * i), yv (33 + 2 * i)])) 0 23 ++ [(zb_11, [yv 78, yv 13])] ++ yFm (fun i => (zb_11, [yv (80 + 2 * i), yv (81 + 2 * i)])) 0 16 ++ [(zb_9, [yg [(28, 2), (29, 3)] 0])]
def k_1866 : eK := (356, (zv_2322, [yr 13, yi 0, yj 1], [(13, zc_82), (34, zc_1792)], (37, zf_1793)), [(zv_2322, some (yj 1), [(13, zc_82), (34, zc_2218)], (37, zf_2323))], 0, 0, 1)
def ak_1866 : List eAn := [(0, [], [], hsr 0 23 ++ [[1, 23]] ++ hsr 24 17)]
theorem K_1866 {l : Launch} {D : va_G} {ca : Nat → ClassId} : KMet l D ca k_1866 := K_gq (KS := []) (ini := false) (FL := []) (n := 13) (an := ak_1866) h_356 rfl (by decide +kernel) KS_nil (by decide +kernel)
def zv_2324 : eEv := [ya 89 89] ++ yu 1 ++ yR 5 (ya 0 940) ++ [ya 0 4] ++ yu 4 ++ yU 1 ++ [ya 0 5, ya 0 8] ++ yEm [yA 4294967295 4294967294, ya 0 5] 3 ++ yu 3 ++ [ya 0 64] ++ yu 1 ++ [ya 0 40, ya 0 1, ya 0 59, ya 0 20, ya 0 8, ya 0 59] ++ yEm [ya 0 3, ya 0 60] 40
def zf_2325 : List eFa := yFm (fun i => (zb_11, [yv (32 + 2 * i), yv (33 + 2 * i)])) 0 22 ++ [(zb_11, [yv 76, yv 13])] ++ yFm (fun i => (zb_11, [yv (78 + 2 * i), yv (79 + 2 * i)])) 0 17 ++ [(zb_9, [yg [(28, 2), (29, 3)] 0])]
def k_1867 : eK := (356, (zv_2324, [yr 13, yi 0, yj 1], [(13, zc_82), (34, zc_1792)], (37, zf_1793)), [(zv_2324, some (yj 1), [(13, zc_82), (34, zc_2221)], (37, zf_2325))], 0, 0, 1)
def ak_1867 : List eAn := [(0, [], [], hsr 0 22 ++ [[1, 22]] ++ hsr 23 18)]
theorem K_1867 {l : Launch} {D : va_G} {ca : Nat → ClassId} : KMet l D ca k_1867 := K_gq (KS := []) (ini := false) (FL := []) (n := 13) (an := ak_1867) h_356 rfl (by decide +kernel) KS_nil (by decide +kernel)
def zv_2326 : eEv := [ya 85 85] ++ yu 1 ++ yR 5 (ya 0 940) ++ [ya 0 4] ++ yu 4 ++ yU 1 ++ [ya 0 5, ya 0 8] ++ yEm [yA 4294967295 4294967294, ya 0 5] 3 ++ yu 3 ++ [ya 0 64] ++ yu 1 ++ [ya 0 40, ya 0 1, ya 0 59, ya 0 20, ya 0 8, ya 0 59] ++ yEm [ya 0 3, ya 0 60] 40
def zf_2327 : List eFa := yFm (fun i => (zb_11, [yv (32 + 2 * i), yv (33 + 2 * i)])) 0 21 ++ [(zb_11, [yv 74, yv 13])] ++ yFm (fun i => (zb_11, [yv (76 + 2 * i), yv (77 + 2 * i)])) 0 18 ++ [(zb_9, [yg [(28, 2), (29, 3)] 0])]
def k_1868 : eK := (356, (zv_2326, [yr 13, yi 0, yj 1], [(13, zc_82), (34, zc_1792)], (37, zf_1793)), [(zv_2326, some (yj 1), [(13, zc_82), (34, zc_2224)], (37, zf_2327))], 0, 0, 1)
def ak_1868 : List eAn := [(0, [], [], hsr 0 21 ++ [[1, 21]] ++ hsr 22 19)]
theorem K_1868 {l : Launch} {D : va_G} {ca : Nat → ClassId} : KMet l D ca k_1868 := K_gq (KS := []) (ini := false) (FL := []) (n := 13) (an := ak_1868) h_356 rfl (by decide +kernel) KS_nil (by decide +kernel)
def zv_2328 : eEv := [ya 81 81] ++ yu 1 ++ yR 5 (ya 0 940) ++ [ya 0 4] ++ yu 4 ++ yU 1 ++ [ya 0 5, ya 0 8] ++ yEm [yA 4294967295 4294967294, ya 0 5] 3 ++ yu 3 ++ [ya 0 64] ++ yu 1 ++ [ya 0 40, ya 0 1, ya 0 59, ya 0 20, ya 0 8, ya 0 59] ++ yEm [ya 0 3, ya 0 60] 40
def zf_2329 : List eFa := yFm (fun i => (zb_11, [yv (32 + 2 * i), yv (33 + 2 * i)])) 0 20 ++ [(zb_11, [yv 72, yv 13])] ++ yFm (fun i => (zb_11, [yv (74 + 2 * i), yv (75 + 2 * i)])) 0 19 ++ [(zb_9, [yg [(28, 2), (29, 3)] 0])]
def k_1869 : eK := (356, (zv_2328, [yr 13, yi 0, yj 1], [(13, zc_82), (34, zc_1792)], (37, zf_1793)), [(zv_2328, some (yj 1), [(13, zc_82), (34, zc_2227)], (37, zf_2329))], 0, 0, 1)
def ak_1869 : List eAn := [(0, [], [], hsr 0 20 ++ [[1, 20]] ++ hsr 21 20)]
theorem K_1869 {l : Launch} {D : va_G} {ca : Nat → ClassId} : KMet l D ca k_1869 := K_gq (KS := []) (ini := false) (FL := []) (n := 13) (an := ak_1869) h_356 rfl (by decide +kernel) KS_nil (by decide +kernel)
def zv_2330 : eEv := [ya 77 77] ++ yu 1 ++ yR 5 (ya 0 940) ++ [ya 0 4] ++ yu 4 ++ yU 1 ++ [ya 0 5, ya 0 8] ++ yEm [yA 4294967295 4294967294, ya 0 5] 3 ++ yu 3 ++ [ya 0 64] ++ yu 1 ++ [ya 0 40, ya 0 1, ya 0 59, ya 0 20, ya 0 8, ya 0 59] ++ yEm [ya 0 3, ya 0 60] 40
def zf_2331 : List eFa := yFm (fun i => (zb_11, [yv (32 + 2 * i), yv (33 + 2 * i)])) 0 19 ++ [(zb_11, [yv 70, yv 13])] ++ yFm (fun i => (zb_11, [yv (72 + 2 * i), yv (73 + 2 * i)])) 0 20 ++ [(zb_9, [yg [(28, 2), (29, 3)] 0])]
def k_1870 : eK := (356, (zv_2330, [yr 13, yi 0, yj 1], [(13, zc_82), (34, zc_1792)], (37, zf_1793)), [(zv_2330, some (yj 1), [(13, zc_82), (34, zc_2230)], (37, zf_2331))], 0, 0, 1)
def ak_1870 : List eAn := [(0, [], [], hsr 0 19 ++ [[1, 19]] ++ hsr 20 21)]
theorem K_1870 {l : Launch} {D : va_G} {ca : Nat → ClassId} : KMet l D ca k_1870 := K_gq (KS := []) (ini := false) (FL := []) (n := 13) (an := ak_1870) h_356 rfl (by decide +kernel) KS_nil (by decide +kernel)
def zv_2332 : eEv := [ya 73 73] ++ yu 1 ++ yR 5 (ya 0 940) ++ [ya 0 4] ++ yu 4 ++ yU 1 ++ [ya 0 5, ya 0 8] ++ yEm [yA 4294967295 4294967294, ya 0 5] 3 ++ yu 3 ++ [ya 0 64] ++ yu 1 ++ [ya 0 40, ya 0 1, ya 0 59, ya 0 20, ya 0 8, ya 0 59] ++ yEm [ya 0 3, ya 0 60] 40
def zf_2333 : List eFa := yFm (fun i => (zb_11, [yv (32 + 2 * i), yv (33 + 2 * i)])) 0 18 ++ [(zb_11, [yv 68, yv 13])] ++ yFm (fun i => (zb_11, [yv (70 + 2 * i), yv (71 + 2 * i)])) 0 21 ++ [(zb_9, [yg [(28, 2), (29, 3)] 0])]
def k_1871 : eK := (356, (zv_2332, [yr 13, yi 0, yj 1], [(13, zc_82), (34, zc_1792)], (37, zf_1793)), [(zv_2332, some (yj 1), [(13, zc_82), (34, zc_2233)], (37, zf_2333))], 0, 0, 1)
def ak_1871 : List eAn := [(0, [], [], hsr 0 18 ++ [[1, 18]] ++ hsr 19 22)]
theorem K_1871 {l : Launch} {D : va_G} {ca : Nat → ClassId} : KMet l D ca k_1871 := K_gq (KS := []) (ini := false) (FL := []) (n := 13) (an := ak_1871) h_356 rfl (by decide +kernel) KS_nil (by decide +kernel)
def zv_2334 : eEv := [ya 69 69] ++ yu 1 ++ yR 5 (ya 0 940) ++ [ya 0 4] ++ yu 4 ++ yU 1 ++ [ya 0 5, ya 0 8] ++ yEm [yA 4294967295 4294967294, ya 0 5] 3 ++ yu 3 ++ [ya 0 64] ++ yu 1 ++ [ya 0 40, ya 0 1, ya 0 59, ya 0 20, ya 0 8, ya 0 59] ++ yEm [ya 0 3, ya 0 60] 40
def zf_2335 : List eFa := yFm (fun i => (zb_11, [yv (32 + 2 * i), yv (33 + 2 * i)])) 0 17 ++ [(zb_11, [yv 66, yv 13])] ++ yFm (fun i => (zb_11, [yv (68 + 2 * i), yv (69 + 2 * i)])) 0 22 ++ [(zb_9, [yg [(28, 2), (29, 3)] 0])]
def k_1872 : eK := (356, (zv_2334, [yr 13, yi 0, yj 1], [(13, zc_82), (34, zc_1792)], (37, zf_1793)), [(zv_2334, some (yj 1), [(13, zc_82), (34, zc_2236)], (37, zf_2335))], 0, 0, 1)
def ak_1872 : List eAn := [(0, [], [], hsr 0 17 ++ [[1, 17]] ++ hsr 18 23)]
theorem K_1872 {l : Launch} {D : va_G} {ca : Nat → ClassId} : KMet l D ca k_1872 := K_gq (KS := []) (ini := false) (FL := []) (n := 13) (an := ak_1872) h_356 rfl (by decide +kernel) KS_nil (by decide +kernel)
def zv_2336 : eEv := [ya 65 65] ++ yu 1 ++ yR 5 (ya 0 940) ++ [ya 0 4] ++ yu 4 ++ yU 1 ++ [ya 0 5, ya 0 8] ++ yEm [yA 4294967295 4294967294, ya 0 5] 3 ++ yu 3 ++ [ya 0 64] ++ yu 1 ++ [ya 0 40, ya 0 1, ya 0 59, ya 0 20, ya 0 8, ya 0 59] ++ yEm [ya 0 3, ya 0 60] 40
def zf_2337 : List eFa := yFm (fun i => (zb_11, [yv (32 + 2 * i), yv (33 + 2 * i)])) 0 16 ++ [(zb_11, [yv 64, yv 13])] ++ yFm (fun i => (zb_11, [yv (66 + 2 * i), yv (67 + 2 * i)])) 0 23 ++ [(zb_9, [yg [(28, 2), (29, 3)] 0])]
def k_1873 : eK := (356, (zv_2336, [yr 13, yi 0, yj 1], [(13, zc_82), (34, zc_1792)], (37, zf_1793)), [(zv_2336, some (yj 1), [(13, zc_82), (34, zc_2239)], (37, zf_2337))], 0, 0, 1)
def ak_1873 : List eAn := [(0, [], [], hsr 0 16 ++ [[1, 16]] ++ hsr 17 24)]
theorem K_1873 {l : Launch} {D : va_G} {ca : Nat → ClassId} : KMet l D ca k_1873 := K_gq (KS := []) (ini := false) (FL := []) (n := 13) (an := ak_1873) h_356 rfl (by decide +kernel) KS_nil (by decide +kernel)
def zv_2338 : eEv := [ya 61 61] ++ yu 1 ++ yR 5 (ya 0 940) ++ [ya 0 4] ++ yu 4 ++ yU 1 ++ [ya 0 5, ya 0 8] ++ yEm [yA 4294967295 4294967294, ya 0 5] 3 ++ yu 3 ++ [ya 0 64] ++ yu 1 ++ [ya 0 40, ya 0 1, ya 0 59, ya 0 20, ya 0 8, ya 0 59] ++ yEm [ya 0 3, ya 0 60] 40
def zf_2339 : List eFa := yFm (fun i => (zb_11, [yv (32 + 2 * i), yv (33 + 2 * i)])) 0 15 ++ [(zb_11, [yv 62, yv 13])] ++ yFm (fun i => (zb_11, [yv (64 + 2 * i), yv (65 + 2 * i)])) 0 24 ++ [(zb_9, [yg [(28, 2), (29, 3)] 0])]
def k_1874 : eK := (356, (zv_2338, [yr 13, yi 0, yj 1], [(13, zc_82), (34, zc_1792)], (37, zf_1793)), [(zv_2338, some (yj 1), [(13, zc_82), (34, zc_2242)], (37, zf_2339))], 0, 0, 1)
def ak_1874 : List eAn := [(0, [], [], hsr 0 15 ++ [[1, 15]] ++ hsr 16 25)]
theorem K_1874 {l : Launch} {D : va_G} {ca : Nat → ClassId} : KMet l D ca k_1874 := K_gq (KS := []) (ini := false) (FL := []) (n := 13) (an := ak_1874) h_356 rfl (by decide +kernel) KS_nil (by decide +kernel)
def zv_2340 : eEv := [ya 57 57] ++ yu 1 ++ yR 5 (ya 0 940) ++ [ya 0 4] ++ yu 4 ++ yU 1 ++ [ya 0 5, ya 0 8] ++ yEm [yA 4294967295 4294967294, ya 0 5] 3 ++ yu 3 ++ [ya 0 64] ++ yu 1 ++ [ya 0 40, ya 0 1, ya 0 59, ya 0 20, ya 0 8, ya 0 59] ++ yEm [ya 0 3, ya 0 60] 40
def zf_2341 : List eFa := yFm (fun i => (zb_11, [yv (32 + 2 * i), yv (33 + 2 * i)])) 0 14 ++ [(zb_11, [yv 60, yv 13])] ++ yFm (fun i => (zb_11, [yv (62 + 2 * i), yv (63 + 2 * i)])) 0 25 ++ [(zb_9, [yg [(28, 2), (29, 3)] 0])]
def k_1875 : eK := (356, (zv_2340, [yr 13, yi 0, yj 1], [(13, zc_82), (34, zc_1792)], (37, zf_1793)), [(zv_2340, some (yj 1), [(13, zc_82), (34, zc_2245)], (37, zf_2341))], 0, 0, 1)
def ak_1875 : List eAn := [(0, [], [], hsr 0 14 ++ [[1, 14]] ++ hsr 15 26)]
theorem K_1875 {l : Launch} {D : va_G} {ca : Nat → ClassId} : KMet l D ca k_1875 := K_gq (KS := []) (ini := false) (FL := []) (n := 13) (an := ak_1875) h_356 rfl (by decide +kernel) KS_nil (by decide +kernel)
def zv_2342 : eEv := [ya 53 53] ++ yu 1 ++ yR 5 (ya 0 940) ++ [ya 0 4] ++ yu 4 ++ yU 1 ++ [ya 0 5, ya 0 8] ++ yEm [yA 4294967295 4294967294, ya 0 5] 3 ++ yu 3 ++ [ya 0 64] ++ yu 1 ++ [ya 0 40, ya 0 1, ya 0 59, ya 0 20, ya 0 8, ya 0 59] ++ yEm [ya 0 3, ya 0 60] 40
def zf_2343 : List eFa := yFm (fun i => (zb_11, [yv (32 + 2 * i), yv (33 + 2 * i)])) 0 13 ++ [(zb_11, [yv 58, yv 13])] ++ yFm (fun i => (zb_11, [yv (60 + 2 * i), yv (61 + 2 * i)])) 0 26 ++ [(zb_9, [yg [(28, 2), (29, 3)] 0])]
def k_1876 : eK := (356, (zv_2342, [yr 13, yi 0, yj 1], [(13, zc_82), (34, zc_1792)], (37, zf_1793)), [(zv_2342, some (yj 1), [(13, zc_82), (34, zc_2248)], (37, zf_2343))], 0, 0, 1)
def ak_1876 : List eAn := [(0, [], [], hsr 0 13 ++ [[1, 13]] ++ hsr 14 27)]
theorem K_1876 {l : Launch} {D : va_G} {ca : Nat → ClassId} : KMet l D ca k_1876 := K_gq (KS := []) (ini := false) (FL := []) (n := 13) (an := ak_1876) h_356 rfl (by decide +kernel) KS_nil (by decide +kernel)
def zv_2344 : eEv := [ya 49 49] ++ yu 1 ++ yR 5 (ya 0 940) ++ [ya 0 4] ++ yu 4 ++ yU 1 ++ [ya 0 5, ya 0 8] ++ yEm [yA 4294967295 4294967294, ya 0 5] 3 ++ yu 3 ++ [ya 0 64] ++ yu 1 ++ [ya 0 40, ya 0 1, ya 0 59, ya 0 20, ya 0 8, ya 0 59] ++ yEm [ya 0 3, ya 0 60] 40
def zf_2345 : List eFa := yFm (fun i => (zb_11, [yv (32 + 2 * i), yv (33 + 2 * i)])) 0 12 ++ [(zb_11, [yv 56, yv 13])] ++ yFm (fun i => (zb_11, [yv (58 + 2 * i), yv (59 + 2 * i)])) 0 27 ++ [(zb_9, [yg [(28, 2), (29, 3)] 0])]
def k_1877 : eK := (356, (zv_2344, [yr 13, yi 0, yj 1], [(13, zc_82), (34, zc_1792)], (37, zf_1793)), [(zv_2344, some (yj 1), [(13, zc_82), (34, zc_2251)], (37, zf_2345))], 0, 0, 1)
def ak_1877 : List eAn := [(0, [], [], hsr 0 12 ++ [[1, 12]] ++ hsr 13 28)]
theorem K_1877 {l : Launch} {D : va_G} {ca : Nat → ClassId} : KMet l D ca k_1877 := K_gq (KS := []) (ini := false) (FL := []) (n := 13) (an := ak_1877) h_356 rfl (by decide +kernel) KS_nil (by decide +kernel)
def zv_2346 : eEv := [ya 45 45] ++ yu 1 ++ yR 5 (ya 0 940) ++ [ya 0 4] ++ yu 4 ++ yU 1 ++ [ya 0 5, ya 0 8] ++ yEm [yA 4294967295 4294967294, ya 0 5] 3 ++ yu 3 ++ [ya 0 64] ++ yu 1 ++ [ya 0 40, ya 0 1, ya 0 59, ya 0 20, ya 0 8, ya 0 59] ++ yEm [ya 0 3, ya 0 60] 40
def zf_2347 : List eFa := yFm (fun i => (zb_11, [yv (32 + 2 * i), yv (33 + 2 * i)])) 0 11 ++ [(zb_11, [yv 54, yv 13])] ++ yFm (fun i => (zb_11, [yv (56 + 2 * i), yv (57 + 2 * i)])) 0 28 ++ [(zb_9, [yg [(28, 2), (29, 3)] 0])]
def k_1878 : eK := (356, (zv_2346, [yr 13, yi 0, yj 1], [(13, zc_82), (34, zc_1792)], (37, zf_1793)), [(zv_2346, some (yj 1), [(13, zc_82), (34, zc_2254)], (37, zf_2347))], 0, 0, 1)
def ak_1878 : List eAn := [(0, [], [], hsr 0 11 ++ [[1, 11]] ++ hsr 12 29)]
theorem K_1878 {l : Launch} {D : va_G} {ca : Nat → ClassId} : KMet l D ca k_1878 := K_gq (KS := []) (ini := false) (FL := []) (n := 13) (an := ak_1878) h_356 rfl (by decide +kernel) KS_nil (by decide +kernel)
def zv_2348 : eEv := [ya 41 41] ++ yu 1 ++ yR 5 (ya 0 940) ++ [ya 0 4] ++ yu 4 ++ yU 1 ++ [ya 0 5, ya 0 8] ++ yEm [yA 4294967295 4294967294, ya 0 5] 3 ++ yu 3 ++ [ya 0 64] ++ yu 1 ++ [ya 0 40, ya 0 1, ya 0 59, ya 0 20, ya 0 8, ya 0 59] ++ yEm [ya 0 3, ya 0 60] 40
def zf_2349 : List eFa := yFm (fun i => (zb_11, [yv (32 + 2 * i), yv (33 + 2 * i)])) 0 10 ++ [(zb_11, [yv 52, yv 13])] ++ yFm (fun i => (zb_11, [yv (54 + 2 * i), yv (55 + 2 * i)])) 0 29 ++ [(zb_9, [yg [(28, 2), (29, 3)] 0])]
def k_1879 : eK := (356, (zv_2348, [yr 13, yi 0, yj 1], [(13, zc_82), (34, zc_1792)], (37, zf_1793)), [(zv_2348, some (yj 1), [(13, zc_82), (34, zc_2257)], (37, zf_2349))], 0, 0, 1)
def ak_1879 : List eAn := [(0, [], [], hsr 0 10 ++ [[1, 10]] ++ hsr 11 30)]
theorem K_1879 {l : Launch} {D : va_G} {ca : Nat → ClassId} : KMet l D ca k_1879 := K_gq (KS := []) (ini := false) (FL := []) (n := 13) (an := ak_1879) h_356 rfl (by decide +kernel) KS_nil (by decide +kernel)
def zv_2350 : eEv := [ya 37 37] ++ yu 1 ++ yR 5 (ya 0 940) ++ [ya 0 4] ++ yu 4 ++ yU 1 ++ [ya 0 5, ya 0 8] ++ yEm [yA 4294967295 4294967294, ya 0 5] 3 ++ yu 3 ++ [ya 0 64] ++ yu 1 ++ [ya 0 40, ya 0 1, ya 0 59, ya 0 20, ya 0 8, ya 0 59] ++ yEm [ya 0 3, ya 0 60] 40
def zf_2351 : List eFa := yFm (fun i => (zb_11, [yv (32 + 2 * i), yv (33 + 2 * i)])) 0 9 ++ [(zb_11, [yv 50, yv 13])] ++ yFm (fun i => (zb_11, [yv (52 + 2 * i), yv (53 + 2 * i)])) 0 30 ++ [(zb_9, [yg [(28, 2), (29, 3)] 0])]
def k_1880 : eK := (356, (zv_2350, [yr 13, yi 0, yj 1], [(13, zc_82), (34, zc_1792)], (37, zf_1793)), [(zv_2350, some (yj 1), [(13, zc_82), (34, zc_2260)], (37, zf_2351))], 0, 0, 1)
def ak_1880 : List eAn := [(0, [], [], hsr 0 9 ++ [[1, 9]] ++ hsr 10 31)]
theorem K_1880 {l : Launch} {D : va_G} {ca : Nat → ClassId} : KMet l D ca k_1880 := K_gq (KS := []) (ini := false) (FL := []) (n := 13) (an := ak_1880) h_356 rfl (by decide +kernel) KS_nil (by decide +kernel)
def zv_2352 : eEv := [ya 33 33] ++ yu 1 ++ yR 5 (ya 0 940) ++ [ya 0 4] ++ yu 4 ++ yU 1 ++ [ya 0 5, ya 0 8] ++ yEm [yA 4294967295 4294967294, ya 0 5] 3 ++ yu 3 ++ [ya 0 64] ++ yu 1 ++ [ya 0 40, ya 0 1, ya 0 59, ya 0 20, ya 0 8, ya 0 59] ++ yEm [ya 0 3, ya 0 60] 40
def zf_2353 : List eFa := yFm (fun i => (zb_11, [yv (32 + 2 * i), yv (33 + 2 * i)])) 0 8 ++ [(zb_11, [yv 48, yv 13])] ++ yFm (fun i => (zb_11, [yv (50 + 2 * i), yv (51 + 2 * i)])) 0 31 ++ [(zb_9, [yg [(28, 2), (29, 3)] 0])]
def k_1881 : eK := (356, (zv_2352, [yr 13, yi 0, yj 1], [(13, zc_82), (34, zc_1792)], (37, zf_1793)), [(zv_2352, some (yj 1), [(13, zc_82), (34, zc_2263)], (37, zf_2353))], 0, 0, 1)
def ak_1881 : List eAn := [(0, [], [], hsr 0 8 ++ [[1, 8]] ++ hsr 9 32)]
theorem K_1881 {l : Launch} {D : va_G} {ca : Nat → ClassId} : KMet l D ca k_1881 := K_gq (KS := []) (ini := false) (FL := []) (n := 13) (an := ak_1881) h_356 rfl (by decide +kernel) KS_nil (by decide +kernel)
def zv_2354 : eEv := [ya 29 29] ++ yu 1 ++ yR 5 (ya 0 940) ++ [ya 0 4] ++ yu 4 ++ yU 1 ++ [ya 0 5, ya 0 8] ++ yEm [yA 4294967295 4294967294, ya 0 5] 3 ++ yu 3 ++ [ya 0 64] ++ yu 1 ++ [ya 0 40, ya 0 1, ya 0 59, ya 0 20, ya 0 8, ya 0 59] ++ yEm [ya 0 3, ya 0 60] 40
def zf_2355 : List eFa := yFm (fun i => (zb_11, [yv (32 + 2 * i), yv (33 + 2 * i)])) 0 7 ++ [(zb_11, [yv 46, yv 13])] ++ yFm (fun i => (zb_11, [yv (48 + 2 * i), yv (49 + 2 * i)])) 0 32 ++ [(zb_9, [yg [(28, 2), (29, 3)] 0])]
def k_1882 : eK := (356, (zv_2354, [yr 13, yi 0, yj 1], [(13, zc_82), (34, zc_1792)], (37, zf_1793)), [(zv_2354, some (yj 1), [(13, zc_82), (34, zc_2266)], (37, zf_2355))], 0, 0, 1)
def ak_1882 : List eAn := [(0, [], [], hsr 0 7 ++ [[1, 7]] ++ hsr 8 33)]
theorem K_1882 {l : Launch} {D : va_G} {ca : Nat → ClassId} : KMet l D ca k_1882 := K_gq (KS := []) (ini := false) (FL := []) (n := 13) (an := ak_1882) h_356 rfl (by decide +kernel) KS_nil (by decide +kernel)
def zv_2356 : eEv := [ya 25 25] ++ yu 1 ++ yR 5 (ya 0 940) ++ [ya 0 4] ++ yu 4 ++ yU 1 ++ [ya 0 5, ya 0 8] ++ yEm [yA 4294967295 4294967294, ya 0 5] 3 ++ yu 3 ++ [ya 0 64] ++ yu 1 ++ [ya 0 40, ya 0 1, ya 0 59, ya 0 20, ya 0 8, ya 0 59] ++ yEm [ya 0 3, ya 0 60] 40
def zf_2357 : List eFa := yFm (fun i => (zb_11, [yv (32 + 2 * i), yv (33 + 2 * i)])) 0 6 ++ [(zb_11, [yv 44, yv 13])] ++ yFm (fun i => (zb_11, [yv (46 + 2 * i), yv (47 + 2 * i)])) 0 33 ++ [(zb_9, [yg [(28, 2), (29, 3)] 0])]
def k_1883 : eK := (356, (zv_2356, [yr 13, yi 0, yj 1], [(13, zc_82), (34, zc_1792)], (37, zf_1793)), [(zv_2356, some (yj 1), [(13, zc_82), (34, zc_2269)], (37, zf_2357))], 0, 0, 1)
def ak_1883 : List eAn := [(0, [], [], hsr 0 6 ++ [[1, 6]] ++ hsr 7 34)]
theorem K_1883 {l : Launch} {D : va_G} {ca : Nat → ClassId} : KMet l D ca k_1883 := K_gq (KS := []) (ini := false) (FL := []) (n := 13) (an := ak_1883) h_356 rfl (by decide +kernel) KS_nil (by decide +kernel)
def zv_2358 : eEv := [ya 21 21] ++ yu 1 ++ yR 5 (ya 0 940) ++ [ya 0 4] ++ yu 4 ++ yU 1 ++ [ya 0 5, ya 0 8] ++ yEm [yA 4294967295 4294967294, ya 0 5] 3 ++ yu 3 ++ [ya 0 64] ++ yu 1 ++ [ya 0 40, ya 0 1, ya 0 59, ya 0 20, ya 0 8, ya 0 59] ++ yEm [ya 0 3, ya 0 60] 40
def zf_2359 : List eFa := yFm (fun i => (zb_11, [yv (32 + 2 * i), yv (33 + 2 * i)])) 0 5 ++ [(zb_11, [yv 42, yv 13])] ++ yFm (fun i => (zb_11, [yv (44 + 2 * i), yv (45 + 2 * i)])) 0 34 ++ [(zb_9, [yg [(28, 2), (29, 3)] 0])]
def k_1884 : eK := (356, (zv_2358, [yr 13, yi 0, yj 1], [(13, zc_82), (34, zc_1792)], (37, zf_1793)), [(zv_2358, some (yj 1), [(13, zc_82), (34, zc_2272)], (37, zf_2359))], 0, 0, 1)
def ak_1884 : List eAn := [(0, [], [], hsr 0 5 ++ [[1, 5]] ++ hsr 6 35)]
theorem K_1884 {l : Launch} {D : va_G} {ca : Nat → ClassId} : KMet l D ca k_1884 := K_gq (KS := []) (ini := false) (FL := []) (n := 13) (an := ak_1884) h_356 rfl (by decide +kernel) KS_nil (by decide +kernel)
def zv_2360 : eEv := [ya 17 17] ++ yu 1 ++ yR 5 (ya 0 940) ++ [ya 0 4] ++ yu 4 ++ yU 1 ++ [ya 0 5, ya 0 8] ++ yEm [yA 4294967295 4294967294, ya 0 5] 3 ++ yu 3 ++ [ya 0 64] ++ yu 1 ++ [ya 0 40, ya 0 1, ya 0 59, ya 0 20, ya 0 8, ya 0 59] ++ yEm [ya 0 3, ya 0 60] 40
def zf_2361 : List eFa := yFm (fun i => (zb_11, [yv (32 + 2 * i), yv (33 + 2 * i)])) 0 4 ++ [(zb_11, [yv 40, yv 13])] ++ yFm (fun i => (zb_11, [yv (42 + 2 * i), yv (43 + 2 * i)])) 0 35 ++ [(zb_9, [yg [(28, 2), (29, 3)] 0])]
def k_1885 : eK := (356, (zv_2360, [yr 13, yi 0, yj 1], [(13, zc_82), (34, zc_1792)], (37, zf_1793)), [(zv_2360, some (yj 1), [(13, zc_82), (34, zc_2275)], (37, zf_2361))], 0, 0, 1)
def ak_1885 : List eAn := [(0, [], [], hsr 0 4 ++ [[1, 4]] ++ hsr 5 36)]
theorem K_1885 {l : Launch} {D : va_G} {ca : Nat → ClassId} : KMet l D ca k_1885 := K_gq (KS := []) (ini := false) (FL := []) (n := 13) (an := ak_1885) h_356 rfl (by decide +kernel) KS_nil (by decide +kernel)
def zv_2362 : eEv := [ya 13 13] ++ yu 1 ++ yR 5 (ya 0 940) ++ [ya 0 4] ++ yu 4 ++ yU 1 ++ [ya 0 5, ya 0 8] ++ yEm [yA 4294967295 4294967294, ya 0 5] 3 ++ yu 3 ++ [ya 0 64] ++ yu 1 ++ [ya 0 40, ya 0 1, ya 0 59, ya 0 20, ya 0 8, ya 0 59] ++ yEm [ya 0 3, ya 0 60] 40
def zf_2363 : List eFa := [(zb_11, [yv 32, yv 33]), (zb_11, [yv 34, yv 35]), (zb_11, [yv 36, yv 37]), (zb_11, [yv 38, yv 13])] ++ yFm (fun i => (zb_11, [yv (40 + 2 * i), yv (41 + 2 * i)])) 0 36 ++ [(zb_9, [yg [(28, 2), (29, 3)] 0])]
def k_1886 : eK := (356, (zv_2362, [yr 13, yi 0, yj 1], [(13, zc_82), (34, zc_1792)], (37, zf_1793)), [(zv_2362, some (yj 1), [(13, zc_82), (34, zc_2278)], (37, zf_2363))], 0, 0, 1)
def ak_1886 : List eAn := [(0, [], [], hsr 0 3 ++ [[1, 3]] ++ hsr 4 37)]
theorem K_1886 {l : Launch} {D : va_G} {ca : Nat → ClassId} : KMet l D ca k_1886 := K_gq (KS := []) (ini := false) (FL := []) (n := 13) (an := ak_1886) h_356 rfl (by decide +kernel) KS_nil (by decide +kernel)
def zv_2364 : eEv := [ya 9 9] ++ yu 1 ++ yR 5 (ya 0 940) ++ [ya 0 4] ++ yu 4 ++ yU 1 ++ [ya 0 5, ya 0 8] ++ yEm [yA 4294967295 4294967294, ya 0 5] 3 ++ yu 3 ++ [ya 0 64] ++ yu 1 ++ [ya 0 40, ya 0 1, ya 0 59, ya 0 20, ya 0 8, ya 0 59] ++ yEm [ya 0 3, ya 0 60] 40
def zf_2365 : List eFa := [(zb_11, [yv 32, yv 33]), (zb_11, [yv 34, yv 35]), (zb_11, [yv 36, yv 13])] ++ yFm (fun i => (zb_11, [yv (38 + 2 * i), yv (39 + 2 * i)])) 0 37 ++ [(zb_9, [yg [(28, 2), (29, 3)] 0])]
def k_1887 : eK := (356, (zv_2364, [yr 13, yi 0, yj 1], [(13, zc_82), (34, zc_1792)], (37, zf_1793)), [(zv_2364, some (yj 1), [(13, zc_82), (34, zc_2281)], (37, zf_2365))], 0, 0, 1)
def ak_1887 : List eAn := [(0, [], [], [[0, 0], [0, 1], [1, 2]] ++ hsr 3 38)]
theorem K_1887 {l : Launch} {D : va_G} {ca : Nat → ClassId} : KMet l D ca k_1887 := K_gq (KS := []) (ini := false) (FL := []) (n := 13) (an := ak_1887) h_356 rfl (by decide +kernel) KS_nil (by decide +kernel)
def zv_2366 : eEv := [ya 5 5] ++ yu 1 ++ yR 5 (ya 0 940) ++ [ya 0 4] ++ yu 4 ++ yU 1 ++ [ya 0 5, ya 0 8] ++ yEm [yA 4294967295 4294967294, ya 0 5] 3 ++ yu 3 ++ [ya 0 64] ++ yu 1 ++ [ya 0 40, ya 0 1, ya 0 59, ya 0 20, ya 0 8, ya 0 59] ++ yEm [ya 0 3, ya 0 60] 40
def zf_2367 : List eFa := [(zb_11, [yv 32, yv 33]), (zb_11, [yv 34, yv 13])] ++ yFm (fun i => (zb_11, [yv (36 + 2 * i), yv (37 + 2 * i)])) 0 38 ++ [(zb_9, [yg [(28, 2), (29, 3)] 0])]
def k_1888 : eK := (356, (zv_2366, [yr 13, yi 0, yj 1], [(13, zc_82), (34, zc_1792)], (37, zf_1793)), [(zv_2366, some (yj 1), [(13, zc_82), (34, zc_2284)], (37, zf_2367))], 0, 0, 1)
def ak_1888 : List eAn := [(0, [], [], [[0, 0], [1, 1]] ++ hsr 2 39)]
theorem K_1888 {l : Launch} {D : va_G} {ca : Nat → ClassId} : KMet l D ca k_1888 := K_gq (KS := []) (ini := false) (FL := []) (n := 13) (an := ak_1888) h_356 rfl (by decide +kernel) KS_nil (by decide +kernel)
def zv_2368 : eEv := [ya 1 1] ++ yu 1 ++ yR 5 (ya 0 940) ++ [ya 0 4] ++ yu 4 ++ yU 1 ++ [ya 0 5, ya 0 8] ++ yEm [yA 4294967295 4294967294, ya 0 5] 3 ++ yu 3 ++ [ya 0 64] ++ yu 1 ++ [ya 0 40, ya 0 1, ya 0 59, ya 0 20, ya 0 8, ya 0 59] ++ yEm [ya 0 3, ya 0 60] 40
def zf_2369 : List eFa := [(zb_11, [yv 32, yv 13])] ++ yFm (fun i => (zb_11, [yv (34 + 2 * i), yv (35 + 2 * i)])) 0 39 ++ [(zb_9, [yg [(28, 2), (29, 3)] 0])]
def k_1889 : eK := (356, (zv_2368, [yr 13, yi 0, yj 1], [(13, zc_82), (34, zc_1792)], (37, zf_1793)), [(zv_2368, some (yj 1), [(13, zc_82), (34, zc_2287)], (37, zf_2369))], 0, 0, 1)
def ak_1889 : List eAn := [(0, [], [], [[1, 0]] ++ hsr 1 40)]
theorem K_1889 {l : Launch} {D : va_G} {ca : Nat → ClassId} : KMet l D ca k_1889 := K_gq (KS := []) (ini := false) (FL := []) (n := 13) (an := ak_1889) h_356 rfl (by decide +kernel) KS_nil (by decide +kernel)
