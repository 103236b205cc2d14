/-! contracts -/
def k_729 : eK := (317, ([], [.inr (.inr (some 0))], [(0, z_83), (2, z_280), (6, z_285)], 24), [([], none, [(0, z_83), (2, z_286), (6, z_285)], 24)], 0, 0, 1)
def ak_729 : List eAn := [(0, [], [])]
theorem K_729 {l : Launch} {D : va_G} {ca : Nat → ClassId} : KMet l D ca k_729 := K_go (KS := []) (ini := false) (n := 548) (an := ak_729) (by decide +kernel) C_317_ok KS_nil (by decide +kernel)
def k_730 : eK := (315, ([(57, 57)], [.inr (.inr (some 0)), .inl ([(0, 1)], 0)], [(0, z_83), (2, z_88), (6, z_93)], 24), [([(57, 57)], some (.inl ([], 1)), [], 24)], 0, 0, 5)
def ak_730 : List eAn := [(0, [([(0, 1)], 0)], []), (1, [], List.range 24), (2, [([(0, 1)], 0)], List.range 24), (3, [], List.range 24), (0, [], [])]
theorem K_730 {l : Launch} {D : va_G} {ca : Nat → ClassId} : KMet l D ca k_730 := K_go (KS := [k_725, k_426, k_728, k_729]) (ini := false) (n := 33) (an := ak_730) (by decide +kernel) C_315_ok (KS_cons K_725 (KS_cons K_426 (KS_cons K_728 (KS_cons K_729 KS_nil)))) (by decide +kernel)
def k_731 : eK := (272, ([(58, 60)], [.inl ([(0, 1)], 0), .inl ([], 0), .inl ([], 60)], [], 0), [([(58, 60)], some (.inl ([], 1)), [], 0)], 0, 0, 1)
def ak_731 : List eAn := [(0, [], [])]
theorem K_731 {l : Launch} {D : va_G} {ca : Nat → ClassId} : KMet l D ca k_731 := K_go (KS := []) (ini := false) (n := 11) (an := ak_731) (by decide +kernel) C_272_ok KS_nil (by decide +kernel)
def k_732 : eK := (313, ([], [.inr (.inr (some 0)), .inl ([], 57), .inl ([], 1), .inl ([], 1)], [(0, z_83), (2, z_280)], 24), [([], some (.inl ([], 0)), [(0, z_83), (2, z_280)], 24)], 0, 0, 2)
def ak_732 : List eAn := [(0, [], []), (0, [], [])]
theorem K_732 {l : Launch} {D : va_G} {ca : Nat → ClassId} : KMet l D ca k_732 := K_go (KS := [k_355]) (ini := false) (n := 23) (an := ak_732) (by decide +kernel) C_313_ok (KS_cons K_355 KS_nil) (by decide +kernel)
def k_733 : eK := (312, ([], [.inr (.inr (some 0))], [(0, z_83), (2, z_280)], 24), [([], none, [(0, z_83), (2, z_281)], 24)], 0, 0, 3)
def ak_733 : List eAn := [(0, [], List.range 24), (0, [], [])]
theorem K_733 {l : Launch} {D : va_G} {ca : Nat → ClassId} : KMet l D ca k_733 := K_go (KS := [k_732]) (ini := false) (n := 46) (an := ak_733) (by decide +kernel) C_312_ok (KS_cons K_732 KS_nil) (by decide +kernel)
def k_734 : eK := (313, ([], [.inr (.inr (some 0)), .inl ([], 58), .inl ([], 0), .inl ([], 1)], [(0, z_83), (2, z_281)], 24), [([], some (.inl ([], 0)), [(0, z_83), (2, z_281)], 24)], 0, 0, 1)
def ak_734 : List eAn := [(0, [], [])]
theorem K_734 {l : Launch} {D : va_G} {ca : Nat → ClassId} : KMet l D ca k_734 := K_go (KS := []) (ini := false) (n := 22) (an := ak_734) (by decide +kernel) C_313_ok KS_nil (by decide +kernel)
def k_735 : eK := (312, ([], [.inr (.inr (some 0))], [(0, z_83), (2, z_281)], 24), [([], none, [(0, z_83), (2, z_282)], 24)], 0, 0, 2)
def ak_735 : List eAn := [(0, [], List.range 24), (0, [], [])]
theorem K_735 {l : Launch} {D : va_G} {ca : Nat → ClassId} : KMet l D ca k_735 := K_go (KS := [k_734]) (ini := false) (n := 46) (an := ak_735) (by decide +kernel) C_312_ok (KS_cons K_734 KS_nil) (by decide +kernel)
def k_736 : eK := (313, ([], [.inr (.inr (some 0)), .inl ([], 59), .inl ([], 0), .inl ([], 1)], [(0, z_83), (2, z_282)], 24), [([], some (.inl ([], 0)), [(0, z_83), (2, z_282)], 24)], 0, 0, 1)
def ak_736 : List eAn := [(0, [], [])]
theorem K_736 {l : Launch} {D : va_G} {ca : Nat → ClassId} : KMet l D ca k_736 := K_go (KS := []) (ini := false) (n := 22) (an := ak_736) (by decide +kernel) C_313_ok KS_nil (by decide +kernel)
def k_737 : eK := (312, ([], [.inr (.inr (some 0))], [(0, z_83), (2, z_282)], 24), [([], none, [(0, z_83), (2, z_283)], 24)], 0, 0, 2)
def ak_737 : List eAn := [(0, [], List.range 24), (0, [], [])]
theorem K_737 {l : Launch} {D : va_G} {ca : Nat → ClassId} : KMet l D ca k_737 := K_go (KS := [k_736]) (ini := false) (n := 46) (an := ak_737) (by decide +kernel) C_312_ok (KS_cons K_736 KS_nil) (by decide +kernel)
def k_738 : eK := (310, ([(58, 60)], [.inr (.inr (some 0)), .inl ([(0, 1)], 0)], [(0, z_83), (2, z_88)], 24), [([(58, 58)], some (.inl ([(0, 1)], 0)), [(0, z_83), (2, z_281)], 24), ([(59, 59)], some (.inl ([(0, 1)], 0)), [(0, z_83), (2, z_282)], 24), ([(60, 60)], some (.inl ([(0, 1)], 0)), [(0, z_83), (2, z_283)], 24)], 0, 0, 4)
def ak_738 : List eAn := [(0, [([(0, 1)], 0)], []), (1, [], List.range 24), (2, [], List.range 24), (3, [], List.range 24), (4, [], List.range 24), (5, [], List.range 24), (6, [], List.range 24), (7, [], List.range 24), (8, [], List.range 24), (9, [], List.range 24), (10, [], List.range 24), (11, [], List.range 24), (12, [], List.range 24), (13, [], List.range 24), (14, [], List.range 24), (15, [], List.range 24), (16, [], List.range 24), (17, [], List.range 24), (18, [], List.range 24), (19, [], List.range 24), (20, [], List.range 24), (21, [], List.range 24), (22, [], List.range 24), (23, [], List.range 24), (24, [], List.range 24), (25, [], List.range 24), (26, [], List.range 24), (27, [], List.range 24), (28, [], List.range 24), (29, [], List.range 24), (30, [], List.range 24), (31, [], List.range 24), (32, [], List.range 24), (33, [], List.range 24), (34, [], List.range 24), (35, [], List.range 24), (36, [], List.range 24), (37, [], List.range 24), (38, [], List.range 24), (39, [], List.range 24), (40, [], List.range 24), (41, [], List.range 24), (42, [], List.range 24), (43, [], List.range 24), (44, [], List.range 24), (45, [], List.range 24), (46, [], List.range 24), (47, [], List.range 24), (48, [], List.range 24), (49, [], List.range 24), (50, [], List.range 24), (51, [], List.range 24), (52, [], List.range 24), (53, [], List.range 24), (54, [], List.range 24), (55, [], List.range 24), (56, [], List.range 24), (57, [], List.range 24), (58, [], List.range 24), (0, [], []), (59, [], List.range 24), (1, [], []), (60, [], List.range 24), (2, [], [])]
theorem K_738 {l : Launch} {D : va_G} {ca : Nat → ClassId} : KMet l D ca k_738 := K_go (KS := [k_273, k_433, k_439, k_445, k_451, k_457, k_463, k_469, k_475, k_481, k_487, k_493, k_499, k_505, k_511, k_517, k_523, k_529, k_535, k_541, k_547, k_553, k_559, k_565, k_571, k_577, k_583, k_589, k_595, k_601, k_607, k_613, k_619, k_621, k_623, k_631, k_637, k_643, k_645, k_647, k_649, k_651, k_661, k_667, k_673, k_675, k_677, k_679, k_681, k_691, k_697, k_703, k_705, k_707, k_709, k_711, k_721, k_727, k_733, k_735, k_737]) (ini := false) (n := 438) (an := ak_738) (by decide +kernel) C_310_ok (KS_cons K_273 (KS_cons K_433 (KS_cons K_439 (KS_cons K_445 (KS_cons K_451 (KS_cons K_457 (KS_cons K_463 (KS_cons K_469 (KS_cons K_475 (KS_cons K_481 (KS_cons K_487 (KS_cons K_493 (KS_cons K_499 (KS_cons K_505 (KS_cons K_511 (KS_cons K_517 (KS_cons K_523 (KS_cons K_529 (KS_cons K_535 (KS_cons K_541 (KS_cons K_547 (KS_cons K_553 (KS_cons K_559 (KS_cons K_565 (KS_cons K_571 (KS_cons K_577 (KS_cons K_583 (KS_cons K_589 (KS_cons K_595 (KS_cons K_601 (KS_cons K_607 (KS_cons K_613 (KS_cons K_619 (KS_cons K_621 (KS_cons K_623 (KS_cons K_631 (KS_cons K_637 (KS_cons K_643 (KS_cons K_645 (KS_cons K_647 (KS_cons K_649 (KS_cons K_651 (KS_cons K_661 (KS_cons K_667 (KS_cons K_673 (KS_cons K_675 (KS_cons K_677 (KS_cons K_679 (KS_cons K_681 (KS_cons K_691 (KS_cons K_697 (KS_cons K_703 (KS_cons K_705 (KS_cons K_707 (KS_cons K_709 (KS_cons K_711 (KS_cons K_721 (KS_cons K_727 (KS_cons K_733 (KS_cons K_735 (KS_cons K_737 KS_nil))))))))))))))))))))))))))))))))))))))))))))))))))))))))))))) (by decide +kernel)
def k_739 : eK := (317, ([], [.inr (.inr (some 0))], [(0, z_83), (2, z_281), (6, z_285)], 24), [([], none, [(0, z_83), (2, z_286), (6, z_285)], 24)], 0, 0, 1)
def ak_739 : List eAn := [(0, [], [])]
theorem K_739 {l : Launch} {D : va_G} {ca : Nat → ClassId} : KMet l D ca k_739 := K_go (KS := []) (ini := false) (n := 548) (an := ak_739) (by decide +kernel) C_317_ok KS_nil (by decide +kernel)
def k_740 : eK := (317, ([], [.inr (.inr (some 0))], [(0, z_83), (2, z_282), (6, z_285)], 24), [([], none, [(0, z_83), (2, z_286), (6, z_285)], 24)], 0, 0, 1)
def ak_740 : List eAn := [(0, [], [])]
theorem K_740 {l : Launch} {D : va_G} {ca : Nat → ClassId} : KMet l D ca k_740 := K_go (KS := []) (ini := false) (n := 548) (an := ak_740) (by decide +kernel) C_317_ok KS_nil (by decide +kernel)
def k_741 : eK := (317, ([], [.inr (.inr (some 0))], [(0, z_83), (2, z_283), (6, z_285)], 24), [([], none, [(0, z_83), (2, z_286), (6, z_285)], 24)], 0, 0, 1)
def ak_741 : List eAn := [(0, [], [])]
theorem K_741 {l : Launch} {D : va_G} {ca : Nat → ClassId} : KMet l D ca k_741 := K_go (KS := []) (ini := false) (n := 548) (an := ak_741) (by decide +kernel) C_317_ok KS_nil (by decide +kernel)
def k_742 : eK := (315, ([(58, 60)], [.inr (.inr (some 0)), .inl ([(0, 1)], 0)], [(0, z_83), (2, z_88), (6, z_93)], 24), [([(58, 60)], some (.inl ([], 0)), [], 24)], 0, 0, 5)
def ak_742 : List eAn := [(0, [([(0, 1)], 0)], []), (1, [], List.range 24), (2, [([(0, 1)], 0)], List.range 24), (3, [], List.range 24), (0, [], []), (4, [], List.range 24), (0, [], []), (5, [], List.range 24), (0, [], [])]
theorem K_742 {l : Launch} {D : va_G} {ca : Nat → ClassId} : KMet l D ca k_742 := K_go (KS := [k_731, k_426, k_738, k_739, k_740, k_741]) (ini := false) (n := 33) (an := ak_742) (by decide +kernel) C_315_ok (KS_cons K_731 (KS_cons K_426 (KS_cons K_738 (KS_cons K_739 (KS_cons K_740 (KS_cons K_741 KS_nil)))))) (by decide +kernel)
def k_59 : eK := (91, ([((-2147483648), 2147483647)], [.inr (.inr (some 0)), .inl ([(0, 1)], 0)], [(0, z_51), (2, z_138)], 27), [([((-2147483648), (-1))], some (.inl ([], 0)), [(0, z_51), (2, z_138)], 27), ([(0, 2147483647)], some (.inl ([], 0)), [(0, z_51), (2, z_138)], 27)], 0, 0, 1)
def ak_59 : List eAn := [(0, [], []), (1, [], [])]
theorem K_59 {l : Launch} {D : va_G} {ca : Nat → ClassId} : KMet l D ca k_59 := K_go (KS := []) (ini := false) (n := 11) (an := ak_59) (by decide +kernel) C_91_ok KS_nil (by decide +kernel)
def k_743 : eK := (115, ([((-2147483648), 2147483647), ((-2147483648), 2147483647)], [.inr (.inr (some 0)), .inl ([(0, 1)], 0), .inl ([(1, 1)], 0)], [(0, z_51), (2, z_138)], 27), [([((-2147483648), 2147483647), ((-2147483648), 2147483647)], some (.inl ([], (-1))), [], 27)], 0, 0, 2)
def ak_743 : List eAn := [(0, [([(0, 1)], 0)], List.range 27), (0, [], []), (0, [], [])]
theorem K_743 {l : Launch} {D : va_G} {ca : Nat → ClassId} : KMet l D ca k_743 := K_go (KS := [k_59]) (ini := false) (n := 8) (an := ak_743) (by decide +kernel) C_115_ok (KS_cons K_59 KS_nil) (by decide +kernel)
def k_744 : eK := (290, ([((-2147483648), 2147483647)], [.inr (.inr (some 0)), .inl ([(0, 1)], 0)], [(0, z_83), (2, z_88)], 24), [([((-2147483648), (-1))], some (.inl ([], 0)), [(0, z_83), (2, z_88)], 24), ([(0, 2147483647)], some (.inl ([], 0)), [(0, z_83), (2, z_88)], 24)], 0, 0, 2)
def ak_744 : List eAn := [(0, [([(0, 1)], 0)], []), (0, [], []), (1, [], [])]
theorem K_744 {l : Launch} {D : va_G} {ca : Nat → ClassId} : KMet l D ca k_744 := K_go (KS := [k_88]) (ini := false) (n := 12) (an := ak_744) (by decide +kernel) C_290_ok (KS_cons K_88 KS_nil) (by decide +kernel)
def k_745 : eK := (318, ([((-2147483648), 2147483647), ((-2147483648), 2147483647)], [.inr (.inr (some 0)), .inl ([(0, 1)], 0), .inl ([(1, 1)], 0)], [(0, z_83), (2, z_88)], 24), [([((-2147483648), 2147483647), ((-2147483648), 2147483647)], some (.inl ([], (-1))), [], 24)], 0, 0, 3)
def ak_745 : List eAn := [(0, [([(0, 1)], 0)], List.range 24), (0, [], []), (0, [], [])]
theorem K_745 {l : Launch} {D : va_G} {ca : Nat → ClassId} : KMet l D ca k_745 := K_go (KS := [k_744]) (ini := false) (n := 11) (an := ak_745) (by decide +kernel) C_318_ok (KS_cons K_744 KS_nil) (by decide +kernel)
def k_746 : eK := (116, ([((-2147483648), 2147483647)], [.inr (.inr (some 0)), .inl ([(0, 1)], 0)], [(0, z_51), (2, z_138)], 27), [([((-2147483648), 2147483647)], some (.inl ([], (-1))), [], 27)], 0, 0, 2)
def ak_746 : List eAn := [(0, [([(0, 1)], 0)], List.range 27), (0, [], []), (0, [], [])]
theorem K_746 {l : Launch} {D : va_G} {ca : Nat → ClassId} : KMet l D ca k_746 := K_go (KS := [k_59]) (ini := false) (n := 8) (an := ak_746) (by decide +kernel) C_116_ok (KS_cons K_59 KS_nil) (by decide +kernel)
def k_747 : eK := (319, ([((-2147483648), 2147483647)], [.inr (.inr (some 0)), .inl ([(0, 1)], 0)], [(0, z_83), (2, z_88)], 24), [([((-2147483648), 2147483647)], some (.inl ([], (-1))), [], 24)], 0, 0, 3)
def ak_747 : List eAn := [(0, [([(0, 1)], 0)], List.range 24), (0, [], []), (0, [], [])]
theorem K_747 {l : Launch} {D : va_G} {ca : Nat → ClassId} : KMet l D ca k_747 := K_go (KS := [k_744]) (ini := false) (n := 11) (an := ak_747) (by decide +kernel) C_319_ok (KS_cons K_744 KS_nil) (by decide +kernel)
def k_748 : eK := (22, ([], [.inr (.inr (some 0))], [(0, z_1)], 2), [([], some (.inl ([], 0)), [(0, z_1)], 2)], 0, 0, 1)
def ak_748 : List eAn := [(0, [], [])]
theorem K_748 {l : Launch} {D : va_G} {ca : Nat → ClassId} : KMet l D ca k_748 := K_go (KS := []) (ini := false) (n := 5) (an := ak_748) (by decide +kernel) C_22_ok KS_nil (by decide +kernel)
def k_749 : eK := (53, ([], [.inl ([], 0), .inl ([], 1), .inl ([], 5)], [], 0), [([], some (.inl ([], 0)), [], 0)], 0, 0, 1)
def ak_749 : List eAn := [(0, [], [])]
theorem K_749 {l : Launch} {D : va_G} {ca : Nat → ClassId} : KMet l D ca k_749 := K_go (KS := []) (ini := false) (n := 7) (an := ak_749) (by decide +kernel) C_53_ok KS_nil (by decide +kernel)
def z_287 : eSC := .inl (10, [.inr (.inr (some 3)), .inl ([], 0), .inl ([], 0), .inl ([], 0), .inl ([], 0), .inl ([], 0), .inl ([], 0), .inl ([], 0), .inr (.inl ([], 0)), .inl ([], 0), .inl ([], 0)])
def k_750 : eK := (118, ([], [.inr (.inr (some 0)), .inr (.inr (some 1)), .inr (.inr (some 2))], [(1, z_287)], 4), [([], some (.inl ([], 0)), [(1, z_287)], 4)], 0, 0, 2)
def ak_750 : List eAn := [(0, [], [1, 3]), (0, [], [1, 3]), (1, [], []), (0, [], [])]
theorem K_750 {l : Launch} {D : va_G} {ca : Nat → ClassId} : KMet l D ca k_750 := K_go (KS := [k_748, k_749]) (ini := false) (n := 19) (an := ak_750) (by decide +kernel) C_118_ok (KS_cons K_748 (KS_cons K_749 KS_nil)) (by decide +kernel)
def k_751 : eK := (76, ([], [.inr (.inr (some 0))], [(0, z_1)], 2), [([], none, [(0, z_1)], 2)], 0, 0, 1)
def ak_751 : List eAn := [(0, [], [])]
theorem K_751 {l : Launch} {D : va_G} {ca : Nat → ClassId} : KMet l D ca k_751 := K_go (KS := []) (ini := false) (n := 6) (an := ak_751) (by decide +kernel) C_76_ok KS_nil (by decide +kernel)
def z_288 : eSC := .inl (9, [.inr (.inr (some 17)), .inr (.inr (some 18)), .inr (.inr (some 19)), .inr (.inr (some 20)), .inr (.inr (some 21)), .inl ([], 0), .inl ([], 0)])
def k_752 : eK := (117, ([], [.inr (.inr (some 0))], [(0, z_51), (1, z_52), (10, z_288)], 22), [([], some (.inl ([], (-1))), [], 22)], 0, 0, 3)
def ak_752 : List eAn := [(0, [], [10, 1, 2, 16]), (1, [], [1, 16]), (0, [], [])]
theorem K_752 {l : Launch} {D : va_G} {ca : Nat → ClassId} : KMet l D ca k_752 := K_go (KS := [k_750, k_751]) (ini := false) (n := 17) (an := ak_752) (by decide +kernel) C_117_ok (KS_cons K_750 (KS_cons K_751 KS_nil)) (by decide +kernel)
def k_753 : eK := (272, ([], [.inl ([], 0), .inl ([], 1), .inl ([], 5)], [], 0), [([], some (.inl ([], 0)), [], 0)], 0, 0, 1)
def ak_753 : List eAn := [(0, [], [])]
theorem K_753 {l : Launch} {D : va_G} {ca : Nat → ClassId} : KMet l D ca k_753 := K_go (KS := []) (ini := false) (n := 7) (an := ak_753) (by decide +kernel) C_272_ok KS_nil (by decide +kernel)
def k_754 : eK := (320, ([], [.inr (.inr (some 0))], [(0, z_83)], 24), [([], some (.inl ([], (-1))), [], 24)], 0, 0, 2)
def ak_754 : List eAn := [(0, [], List.range 24), (1, [], []), (0, [], [])]
theorem K_754 {l : Launch} {D : va_G} {ca : Nat → ClassId} : KMet l D ca k_754 := K_go (KS := [k_51, k_753]) (ini := false) (n := 21) (an := ak_754) (by decide +kernel) C_320_ok (KS_cons K_51 (KS_cons K_753 KS_nil)) (by decide +kernel)
def k_755 : eK := (125, ([((-2147483648), 2147483647)], [.inr (.inr (some 0)), .inl ([(0, 1)], 0)], [(0, z_35)], 6), [([((-2147483648), (-1))], some (.inl ([], (-1))), [(0, z_35)], 6), ([(0, 2147483647)], some (.inl ([], (-1))), [(0, z_35)], 6)], 0, 0, 1)
def ak_755 : List eAn := [(0, [], []), (1, [], [])]
theorem K_755 {l : Launch} {D : va_G} {ca : Nat → ClassId} : KMet l D ca k_755 := K_go (KS := []) (ini := false) (n := 10) (an := ak_755) (by decide +kernel) C_125_ok KS_nil (by decide +kernel)
def z_289 : eSC := .inl (9, [.inr (.inr (some 16)), .inr (.inr (some 17)), .inr (.inr (some 18)), .inr (.inr (some 19)), .inr (.inr (some 20)), .inl ([], 0), .inl ([], 0)])
def k_756 : eK := (124, ([((-2147483648), 2147483647)], [.inr (.inr (some 0)), .inl ([(0, 1)], 0)], [(0, z_51), (10, z_289)], 21), [([((-2147483648), 2147483647)], some (.inl ([], (-1))), [], 21)], 0, 0, 2)
def ak_756 : List eAn := [(0, [([(0, 1)], 0)], [10, 16, 17, 18, 19, 20]), (0, [], []), (0, [], [])]
theorem K_756 {l : Launch} {D : va_G} {ca : Nat → ClassId} : KMet l D ca k_756 := K_go (KS := [k_755]) (ini := false) (n := 7) (an := ak_756) (by decide +kernel) C_124_ok (KS_cons K_755 KS_nil) (by decide +kernel)
def k_757 : eK := (324, ([((-2147483648), 2147483647)], [.inr (.inr (some 0)), .inl ([(0, 1)], 0)], [(0, z_83)], 24), [([((-2147483648), 2147483647)], some (.inl ([], (-1))), [], 24)], 0, 0, 2)
def ak_757 : List eAn := [(0, [([(0, 1)], 0)], []), (0, [], []), (0, [], [])]
theorem K_757 {l : Launch} {D : va_G} {ca : Nat → ClassId} : KMet l D ca k_757 := K_go (KS := [k_88]) (ini := false) (n := 15) (an := ak_757) (by decide +kernel) C_324_ok (KS_cons K_88 KS_nil) (by decide +kernel)
def k_758 : eK := (126, ([((-2147483648), 2147483647), ((-2147483648), 2147483647)], [.inr (.inr (some 0)), .inl ([(0, 1)], 0), .inl ([(1, 1)], 0)], [(0, z_51), (2, z_138)], 27), [([((-2147483648), 2147483647), ((-2147483648), 2147483647)], some (.inl ([], (-1))), [], 27)], 0, 0, 2)
def ak_758 : List eAn := [(0, [([(0, 1)], 0)], List.range 27), (0, [], []), (0, [], [])]
theorem K_758 {l : Launch} {D : va_G} {ca : Nat → ClassId} : KMet l D ca k_758 := K_go (KS := [k_59]) (ini := false) (n := 8) (an := ak_758) (by decide +kernel) C_126_ok (KS_cons K_59 KS_nil) (by decide +kernel)
def k_759 : eK := (325, ([((-2147483648), 2147483647), ((-2147483648), 2147483647)], [.inr (.inr (some 0)), .inl ([(0, 1)], 0), .inl ([(1, 1)], 0)], [(0, z_83), (2, z_88)], 24), [([((-2147483648), 2147483647), ((-2147483648), 2147483647)], some (.inl ([], (-1))), [], 24)], 0, 0, 3)
def ak_759 : List eAn := [(0, [([(0, 1)], 0)], List.range 24), (0, [], []), (0, [], [])]
theorem K_759 {l : Launch} {D : va_G} {ca : Nat → ClassId} : KMet l D ca k_759 := K_go (KS := [k_744]) (ini := false) (n := 11) (an := ak_759) (by decide +kernel) C_325_ok (KS_cons K_744 KS_nil) (by decide +kernel)
def k_760 : eK := (131, ([((-2147483648), 2147483647)], [.inr (.inr (some 0)), .inl ([(0, 1)], 0)], [(0, z_37)], 3), [([((-2147483648), (-1))], some (.inl ([], (-1))), [(0, z_37)], 3), ([(0, 2147483647)], some (.inl ([], (-1))), [(0, z_37)], 3)], 0, 0, 1)
def ak_760 : List eAn := [(0, [], []), (1, [], [])]
theorem K_760 {l : Launch} {D : va_G} {ca : Nat → ClassId} : KMet l D ca k_760 := K_go (KS := []) (ini := false) (n := 10) (an := ak_760) (by decide +kernel) C_131_ok KS_nil (by decide +kernel)
def z_290 : eSC := .inl (7, [.inr (.inr (some 16)), .inr (.inr (some 17)), .inl ([], 0), .inl ([], 0), .inl ([], 0)])
def k_761 : eK := (130, ([((-2147483648), 2147483647)], [.inr (.inr (some 0)), .inl ([(0, 1)], 0)], [(0, z_51), (11, z_290)], 18), [([((-2147483648), 2147483647)], some (.inl ([], (-1))), [], 18)], 0, 0, 2)
def ak_761 : List eAn := [(0, [([(0, 1)], 0)], [11, 16, 17]), (0, [], []), (0, [], [])]
theorem K_761 {l : Launch} {D : va_G} {ca : Nat → ClassId} : KMet l D ca k_761 := K_go (KS := [k_760]) (ini := false) (n := 7) (an := ak_761) (by decide +kernel) C_130_ok (KS_cons K_760 KS_nil) (by decide +kernel)
def k_762 : eK := (327, ([((-2147483648), 2147483647)], [.inr (.inr (some 0)), .inl ([(0, 1)], 0)], [(0, z_83)], 24), [([((-2147483648), 2147483647)], some (.inl ([], (-1))), [], 24)], 0, 0, 2)
def ak_762 : List eAn := [(0, [([(0, 1)], 0)], []), (0, [], []), (0, [], [])]
theorem K_762 {l : Launch} {D : va_G} {ca : Nat → ClassId} : KMet l D ca k_762 := K_go (KS := [k_88]) (ini := false) (n := 15) (an := ak_762) (by decide +kernel) C_327_ok (KS_cons K_88 KS_nil) (by decide +kernel)
def k_763 : eK := (133, ([], [.inr (.inr (some 0))], [(0, z_14), (1, z_13)], 18), [([], some (.inl ([], 0)), [(0, z_14), (1, z_13)], 18)], 0, 0, 1)
def ak_763 : List eAn := [(0, [], [])]
theorem K_763 {l : Launch} {D : va_G} {ca : Nat → ClassId} : KMet l D ca k_763 := K_go (KS := []) (ini := false) (n := 13) (an := ak_763) (by decide +kernel) C_133_ok KS_nil (by decide +kernel)
def k_764 : eK := (135, ([], [.inl ([], 0)], [], 0), [([], some (.inl ([], 0)), [], 0)], 0, 0, 1)
def ak_764 : List eAn := [(0, [], [])]
theorem K_764 {l : Launch} {D : va_G} {ca : Nat → ClassId} : KMet l D ca k_764 := K_go (KS := []) (ini := false) (n := 44) (an := ak_764) (by decide +kernel) C_135_ok KS_nil (by decide +kernel)
def k_765 : eK := (138, ([], [.inr (.inr (some 0)), .inl ([], (-1))], [], 1), [([], some (.inl ([], 0)), [], 1)], 0, 0, 1)
def ak_765 : List eAn := [(0, [], [])]
theorem K_765 {l : Launch} {D : va_G} {ca : Nat → ClassId} : KMet l D ca k_765 := K_go (KS := []) (ini := false) (n := 8) (an := ak_765) (by decide +kernel) C_138_ok KS_nil (by decide +kernel)
def k_766 : eK := (140, ([], [.inr (.inr (some 0)), .inl ([], (-1))], [], 1), [([], some (.inl ([], 0)), [], 1)], 0, 0, 1)
def ak_766 : List eAn := [(0, [], [])]
theorem K_766 {l : Launch} {D : va_G} {ca : Nat → ClassId} : KMet l D ca k_766 := K_go (KS := []) (ini := false) (n := 8) (an := ak_766) (by decide +kernel) C_140_ok KS_nil (by decide +kernel)
def k_767 : eK := (137, ([], [.inr (.inr (some 0)), .inl ([], (-1)), .inl ([], (-1))], [], 1), [([], some (.inl ([], 0)), [], 1)], 0, 0, 2)
def ak_767 : List eAn := [(0, [], [0]), (0, [], [0]), (1, [], [0]), (1, [], [0]), (0, [], [])]
theorem K_767 {l : Launch} {D : va_G} {ca : Nat → ClassId} : KMet l D ca k_767 := K_go (KS := [k_765, k_766]) (ini := false) (n := 20) (an := ak_767) (by decide +kernel) C_137_ok (KS_cons K_765 (KS_cons K_766 KS_nil)) (by decide +kernel)
def z_291 : eSC := .inl (1, [.inr (.inr (some 2)), .inr (.inr (some 3)), .inl ([], 0), .inl ([], 1000)])
def z_292 : eSC := .inl (1, [.inr (.inr (some 2)), .inr (.inr (some 3)), .inl ([], 0), .inl ([], 0)])
def z_293 : eSC := .inr (.inl (1, 5, [(5, .inl (0, 0))]))
def k_768 : eK := (136, ([], [.inr (.inr (some 0)), .inr (.inr (some 1)), .inl ([], 0), .inl ([], 0), .inl ([], (-1)), .inl ([], 0)], [(0, z_291), (2, z_9), (3, z_9)], 4), [([], none, [(0, z_292), (2, z_9), (3, z_293)], 4)], 0, 0, 3)
def ak_768 : List eAn := [(0, [], [1]), (0, [], [])]
theorem K_768 {l : Launch} {D : va_G} {ca : Nat → ClassId} : KMet l D ca k_768 := K_go (KS := [k_767]) (ini := false) (n := 30) (an := ak_768) (by decide +kernel) C_136_ok (KS_cons K_767 KS_nil) (by decide +kernel)
def k_769 : eK := (134, ([], [.inr (.inr (some 0)), .inr (.inr (some 1)), .inl ([], 0)], [(0, z_292), (2, z_9), (3, z_9)], 4), [([], some (.inl ([], 0)), [(0, z_292), (2, z_9), (3, z_293)], 4)], 0, 0, 4)
def ak_769 : List eAn := [(0, [], []), (1, [], [0, 1, 2, 3]), (0, [], [])]
theorem K_769 {l : Launch} {D : va_G} {ca : Nat → ClassId} : KMet l D ca k_769 := K_go (KS := [k_764, k_768]) (ini := false) (n := 19) (an := ak_769) (by decide +kernel) C_134_ok (KS_cons K_764 (KS_cons K_768 KS_nil)) (by decide +kernel)
def z_294 : eSC := .inl (1, [.inr (.inr (some 32)), .inr (.inr (some 33)), .inl ([], 0), .inl ([], 0)])
def k_770 : eK := (132, ([], [.inr (.inr (some 0))], [(0, z_51), (2, z_138), (4, z_139), (12, z_294), (32, z_9), (33, z_9)], 34), [([], some (.inl ([], 0)), [], 34)], 0, 0, 5)
def ak_770 : List eAn := [(0, [], [4, 2, 27, 28, 29, 30, 31, 16, 17, 18, 19, 20, 21, 22, 23, 24, 25, 26]), (1, [], [12, 2, 32, 33]), (0, [], [])]
theorem K_770 {l : Launch} {D : va_G} {ca : Nat → ClassId} : KMet l D ca k_770 := K_go (KS := [k_763, k_769]) (ini := false) (n := 11) (an := ak_770) (by decide +kernel) C_132_ok (KS_cons K_763 (KS_cons K_769 KS_nil)) (by decide +kernel)
def z_295 : eSC := .inl (13, [.inl ([], 0), .inr (.inr (some 1)), .inl ([], 0), .inl ([], 0), .inl ([], 0), .inl ([], 0), .inl ([], 0), .inl ([], 0), .inl ([], 0), .inl ([], 0), .inl ([], 0), .inl ([], 0), .inr (.inl ([], 0)), .inl ([], 0), .inr (.inr (some 2)), .inr (.inr (some 3)), .inr (.inr (some 4)), .inr (.inr (some 5)), .inr (.inr (some 6)), .inr (.inr (some 7)), .inr (.inr (some 8)), .inr (.inr (some 9)), .inr (.inr (some 10)), .inr (.inr (some 11)), .inl ([], 0), .inr (.inr (some 12)), .inr (.inr (some 13)), .inr (.inr (some 14)), .inl ([], 0), .inl ([], 0), .inr (.inr (some 15)), .inr (.inr (some 16)), .inl ([], 0), .inl ([], 0), .inr (.inr (some 17)), .inr (.inr (some 18)), .inl ([], 100000), .inl ([], 0), .inl ([], (-1)), .inl ([], (-1)), .inl ([], (-1)), .inr (.inr (some 19)), .inr (.inr (some 20)), .inl ([], 0), .inl ([], 0), .inr (.inr (some 21)), .inr (.inr (some 22)), .inl ([], 0), .inl ([], 0), .inr (.inr (some 23)), .inl ([], 0), .inl ([], 0), .inl ([], 0), .inl ([], 0)])
def k_771 : eK := (329, ([], [.inr (.inr (some 0)), .inl ([], 0), .inl ([], 0), .inl ([], 0), .inl ([], 0), .inl ([], 0)], [(0, z_295)], 24), [([], none, [(0, z_83)], 24)], 0, 0, 1)
def ak_771 : List eAn := [(0, [], [])]
theorem K_771 {l : Launch} {D : va_G} {ca : Nat → ClassId} : KMet l D ca k_771 := K_go (KS := []) (ini := false) (n := 28) (an := ak_771) (by decide +kernel) C_329_ok KS_nil (by decide +kernel)
def k_772 : eK := (328, ([], [.inr (.inr (some 0))], [(0, z_83), (2, z_88)], 24), [([], some (.inl ([], 0)), [], 24)], 0, 0, 2)
def ak_772 : List eAn := [(0, [], List.range 24), (0, [], [])]
theorem K_772 {l : Launch} {D : va_G} {ca : Nat → ClassId} : KMet l D ca k_772 := K_go (KS := [k_771]) (ini := false) (n := 28) (an := ak_772) (by decide +kernel) C_328_ok (KS_cons K_771 KS_nil) (by decide +kernel)
def k_773 : eK := (142, ([((-2147483648), 2147483647)], [.inr (.inr (some 0)), .inl ([(0, 1)], 0)], [(0, z_39)], 3), [([((-2147483648), (-1))], some (.inl ([], (-1))), [(0, z_39)], 3), ([(0, 2147483647)], some (.inl ([], (-1))), [(0, z_39)], 3)], 0, 0, 1)
def ak_773 : List eAn := [(0, [], []), (1, [], [])]
theorem K_773 {l : Launch} {D : va_G} {ca : Nat → ClassId} : KMet l D ca k_773 := K_go (KS := []) (ini := false) (n := 10) (an := ak_773) (by decide +kernel) C_142_ok KS_nil (by decide +kernel)
def z_296 : eSC := .inl (1, [.inr (.inr (some 16)), .inr (.inr (some 17)), .inl ([], 0), .inl ([], 0)])
def k_774 : eK := (141, ([((-2147483648), 2147483647)], [.inr (.inr (some 0)), .inl ([(0, 1)], 0)], [(0, z_51), (12, z_296)], 18), [([((-2147483648), 2147483647)], some (.inl ([], (-1))), [], 18)], 0, 0, 2)
def ak_774 : List eAn := [(0, [([(0, 1)], 0)], [12, 16, 17]), (0, [], []), (0, [], [])]
theorem K_774 {l : Launch} {D : va_G} {ca : Nat → ClassId} : KMet l D ca k_774 := K_go (KS := [k_773]) (ini := false) (n := 7) (an := ak_774) (by decide +kernel) C_141_ok (KS_cons K_773 KS_nil) (by decide +kernel)
def k_775 : eK := (332, ([((-2147483648), 2147483647)], [.inr (.inr (some 0)), .inl ([(0, 1)], 0)], [(0, z_83)], 24), [([((-2147483648), 2147483647)], some (.inl ([], (-1))), [], 24)], 0, 0, 2)
def ak_775 : List eAn := [(0, [([(0, 1)], 0)], []), (0, [], []), (0, [], [])]
theorem K_775 {l : Launch} {D : va_G} {ca : Nat → ClassId} : KMet l D ca k_775 := K_go (KS := [k_88]) (ini := false) (n := 15) (an := ak_775) (by decide +kernel) C_332_ok (KS_cons K_88 KS_nil) (by decide +kernel)
def k_776 : eK := (53, ([], [.inl ([], 0), .inl ([], 1), .inl ([], 8)], [], 0), [([], some (.inl ([], 0)), [], 0)], 0, 0, 1)
def ak_776 : List eAn := [(0, [], [])]
theorem K_776 {l : Launch} {D : va_G} {ca : Nat → ClassId} : KMet l D ca k_776 := K_go (KS := []) (ini := false) (n := 7) (an := ak_776) (by decide +kernel) C_53_ok KS_nil (by decide +kernel)
def k_777 : eK := (144, ([], [.inr (.inr (some 0)), .inr (.inr (some 1)), .inr (.inr (some 2))], [(1, z_287)], 4), [([], some (.inl ([], (-1))), [(1, z_287)], 4)], 0, 0, 2)
def ak_777 : List eAn := [(0, [], [1, 3]), (0, [], [1, 3]), (1, [], []), (0, [], [])]
theorem K_777 {l : Launch} {D : va_G} {ca : Nat → ClassId} : KMet l D ca k_777 := K_go (KS := [k_748, k_776]) (ini := false) (n := 19) (an := ak_777) (by decide +kernel) C_144_ok (KS_cons K_748 (KS_cons K_776 KS_nil)) (by decide +kernel)
def k_778 : eK := (143, ([], [.inr (.inr (some 0))], [(0, z_51), (1, z_52), (13, z_41)], 17), [([], some (.inl ([], (-1))), [], 17)], 0, 0, 3)
def ak_778 : List eAn := [(0, [], [13, 1, 2, 16]), (1, [], [1, 16]), (0, [], [])]
theorem K_778 {l : Launch} {D : va_G} {ca : Nat → ClassId} : KMet l D ca k_778 := K_go (KS := [k_777, k_751]) (ini := false) (n := 15) (an := ak_778) (by decide +kernel) C_143_ok (KS_cons K_777 (KS_cons K_751 KS_nil)) (by decide +kernel)
def k_779 : eK := (272, ([], [.inl ([], 0), .inl ([], 1), .inl ([], 8)], [], 0), [([], some (.inl ([], 0)), [], 0)], 0, 0, 1)
def ak_779 : List eAn := [(0, [], [])]
theorem K_779 {l : Launch} {D : va_G} {ca : Nat → ClassId} : KMet l D ca k_779 := K_go (KS := []) (ini := false) (n := 7) (an := ak_779) (by decide +kernel) C_272_ok KS_nil (by decide +kernel)
def k_780 : eK := (333, ([], [.inr (.inr (some 0))], [(0, z_83)], 24), [([], some (.inl ([], (-1))), [], 24)], 0, 0, 2)
def ak_780 : List eAn := [(0, [], List.range 24), (1, [], []), (0, [], [])]
theorem K_780 {l : Launch} {D : va_G} {ca : Nat → ClassId} : KMet l D ca k_780 := K_go (KS := [k_51, k_779]) (ini := false) (n := 21) (an := ak_780) (by decide +kernel) C_333_ok (KS_cons K_51 (KS_cons K_779 KS_nil)) (by decide +kernel)
def k_781 : eK := (146, ([], [.inr (.inr (some 0))], [(0, z_51), (13, z_41)], 16), [([], some (.inl ([], (-1))), [], 16)], 0, 0, 1)
def ak_781 : List eAn := [(0, [], [])]
theorem K_781 {l : Launch} {D : va_G} {ca : Nat → ClassId} : KMet l D ca k_781 := K_go (KS := []) (ini := false) (n := 6) (an := ak_781) (by decide +kernel) C_146_ok KS_nil (by decide +kernel)
def k_782 : eK := (336, ([], [.inr (.inr (some 0))], [(0, z_83)], 24), [([], some (.inl ([], (-1))), [], 24)], 0, 0, 1)
def ak_782 : List eAn := [(0, [], [])]
theorem K_782 {l : Launch} {D : va_G} {ca : Nat → ClassId} : KMet l D ca k_782 := K_go (KS := []) (ini := false) (n := 8) (an := ak_782) (by decide +kernel) C_336_ok KS_nil (by decide +kernel)
def k_783 : eK := (147, ([], [.inr (.inr (some 0))], [(0, z_51), (13, z_41)], 16), [([], some (.inl ([], (-1))), [], 16)], 0, 0, 1)
def ak_783 : List eAn := [(0, [], [])]
theorem K_783 {l : Launch} {D : va_G} {ca : Nat → ClassId} : KMet l D ca k_783 := K_go (KS := []) (ini := false) (n := 6) (an := ak_783) (by decide +kernel) C_147_ok KS_nil (by decide +kernel)
def k_784 : eK := (337, ([], [.inr (.inr (some 0))], [(0, z_83)], 24), [([], some (.inl ([], (-1))), [], 24)], 0, 0, 1)
def ak_784 : List eAn := [(0, [], [])]
theorem K_784 {l : Launch} {D : va_G} {ca : Nat → ClassId} : KMet l D ca k_784 := K_go (KS := []) (ini := false) (n := 8) (an := ak_784) (by decide +kernel) C_337_ok KS_nil (by decide +kernel)
def k_785 : eK := (148, ([], [.inr (.inr (some 0))], [(0, z_51), (13, z_41)], 16), [([], some (.inl ([], (-1))), [], 16)], 0, 0, 1)
def ak_785 : List eAn := [(0, [], [])]
theorem K_785 {l : Launch} {D : va_G} {ca : Nat → ClassId} : KMet l D ca k_785 := K_go (KS := []) (ini := false) (n := 6) (an := ak_785) (by decide +kernel) C_148_ok KS_nil (by decide +kernel)
def k_786 : eK := (338, ([], [.inr (.inr (some 0))], [(0, z_83)], 24), [([], some (.inl ([], (-1))), [], 24)], 0, 0, 1)
def ak_786 : List eAn := [(0, [], [])]
theorem K_786 {l : Launch} {D : va_G} {ca : Nat → ClassId} : KMet l D ca k_786 := K_go (KS := []) (ini := false) (n := 8) (an := ak_786) (by decide +kernel) C_338_ok KS_nil (by decide +kernel)
def k_787 : eK := (149, ([((-2147483648), 2147483647)], [.inr (.inr (some 0)), .inl ([(0, 1)], 0)], [(0, z_51), (2, z_138)], 27), [([((-2147483648), 2147483647)], some (.inl ([], (-1))), [], 27)], 0, 0, 2)
def ak_787 : List eAn := [(0, [([(0, 1)], 0)], List.range 27), (0, [], []), (0, [], [])]
theorem K_787 {l : Launch} {D : va_G} {ca : Nat → ClassId} : KMet l D ca k_787 := K_go (KS := [k_68]) (ini := false) (n := 8) (an := ak_787) (by decide +kernel) C_149_ok (KS_cons K_68 KS_nil) (by decide +kernel)
def k_788 : eK := (339, ([((-2147483648), 2147483647)], [.inr (.inr (some 0)), .inl ([(0, 1)], 0)], [(0, z_83), (2, z_88)], 24), [([((-2147483648), 2147483647)], some (.inl ([], (-1))), [], 24)], 0, 0, 3)
def ak_788 : List eAn := [(0, [([(0, 1)], 0)], List.range 24), (0, [], []), (0, [], [])]
theorem K_788 {l : Launch} {D : va_G} {ca : Nat → ClassId} : KMet l D ca k_788 := K_go (KS := [k_89]) (ini := false) (n := 11) (an := ak_788) (by decide +kernel) C_339_ok (KS_cons K_89 KS_nil) (by decide +kernel)
def k_789 : eK := (151, ([((-2147483648), 2147483647)], [.inr (.inr (some 0)), .inl ([(0, 1)], 0)], [(0, z_51), (2, z_138)], 27), [([((-2147483648), 2147483647)], some (.inl ([], (-1))), [], 27)], 0, 0, 2)
def ak_789 : List eAn := [(0, [([(0, 1)], 0)], List.range 27), (0, [], []), (0, [], [])]
theorem K_789 {l : Launch} {D : va_G} {ca : Nat → ClassId} : KMet l D ca k_789 := K_go (KS := [k_68]) (ini := false) (n := 8) (an := ak_789) (by decide +kernel) C_151_ok (KS_cons K_68 KS_nil) (by decide +kernel)
def k_790 : eK := (340, ([((-2147483648), 2147483647)], [.inr (.inr (some 0)), .inl ([(0, 1)], 0)], [(0, z_83), (2, z_88)], 24), [([((-2147483648), 2147483647)], some (.inl ([], (-1))), [], 24)], 0, 0, 3)
def ak_790 : List eAn := [(0, [([(0, 1)], 0)], List.range 24), (0, [], []), (0, [], [])]
theorem K_790 {l : Launch} {D : va_G} {ca : Nat → ClassId} : KMet l D ca k_790 := K_go (KS := [k_89]) (ini := false) (n := 11) (an := ak_790) (by decide +kernel) C_340_ok (KS_cons K_89 KS_nil) (by decide +kernel)
def k_791 : eK := (155, ([], [.inr (.inr (some 0))], [(0, z_14), (1, z_13)], 18), [([], some (.inl ([], 0)), [(0, z_14), (1, z_13)], 18)], 0, 0, 1)
def ak_791 : List eAn := [(0, [], [])]
theorem K_791 {l : Launch} {D : va_G} {ca : Nat → ClassId} : KMet l D ca k_791 := K_go (KS := []) (ini := false) (n := 13) (an := ak_791) (by decide +kernel) C_155_ok KS_nil (by decide +kernel)
def k_792 : eK := (154, ([], [.inr (.inr (some 0))], [(0, z_51), (2, z_138), (4, z_139)], 32), [([], some (.inl ([], 0)), [], 32)], 0, 0, 2)
def ak_792 : List eAn := [(0, [], [4, 2, 27, 28, 29, 30, 31, 16, 17, 18, 19, 20, 21, 22, 23, 24, 25, 26]), (0, [], [])]
theorem K_792 {l : Launch} {D : va_G} {ca : Nat → ClassId} : KMet l D ca k_792 := K_go (KS := [k_791]) (ini := false) (n := 6) (an := ak_792) (by decide +kernel) C_154_ok (KS_cons K_791 KS_nil) (by decide +kernel)
def k_793 : eK := (342, ([], [.inr (.inr (some 0))], [(0, z_83), (2, z_88)], 24), [([], some (.inl ([], 0)), [], 24)], 0, 0, 1)
def ak_793 : List eAn := [(0, [], [])]
theorem K_793 {l : Launch} {D : va_G} {ca : Nat → ClassId} : KMet l D ca k_793 := K_go (KS := []) (ini := false) (n := 17) (an := ak_793) (by decide +kernel) C_342_ok KS_nil (by decide +kernel)
def k_794 : eK := (88, ([], [.inr (.inr (some 0))], [(0, z_154), (1, z_13)], 18), [([], some (.inl ([], 0)), [(0, z_154), (1, z_13)], 18)], 0, 0, 1)
def ak_794 : List eAn := [(0, [], [])]
theorem K_794 {l : Launch} {D : va_G} {ca : Nat → ClassId} : KMet l D ca k_794 := K_go (KS := []) (ini := false) (n := 13) (an := ak_794) (by decide +kernel) C_88_ok KS_nil (by decide +kernel)
def k_795 : eK := (88, ([], [.inr (.inr (some 0))], [(0, z_155), (1, z_13)], 18), [([], some (.inl ([], 0)), [(0, z_155), (1, z_13)], 18)], 0, 0, 1)
def ak_795 : List eAn := [(0, [], [])]
theorem K_795 {l : Launch} {D : va_G} {ca : Nat → ClassId} : KMet l D ca k_795 := K_go (KS := []) (ini := false) (n := 13) (an := ak_795) (by decide +kernel) C_88_ok KS_nil (by decide +kernel)
def k_796 : eK := (88, ([], [.inr (.inr (some 0))], [(0, z_156), (1, z_13)], 18), [([], some (.inl ([], 0)), [(0, z_156), (1, z_13)], 18)], 0, 0, 1)
def ak_796 : List eAn := [(0, [], [])]
theorem K_796 {l : Launch} {D : va_G} {ca : Nat → ClassId} : KMet l D ca k_796 := K_go (KS := []) (ini := false) (n := 13) (an := ak_796) (by decide +kernel) C_88_ok KS_nil (by decide +kernel)
def k_797 : eK := (88, ([], [.inr (.inr (some 0))], [(0, z_157), (1, z_13)], 18), [([], some (.inl ([], 0)), [(0, z_157), (1, z_13)], 18)], 0, 0, 1)
def ak_797 : List eAn := [(0, [], [])]
theorem K_797 {l : Launch} {D : va_G} {ca : Nat → ClassId} : KMet l D ca k_797 := K_go (KS := []) (ini := false) (n := 13) (an := ak_797) (by decide +kernel) C_88_ok KS_nil (by decide +kernel)
def k_798 : eK := (88, ([], [.inr (.inr (some 0))], [(0, z_158), (1, z_13)], 18), [([], some (.inl ([], 0)), [(0, z_158), (1, z_13)], 18)], 0, 0, 1)
def ak_798 : List eAn := [(0, [], [])]
theorem K_798 {l : Launch} {D : va_G} {ca : Nat → ClassId} : KMet l D ca k_798 := K_go (KS := []) (ini := false) (n := 13) (an := ak_798) (by decide +kernel) C_88_ok KS_nil (by decide +kernel)
def k_799 : eK := (88, ([], [.inr (.inr (some 0))], [(0, z_159), (1, z_13)], 18), [([], some (.inl ([], 0)), [(0, z_159), (1, z_13)], 18)], 0, 0, 1)
def ak_799 : List eAn := [(0, [], [])]
theorem K_799 {l : Launch} {D : va_G} {ca : Nat → ClassId} : KMet l D ca k_799 := K_go (KS := []) (ini := false) (n := 13) (an := ak_799) (by decide +kernel) C_88_ok KS_nil (by decide +kernel)
def k_800 : eK := (88, ([], [.inr (.inr (some 0))], [(0, z_160), (1, z_13)], 18), [([], some (.inl ([], 0)), [(0, z_160), (1, z_13)], 18)], 0, 0, 1)
def ak_800 : List eAn := [(0, [], [])]
theorem K_800 {l : Launch} {D : va_G} {ca : Nat → ClassId} : KMet l D ca k_800 := K_go (KS := []) (ini := false) (n := 13) (an := ak_800) (by decide +kernel) C_88_ok KS_nil (by decide +kernel)
def k_801 : eK := (88, ([], [.inr (.inr (some 0))], [(0, z_161), (1, z_13)], 18), [([], some (.inl ([], 0)), [(0, z_161), (1, z_13)], 18)], 0, 0, 1)
def ak_801 : List eAn := [(0, [], [])]
theorem K_801 {l : Launch} {D : va_G} {ca : Nat → ClassId} : KMet l D ca k_801 := K_go (KS := []) (ini := false) (n := 13) (an := ak_801) (by decide +kernel) C_88_ok KS_nil (by decide +kernel)
def k_802 : eK := (88, ([], [.inr (.inr (some 0))], [(0, z_162), (1, z_13)], 18), [([], some (.inl ([], 0)), [(0, z_162), (1, z_13)], 18)], 0, 0, 1)
def ak_802 : List eAn := [(0, [], [])]
theorem K_802 {l : Launch} {D : va_G} {ca : Nat → ClassId} : KMet l D ca k_802 := K_go (KS := []) (ini := false) (n := 13) (an := ak_802) (by decide +kernel) C_88_ok KS_nil (by decide +kernel)
def k_803 : eK := (88, ([], [.inr (.inr (some 0))], [(0, z_163), (1, z_13)], 18), [([], some (.inl ([], 0)), [(0, z_163), (1, z_13)], 18)], 0, 0, 1)
def ak_803 : List eAn := [(0, [], [])]
theorem K_803 {l : Launch} {D : va_G} {ca : Nat → ClassId} : KMet l D ca k_803 := K_go (KS := []) (ini := false) (n := 13) (an := ak_803) (by decide +kernel) C_88_ok KS_nil (by decide +kernel)
def k_804 : eK := (88, ([], [.inr (.inr (some 0))], [(0, z_164), (1, z_13)], 18), [([], some (.inl ([], 0)), [(0, z_164), (1, z_13)], 18)], 0, 0, 1)
def ak_804 : List eAn := [(0, [], [])]
theorem K_804 {l : Launch} {D : va_G} {ca : Nat → ClassId} : KMet l D ca k_804 := K_go (KS := []) (ini := false) (n := 13) (an := ak_804) (by decide +kernel) C_88_ok KS_nil (by decide +kernel)
def k_805 : eK := (88, ([], [.inr (.inr (some 0))], [(0, z_165), (1, z_13)], 18), [([], some (.inl ([], 0)), [(0, z_165), (1, z_13)], 18)], 0, 0, 1)
def ak_805 : List eAn := [(0, [], [])]
theorem K_805 {l : Launch} {D : va_G} {ca : Nat → ClassId} : KMet l D ca k_805 := K_go (KS := []) (ini := false) (n := 13) (an := ak_805) (by decide +kernel) C_88_ok KS_nil (by decide +kernel)
def k_806 : eK := (88, ([], [.inr (.inr (some 0))], [(0, z_166), (1, z_13)], 18), [([], some (.inl ([], 0)), [(0, z_166), (1, z_13)], 18)], 0, 0, 1)
def ak_806 : List eAn := [(0, [], [])]
theorem K_806 {l : Launch} {D : va_G} {ca : Nat → ClassId} : KMet l D ca k_806 := K_go (KS := []) (ini := false) (n := 13) (an := ak_806) (by decide +kernel) C_88_ok KS_nil (by decide +kernel)
def k_807 : eK := (88, ([], [.inr (.inr (some 0))], [(0, z_167), (1, z_13)], 18), [([], some (.inl ([], 0)), [(0, z_167), (1, z_13)], 18)], 0, 0, 1)
def ak_807 : List eAn := [(0, [], [])]
theorem K_807 {l : Launch} {D : va_G} {ca : Nat → ClassId} : KMet l D ca k_807 := K_go (KS := []) (ini := false) (n := 13) (an := ak_807) (by decide +kernel) C_88_ok KS_nil (by decide +kernel)
def k_808 : eK := (88, ([], [.inr (.inr (some 0))], [(0, z_168), (1, z_13)], 18), [([], some (.inl ([], 0)), [(0, z_168), (1, z_13)], 18)], 0, 0, 1)
def ak_808 : List eAn := [(0, [], [])]
theorem K_808 {l : Launch} {D : va_G} {ca : Nat → ClassId} : KMet l D ca k_808 := K_go (KS := []) (ini := false) (n := 13) (an := ak_808) (by decide +kernel) C_88_ok KS_nil (by decide +kernel)
def k_809 : eK := (88, ([], [.inr (.inr (some 0))], [(0, z_169), (1, z_13)], 18), [([], some (.inl ([], 0)), [(0, z_169), (1, z_13)], 18)], 0, 0, 1)
def ak_809 : List eAn := [(0, [], [])]
theorem K_809 {l : Launch} {D : va_G} {ca : Nat → ClassId} : KMet l D ca k_809 := K_go (KS := []) (ini := false) (n := 13) (an := ak_809) (by decide +kernel) C_88_ok KS_nil (by decide +kernel)
def k_810 : eK := (88, ([], [.inr (.inr (some 0))], [(0, z_170), (1, z_13)], 18), [([], some (.inl ([], 0)), [(0, z_170), (1, z_13)], 18)], 0, 0, 1)
def ak_810 : List eAn := [(0, [], [])]
theorem K_810 {l : Launch} {D : va_G} {ca : Nat → ClassId} : KMet l D ca k_810 := K_go (KS := []) (ini := false) (n := 13) (an := ak_810) (by decide +kernel) C_88_ok KS_nil (by decide +kernel)
def k_811 : eK := (88, ([], [.inr (.inr (some 0))], [(0, z_171), (1, z_13)], 18), [([], some (.inl ([], 0)), [(0, z_171), (1, z_13)], 18)], 0, 0, 1)
def ak_811 : List eAn := [(0, [], [])]
theorem K_811 {l : Launch} {D : va_G} {ca : Nat → ClassId} : KMet l D ca k_811 := K_go (KS := []) (ini := false) (n := 13) (an := ak_811) (by decide +kernel) C_88_ok KS_nil (by decide +kernel)
def k_812 : eK := (88, ([], [.inr (.inr (some 0))], [(0, z_172), (1, z_13)], 18), [([], some (.inl ([], 0)), [(0, z_172), (1, z_13)], 18)], 0, 0, 1)
def ak_812 : List eAn := [(0, [], [])]
theorem K_812 {l : Launch} {D : va_G} {ca : Nat → ClassId} : KMet l D ca k_812 := K_go (KS := []) (ini := false) (n := 13) (an := ak_812) (by decide +kernel) C_88_ok KS_nil (by decide +kernel)
def k_813 : eK := (88, ([], [.inr (.inr (some 0))], [(0, z_173), (1, z_13)], 18), [([], some (.inl ([], 0)), [(0, z_173), (1, z_13)], 18)], 0, 0, 1)
def ak_813 : List eAn := [(0, [], [])]
theorem K_813 {l : Launch} {D : va_G} {ca : Nat → ClassId} : KMet l D ca k_813 := K_go (KS := []) (ini := false) (n := 13) (an := ak_813) (by decide +kernel) C_88_ok KS_nil (by decide +kernel)
def k_814 : eK := (88, ([], [.inr (.inr (some 0))], [(0, z_174), (1, z_13)], 18), [([], some (.inl ([], 0)), [(0, z_174), (1, z_13)], 18)], 0, 0, 1)
def ak_814 : List eAn := [(0, [], [])]
theorem K_814 {l : Launch} {D : va_G} {ca : Nat → ClassId} : KMet l D ca k_814 := K_go (KS := []) (ini := false) (n := 13) (an := ak_814) (by decide +kernel) C_88_ok KS_nil (by decide +kernel)
def k_815 : eK := (88, ([], [.inr (.inr (some 0))], [(0, z_175), (1, z_13)], 18), [([], some (.inl ([], 0)), [(0, z_175), (1, z_13)], 18)], 0, 0, 1)
def ak_815 : List eAn := [(0, [], [])]
theorem K_815 {l : Launch} {D : va_G} {ca : Nat → ClassId} : KMet l D ca k_815 := K_go (KS := []) (ini := false) (n := 13) (an := ak_815) (by decide +kernel) C_88_ok KS_nil (by decide +kernel)
def k_816 : eK := (88, ([], [.inr (.inr (some 0))], [(0, z_176), (1, z_13)], 18), [([], some (.inl ([], 0)), [(0, z_176), (1, z_13)], 18)], 0, 0, 1)
def ak_816 : List eAn := [(0, [], [])]
theorem K_816 {l : Launch} {D : va_G} {ca : Nat → ClassId} : KMet l D ca k_816 := K_go (KS := []) (ini := false) (n := 13) (an := ak_816) (by decide +kernel) C_88_ok KS_nil (by decide +kernel)
def k_817 : eK := (88, ([], [.inr (.inr (some 0))], [(0, z_177), (1, z_13)], 18), [([], some (.inl ([], 0)), [(0, z_177), (1, z_13)], 18)], 0, 0, 1)
def ak_817 : List eAn := [(0, [], [])]
theorem K_817 {l : Launch} {D : va_G} {ca : Nat → ClassId} : KMet l D ca k_817 := K_go (KS := []) (ini := false) (n := 13) (an := ak_817) (by decide +kernel) C_88_ok KS_nil (by decide +kernel)
def k_818 : eK := (88, ([], [.inr (.inr (some 0))], [(0, z_178), (1, z_13)], 18), [([], some (.inl ([], 0)), [(0, z_178), (1, z_13)], 18)], 0, 0, 1)
def ak_818 : List eAn := [(0, [], [])]
theorem K_818 {l : Launch} {D : va_G} {ca : Nat → ClassId} : KMet l D ca k_818 := K_go (KS := []) (ini := false) (n := 13) (an := ak_818) (by decide +kernel) C_88_ok KS_nil (by decide +kernel)
def k_819 : eK := (88, ([], [.inr (.inr (some 0))], [(0, z_179), (1, z_13)], 18), [([], some (.inl ([], 0)), [(0, z_179), (1, z_13)], 18)], 0, 0, 1)
def ak_819 : List eAn := [(0, [], [])]
theorem K_819 {l : Launch} {D : va_G} {ca : Nat → ClassId} : KMet l D ca k_819 := K_go (KS := []) (ini := false) (n := 13) (an := ak_819) (by decide +kernel) C_88_ok KS_nil (by decide +kernel)
def k_820 : eK := (88, ([], [.inr (.inr (some 0))], [(0, z_180), (1, z_13)], 18), [([], some (.inl ([], 0)), [(0, z_180), (1, z_13)], 18)], 0, 0, 1)
def ak_820 : List eAn := [(0, [], [])]
theorem K_820 {l : Launch} {D : va_G} {ca : Nat → ClassId} : KMet l D ca k_820 := K_go (KS := []) (ini := false) (n := 13) (an := ak_820) (by decide +kernel) C_88_ok KS_nil (by decide +kernel)
def k_821 : eK := (88, ([], [.inr (.inr (some 0))], [(0, z_181), (1, z_13)], 18), [([], some (.inl ([], 0)), [(0, z_181), (1, z_13)], 18)], 0, 0, 1)
def ak_821 : List eAn := [(0, [], [])]
theorem K_821 {l : Launch} {D : va_G} {ca : Nat → ClassId} : KMet l D ca k_821 := K_go (KS := []) (ini := false) (n := 13) (an := ak_821) (by decide +kernel) C_88_ok KS_nil (by decide +kernel)
def k_822 : eK := (88, ([], [.inr (.inr (some 0))], [(0, z_182), (1, z_13)], 18), [([], some (.inl ([], 0)), [(0, z_182), (1, z_13)], 18)], 0, 0, 1)
def ak_822 : List eAn := [(0, [], [])]
theorem K_822 {l : Launch} {D : va_G} {ca : Nat → ClassId} : KMet l D ca k_822 := K_go (KS := []) (ini := false) (n := 13) (an := ak_822) (by decide +kernel) C_88_ok KS_nil (by decide +kernel)
def k_823 : eK := (88, ([], [.inr (.inr (some 0))], [(0, z_183), (1, z_13)], 18), [([], some (.inl ([], 0)), [(0, z_183), (1, z_13)], 18)], 0, 0, 1)
def ak_823 : List eAn := [(0, [], [])]
theorem K_823 {l : Launch} {D : va_G} {ca : Nat → ClassId} : KMet l D ca k_823 := K_go (KS := []) (ini := false) (n := 13) (an := ak_823) (by decide +kernel) C_88_ok KS_nil (by decide +kernel)
def k_824 : eK := (88, ([], [.inr (.inr (some 0))], [(0, z_184), (1, z_13)], 18), [([], some (.inl ([], 0)), [(0, z_184), (1, z_13)], 18)], 0, 0, 1)
def ak_824 : List eAn := [(0, [], [])]
theorem K_824 {l : Launch} {D : va_G} {ca : Nat → ClassId} : KMet l D ca k_824 := K_go (KS := []) (ini := false) (n := 13) (an := ak_824) (by decide +kernel) C_88_ok KS_nil (by decide +kernel)
def k_825 : eK := (88, ([], [.inr (.inr (some 0))], [(0, z_185), (1, z_13)], 18), [([], some (.inl ([], 0)), [(0, z_185), (1, z_13)], 18)], 0, 0, 1)
def ak_825 : List eAn := [(0, [], [])]
theorem K_825 {l : Launch} {D : va_G} {ca : Nat → ClassId} : KMet l D ca k_825 := K_go (KS := []) (ini := false) (n := 13) (an := ak_825) (by decide +kernel) C_88_ok KS_nil (by decide +kernel)
def k_826 : eK := (88, ([], [.inr (.inr (some 0))], [(0, z_186), (1, z_13)], 18), [([], some (.inl ([], 0)), [(0, z_186), (1, z_13)], 18)], 0, 0, 1)
def ak_826 : List eAn := [(0, [], [])]
theorem K_826 {l : Launch} {D : va_G} {ca : Nat → ClassId} : KMet l D ca k_826 := K_go (KS := []) (ini := false) (n := 13) (an := ak_826) (by decide +kernel) C_88_ok KS_nil (by decide +kernel)
def k_827 : eK := (88, ([], [.inr (.inr (some 0))], [(0, z_187), (1, z_13)], 18), [([], some (.inl ([], 0)), [(0, z_187), (1, z_13)], 18)], 0, 0, 1)
def ak_827 : List eAn := [(0, [], [])]
theorem K_827 {l : Launch} {D : va_G} {ca : Nat → ClassId} : KMet l D ca k_827 := K_go (KS := []) (ini := false) (n := 13) (an := ak_827) (by decide +kernel) C_88_ok KS_nil (by decide +kernel)
def k_828 : eK := (88, ([], [.inr (.inr (some 0))], [(0, z_188), (1, z_13)], 18), [([], some (.inl ([], 0)), [(0, z_188), (1, z_13)], 18)], 0, 0, 1)
def ak_828 : List eAn := [(0, [], [])]
theorem K_828 {l : Launch} {D : va_G} {ca : Nat → ClassId} : KMet l D ca k_828 := K_go (KS := []) (ini := false) (n := 13) (an := ak_828) (by decide +kernel) C_88_ok KS_nil (by decide +kernel)
def k_829 : eK := (88, ([], [.inr (.inr (some 0))], [(0, z_189), (1, z_13)], 18), [([], some (.inl ([], 0)), [(0, z_189), (1, z_13)], 18)], 0, 0, 1)
def ak_829 : List eAn := [(0, [], [])]
theorem K_829 {l : Launch} {D : va_G} {ca : Nat → ClassId} : KMet l D ca k_829 := K_go (KS := []) (ini := false) (n := 13) (an := ak_829) (by decide +kernel) C_88_ok KS_nil (by decide +kernel)
def k_830 : eK := (88, ([], [.inr (.inr (some 0))], [(0, z_190), (1, z_13)], 18), [([], some (.inl ([], 0)), [(0, z_190), (1, z_13)], 18)], 0, 0, 1)
def ak_830 : List eAn := [(0, [], [])]
theorem K_830 {l : Launch} {D : va_G} {ca : Nat → ClassId} : KMet l D ca k_830 := K_go (KS := []) (ini := false) (n := 13) (an := ak_830) (by decide +kernel) C_88_ok KS_nil (by decide +kernel)
def k_831 : eK := (88, ([], [.inr (.inr (some 0))], [(0, z_191), (1, z_13)], 18), [([], some (.inl ([], 0)), [(0, z_191), (1, z_13)], 18)], 0, 0, 1)
def ak_831 : List eAn := [(0, [], [])]
theorem K_831 {l : Launch} {D : va_G} {ca : Nat → ClassId} : KMet l D ca k_831 := K_go (KS := []) (ini := false) (n := 13) (an := ak_831) (by decide +kernel) C_88_ok KS_nil (by decide +kernel)
def k_832 : eK := (88, ([], [.inr (.inr (some 0))], [(0, z_192), (1, z_13)], 18), [([], some (.inl ([], 0)), [(0, z_192), (1, z_13)], 18)], 0, 0, 1)
def ak_832 : List eAn := [(0, [], [])]
theorem K_832 {l : Launch} {D : va_G} {ca : Nat → ClassId} : KMet l D ca k_832 := K_go (KS := []) (ini := false) (n := 13) (an := ak_832) (by decide +kernel) C_88_ok KS_nil (by decide +kernel)
def k_833 : eK := (88, ([], [.inr (.inr (some 0))], [(0, z_193), (1, z_13)], 18), [([], some (.inl ([], 0)), [(0, z_193), (1, z_13)], 18)], 0, 0, 1)
def ak_833 : List eAn := [(0, [], [])]
theorem K_833 {l : Launch} {D : va_G} {ca : Nat → ClassId} : KMet l D ca k_833 := K_go (KS := []) (ini := false) (n := 13) (an := ak_833) (by decide +kernel) C_88_ok KS_nil (by decide +kernel)
def k_834 : eK := (88, ([], [.inr (.inr (some 0))], [(0, z_194), (1, z_13)], 18), [([], some (.inl ([], 0)), [(0, z_194), (1, z_13)], 18)], 0, 0, 1)
def ak_834 : List eAn := [(0, [], [])]
theorem K_834 {l : Launch} {D : va_G} {ca : Nat → ClassId} : KMet l D ca k_834 := K_go (KS := []) (ini := false) (n := 13) (an := ak_834) (by decide +kernel) C_88_ok KS_nil (by decide +kernel)
def k_835 : eK := (88, ([], [.inr (.inr (some 0))], [(0, z_195), (1, z_13)], 18), [([], some (.inl ([], 0)), [(0, z_195), (1, z_13)], 18)], 0, 0, 1)
def ak_835 : List eAn := [(0, [], [])]
theorem K_835 {l : Launch} {D : va_G} {ca : Nat → ClassId} : KMet l D ca k_835 := K_go (KS := []) (ini := false) (n := 13) (an := ak_835) (by decide +kernel) C_88_ok KS_nil (by decide +kernel)
def k_836 : eK := (88, ([], [.inr (.inr (some 0))], [(0, z_196), (1, z_13)], 18), [([], some (.inl ([], 0)), [(0, z_196), (1, z_13)], 18)], 0, 0, 1)
def ak_836 : List eAn := [(0, [], [])]
theorem K_836 {l : Launch} {D : va_G} {ca : Nat → ClassId} : KMet l D ca k_836 := K_go (KS := []) (ini := false) (n := 13) (an := ak_836) (by decide +kernel) C_88_ok KS_nil (by decide +kernel)
def k_837 : eK := (88, ([], [.inr (.inr (some 0))], [(0, z_197), (1, z_13)], 18), [([], some (.inl ([], 0)), [(0, z_197), (1, z_13)], 18)], 0, 0, 1)
def ak_837 : List eAn := [(0, [], [])]
theorem K_837 {l : Launch} {D : va_G} {ca : Nat → ClassId} : KMet l D ca k_837 := K_go (KS := []) (ini := false) (n := 13) (an := ak_837) (by decide +kernel) C_88_ok KS_nil (by decide +kernel)
def k_838 : eK := (88, ([], [.inr (.inr (some 0))], [(0, z_198), (1, z_13)], 18), [([], some (.inl ([], 0)), [(0, z_198), (1, z_13)], 18)], 0, 0, 1)
def ak_838 : List eAn := [(0, [], [])]
theorem K_838 {l : Launch} {D : va_G} {ca : Nat → ClassId} : KMet l D ca k_838 := K_go (KS := []) (ini := false) (n := 13) (an := ak_838) (by decide +kernel) C_88_ok KS_nil (by decide +kernel)
def k_839 : eK := (88, ([], [.inr (.inr (some 0))], [(0, z_199), (1, z_13)], 18), [([], some (.inl ([], 0)), [(0, z_199), (1, z_13)], 18)], 0, 0, 1)
def ak_839 : List eAn := [(0, [], [])]
theorem K_839 {l : Launch} {D : va_G} {ca : Nat → ClassId} : KMet l D ca k_839 := K_go (KS := []) (ini := false) (n := 13) (an := ak_839) (by decide +kernel) C_88_ok KS_nil (by decide +kernel)
def k_840 : eK := (88, ([], [.inr (.inr (some 0))], [(0, z_200), (1, z_13)], 18), [([], some (.inl ([], 0)), [(0, z_200), (1, z_13)], 18)], 0, 0, 1)
def ak_840 : List eAn := [(0, [], [])]
theorem K_840 {l : Launch} {D : va_G} {ca : Nat → ClassId} : KMet l D ca k_840 := K_go (KS := []) (ini := false) (n := 13) (an := ak_840) (by decide +kernel) C_88_ok KS_nil (by decide +kernel)
def k_841 : eK := (88, ([], [.inr (.inr (some 0))], [(0, z_201), (1, z_13)], 18), [([], some (.inl ([], 0)), [(0, z_201), (1, z_13)], 18)], 0, 0, 1)
def ak_841 : List eAn := [(0, [], [])]
theorem K_841 {l : Launch} {D : va_G} {ca : Nat → ClassId} : KMet l D ca k_841 := K_go (KS := []) (ini := false) (n := 13) (an := ak_841) (by decide +kernel) C_88_ok KS_nil (by decide +kernel)
def k_842 : eK := (88, ([], [.inr (.inr (some 0))], [(0, z_202), (1, z_13)], 18), [([], some (.inl ([], 0)), [(0, z_202), (1, z_13)], 18)], 0, 0, 1)
def ak_842 : List eAn := [(0, [], [])]
theorem K_842 {l : Launch} {D : va_G} {ca : Nat → ClassId} : KMet l D ca k_842 := K_go (KS := []) (ini := false) (n := 13) (an := ak_842) (by decide +kernel) C_88_ok KS_nil (by decide +kernel)
def k_843 : eK := (88, ([], [.inr (.inr (some 0))], [(0, z_203), (1, z_13)], 18), [([], some (.inl ([], 0)), [(0, z_203), (1, z_13)], 18)], 0, 0, 1)
def ak_843 : List eAn := [(0, [], [])]
theorem K_843 {l : Launch} {D : va_G} {ca : Nat → ClassId} : KMet l D ca k_843 := K_go (KS := []) (ini := false) (n := 13) (an := ak_843) (by decide +kernel) C_88_ok KS_nil (by decide +kernel)
def k_844 : eK := (88, ([], [.inr (.inr (some 0))], [(0, z_204), (1, z_13)], 18), [([], some (.inl ([], 0)), [(0, z_204), (1, z_13)], 18)], 0, 0, 1)
def ak_844 : List eAn := [(0, [], [])]
theorem K_844 {l : Launch} {D : va_G} {ca : Nat → ClassId} : KMet l D ca k_844 := K_go (KS := []) (ini := false) (n := 13) (an := ak_844) (by decide +kernel) C_88_ok KS_nil (by decide +kernel)
def k_845 : eK := (88, ([], [.inr (.inr (some 0))], [(0, z_205), (1, z_13)], 18), [([], some (.inl ([], 0)), [(0, z_205), (1, z_13)], 18)], 0, 0, 1)
def ak_845 : List eAn := [(0, [], [])]
theorem K_845 {l : Launch} {D : va_G} {ca : Nat → ClassId} : KMet l D ca k_845 := K_go (KS := []) (ini := false) (n := 13) (an := ak_845) (by decide +kernel) C_88_ok KS_nil (by decide +kernel)
def k_846 : eK := (88, ([], [.inr (.inr (some 0))], [(0, z_206), (1, z_13)], 18), [([], some (.inl ([], 0)), [(0, z_206), (1, z_13)], 18)], 0, 0, 1)
def ak_846 : List eAn := [(0, [], [])]
theorem K_846 {l : Launch} {D : va_G} {ca : Nat → ClassId} : KMet l D ca k_846 := K_go (KS := []) (ini := false) (n := 13) (an := ak_846) (by decide +kernel) C_88_ok KS_nil (by decide +kernel)
def k_847 : eK := (88, ([], [.inr (.inr (some 0))], [(0, z_207), (1, z_13)], 18), [([], some (.inl ([], 0)), [(0, z_207), (1, z_13)], 18)], 0, 0, 1)
def ak_847 : List eAn := [(0, [], [])]
theorem K_847 {l : Launch} {D : va_G} {ca : Nat → ClassId} : KMet l D ca k_847 := K_go (KS := []) (ini := false) (n := 13) (an := ak_847) (by decide +kernel) C_88_ok KS_nil (by decide +kernel)
def k_848 : eK := (88, ([], [.inr (.inr (some 0))], [(0, z_208), (1, z_13)], 18), [([], some (.inl ([], 0)), [(0, z_208), (1, z_13)], 18)], 0, 0, 1)
def ak_848 : List eAn := [(0, [], [])]
theorem K_848 {l : Launch} {D : va_G} {ca : Nat → ClassId} : KMet l D ca k_848 := K_go (KS := []) (ini := false) (n := 13) (an := ak_848) (by decide +kernel) C_88_ok KS_nil (by decide +kernel)
def k_849 : eK := (88, ([], [.inr (.inr (some 0))], [(0, z_209), (1, z_13)], 18), [([], some (.inl ([], 0)), [(0, z_209), (1, z_13)], 18)], 0, 0, 1)
def ak_849 : List eAn := [(0, [], [])]
theorem K_849 {l : Launch} {D : va_G} {ca : Nat → ClassId} : KMet l D ca k_849 := K_go (KS := []) (ini := false) (n := 13) (an := ak_849) (by decide +kernel) C_88_ok KS_nil (by decide +kernel)
def k_850 : eK := (88, ([], [.inr (.inr (some 0))], [(0, z_210), (1, z_13)], 18), [([], some (.inl ([], 0)), [(0, z_210), (1, z_13)], 18)], 0, 0, 1)
def ak_850 : List eAn := [(0, [], [])]
theorem K_850 {l : Launch} {D : va_G} {ca : Nat → ClassId} : KMet l D ca k_850 := K_go (KS := []) (ini := false) (n := 13) (an := ak_850) (by decide +kernel) C_88_ok KS_nil (by decide +kernel)
def k_851 : eK := (88, ([], [.inr (.inr (some 0))], [(0, z_211), (1, z_13)], 18), [([], some (.inl ([], 0)), [(0, z_211), (1, z_13)], 18)], 0, 0, 1)
def ak_851 : List eAn := [(0, [], [])]
theorem K_851 {l : Launch} {D : va_G} {ca : Nat → ClassId} : KMet l D ca k_851 := K_go (KS := []) (ini := false) (n := 13) (an := ak_851) (by decide +kernel) C_88_ok KS_nil (by decide +kernel)
def k_852 : eK := (88, ([], [.inr (.inr (some 0))], [(0, z_212), (1, z_13)], 18), [([], some (.inl ([], 0)), [(0, z_212), (1, z_13)], 18)], 0, 0, 1)
def ak_852 : List eAn := [(0, [], [])]
theorem K_852 {l : Launch} {D : va_G} {ca : Nat → ClassId} : KMet l D ca k_852 := K_go (KS := []) (ini := false) (n := 13) (an := ak_852) (by decide +kernel) C_88_ok KS_nil (by decide +kernel)
def k_853 : eK := (88, ([], [.inr (.inr (some 0))], [(0, z_213), (1, z_13)], 18), [([], some (.inl ([], 0)), [(0, z_213), (1, z_13)], 18)], 0, 0, 1)
def ak_853 : List eAn := [(0, [], [])]
theorem K_853 {l : Launch} {D : va_G} {ca : Nat → ClassId} : KMet l D ca k_853 := K_go (KS := []) (ini := false) (n := 13) (an := ak_853) (by decide +kernel) C_88_ok KS_nil (by decide +kernel)
def z_297 : eSC := .inl (5, [.inr (.inr (some 2)), .inl ([], 0), .inl ([], 20), .inl ([], 1), .inl ([], 0), .inr (.inr (some 32)), .inr (.inr (some 33)), .inr (.inr (some 34)), .inr (.inr (some 35)), .inr (.inr (some 36)), .inl ([], 0)])
def k_854 : eK := (157, ([((-2147483648), 2147483647)], [.inr (.inr (some 0)), .inl ([(0, 1)], 0)], [(0, z_51), (2, z_138), (4, z_139), (5, z_297), (27, z_7), (28, z_5), (29, z_5), (30, z_5), (31, z_10), (32, z_7), (33, z_5), (34, z_5), (35, z_5), (36, z_10)], 37), [([((-2147483648), 0)], some (.inl ([], (-1))), [], 37), ([(61, 2147483647)], some (.inl ([], (-1))), [], 37), ([(1, 60)], some (.inl ([], 0)), [], 37)], 0, 0, 4)
def ak_854 : List eAn := [(0, [([(0, 1)], 0)], []), (0, [], []), (1, [], []), (1, [], [5, 4, 2, 32, 33, 34, 35, 36, 27, 28, 29, 30, 31]), (2, [([(0, 1)], 0)], [5, 2, 32, 33, 34, 35, 36, 16, 17, 18, 19, 20, 21, 22, 23, 24, 25, 26]), (3, [], [5, 2, 32, 33, 34, 35, 36, 16, 17, 18, 19, 20, 21, 22, 23, 24, 25, 26]), (4, [], [4, 2, 27, 28, 29, 30, 31, 16, 17, 18, 19, 20, 21, 22, 23, 24, 25, 26]), (2, [], []), (5, [], [5, 2, 32, 33, 34, 35, 36, 16, 17, 18, 19, 20, 21, 22, 23, 24, 25, 26]), (4, [], [4, 2, 27, 28, 29, 30, 31, 16, 17, 18, 19, 20, 21, 22, 23, 24, 25, 26]), (2, [], []), (6, [], [5, 2, 32, 33, 34, 35, 36, 16, 17, 18, 19, 20, 21, 22, 23, 24, 25, 26]), (4, [], [4, 2, 27, 28, 29, 30, 31, 16, 17, 18, 19, 20, 21, 22, 23, 24, 25, 26]), (2, [], []), (7, [], [5, 2, 32, 33, 34, 35, 36, 16, 17, 18, 19, 20, 21, 22, 23, 24, 25, 26]), (4, [], [4, 2, 27, 28, 29, 30, 31, 16, 17, 18, 19, 20, 21, 22, 23, 24, 25, 26]), (2, [], []), (8, [], [5, 2, 32, 33, 34, 35, 36, 16, 17, 18, 19, 20, 21, 22, 23, 24, 25, 26]), (4, [], [4, 2, 27, 28, 29, 30, 31, 16, 17, 18, 19, 20, 21, 22, 23, 24, 25, 26]), (2, [], []), (9, [], [5, 2, 32, 33, 34, 35, 36, 16, 17, 18, 19, 20, 21, 22, 23, 24, 25, 26]), (4, [], [4, 2, 27, 28, 29, 30, 31, 16, 17, 18, 19, 20, 21, 22, 23, 24, 25, 26]), (2, [], []), (10, [], [5, 2, 32, 33, 34, 35, 36, 16, 17, 18, 19, 20, 21, 22, 23, 24, 25, 26]), (4, [], [4, 2, 27, 28, 29, 30, 31, 16, 17, 18, 19, 20, 21, 22, 23, 24, 25, 26]), (2, [], []), (11, [], [5, 2, 32, 33, 34, 35, 36, 16, 17, 18, 19, 20, 21, 22, 23, 24, 25, 26]), (4, [], [4, 2, 27, 28, 29, 30, 31, 16, 17, 18, 19, 20, 21, 22, 23, 24, 25, 26]), (2, [], []), (12, [], [5, 2, 32, 33, 34, 35, 36, 16, 17, 18, 19, 20, 21, 22, 23, 24, 25, 26]), (4, [], [4, 2, 27, 28, 29, 30, 31, 16, 17, 18, 19, 20, 21, 22, 23, 24, 25, 26]), (2, [], []), (13, [], [5, 2, 32, 33, 34, 35, 36, 16, 17, 18, 19, 20, 21, 22, 23, 24, 25, 26]), (4, [], [4, 2, 27, 28, 29, 30, 31, 16, 17, 18, 19, 20, 21, 22, 23, 24, 25, 26]), (2, [], []), (14, [], [5, 2, 32, 33, 34, 35, 36, 16, 17, 18, 19, 20, 21, 22, 23, 24, 25, 26]), (4, [], [4, 2, 27, 28, 29, 30, 31, 16, 17, 18, 19, 20, 21, 22, 23, 24, 25, 26]), (2, [], []), (15, [], [5, 2, 32, 33, 34, 35, 36, 16, 17, 18, 19, 20, 21, 22, 23, 24, 25, 26]), (4, [], [4, 2, 27, 28, 29, 30, 31, 16, 17, 18, 19, 20, 21, 22, 23, 24, 25, 26]), (2, [], []), (16, [], [5, 2, 32, 33, 34, 35, 36, 16, 17, 18, 19, 20, 21, 22, 23, 24, 25, 26]), (4, [], [4, 2, 27, 28, 29, 30, 31, 16, 17, 18, 19, 20, 21, 22, 23, 24, 25, 26]), (2, [], []), (17, [], [5, 2, 32, 33, 34, 35, 36, 16, 17, 18, 19, 20, 21, 22, 23, 24, 25, 26]), (4, [], [4, 2, 27, 28, 29, 30, 31, 16, 17, 18, 19, 20, 21, 22, 23, 24, 25, 26]), (2, [], []), (18, [], [5, 2, 32, 33, 34, 35, 36, 16, 17, 18, 19, 20, 21, 22, 23, 24, 25, 26]), (4, [], [4, 2, 27, 28, 29, 30, 31, 16, 17, 18, 19, 20, 21, 22, 23, 24, 25, 26]), (2, [], []), (19, [], [5, 2, 32, 33, 34, 35, 36, 16, 17, 18, 19, 20, 21, 22, 23, 24, 25, 26]), (4, [], [4, 2, 27, 28, 29, 30, 31, 16, 17, 18, 19, 20, 21, 22, 23, 24, 25, 26]), (2, [], []), (20, [], [5, 2, 32, 33, 34, 35, 36, 16, 17, 18, 19, 20, 21, 22, 23, 24, 25, 26]), (4, [], [4, 2, 27, 28, 29, 30, 31, 16, 17, 18, 19, 20, 21, 22, 23, 24, 25, 26]), (2, [], []), (21, [], [5, 2, 32, 33, 34, 35, 36, 16, 17, 18, 19, 20, 21, 22, 23, 24, 25, 26]), (4, [], [4, 2, 27, 28, 29, 30, 31, 16, 17, 18, 19, 20, 21, 22, 23, 24, 25, 26]), (2, [], []), (22, [], [5, 2, 32, 33, 34, 35, 36, 16, 17, 18, 19, 20, 21, 22, 23, 24, 25, 26]), (4, [], [4, 2, 27, 28, 29, 30, 31, 16, 17, 18, 19, 20, 21, 22, 23, 24, 25, 26]), (2, [], []), (23, [], [5, 2, 32, 33, 34, 35, 36, 16, 17, 18, 19, 20, 21, 22, 23, 24, 25, 26]), (4, [], [4, 2, 27, 28, 29, 30, 31, 16, 17, 18, 19, 20, 21, 22, 23, 24, 25, 26]), (2, [], []), (24, [], [5, 2, 32, 33, 34, 35, 36, 16, 17, 18, 19, 20, 21, 22, 23, 24, 25, 26]), (4, [], [4, 2, 27, 28, 29, 30, 31, 16, 17, 18, 19, 20, 21, 22, 23, 24, 25, 26]), (2, [], []), (25, [], [5, 2, 32, 33, 34, 35, 36, 16, 17, 18, 19, 20, 21, 22, 23, 24, 25, 26]), (4, [], [4, 2, 27, 28, 29, 30, 31, 16, 17, 18, 19, 20, 21, 22, 23, 24, 25, 26]), (2, [], []), (26, [], [5, 2, 32, 33, 34, 35, 36, 16, 17, 18, 19, 20, 21, 22, 23, 24, 25, 26]), (4, [], [4, 2, 27, 28, 29, 30, 31, 16, 17, 18, 19, 20, 21, 22, 23, 24, 25, 26]), (2, [], []), (27, [], [5, 2, 32, 33, 34, 35, 36, 16, 17, 18, 19, 20, 21, 22, 23, 24, 25, 26]), (4, [], [4, 2, 27, 28, 29, 30, 31, 16, 17, 18, 19, 20, 21, 22, 23, 24, 25, 26]), (2, [], []), (28, [], [5, 2, 32, 33, 34, 35, 36, 16, 17, 18, 19, 20, 21, 22, 23, 24, 25, 26]), (4, [], [4, 2, 27, 28, 29, 30, 31, 16, 17, 18, 19, 20, 21, 22, 23, 24, 25, 26]), (2, [], []), (29, [], [5, 2, 32, 33, 34, 35, 36, 16, 17, 18, 19, 20, 21, 22, 23, 24, 25, 26]), (4, [], [4, 2, 27, 28, 29, 30, 31, 16, 17, 18, 19, 20, 21, 22, 23, 24, 25, 26]), (2, [], []), (30, [], [5, 2, 32, 33, 34, 35, 36, 16, 17, 18, 19, 20, 21, 22, 23, 24, 25, 26]), (4, [], [4, 2, 27, 28, 29, 30, 31, 16, 17, 18, 19, 20, 21, 22, 23, 24, 25, 26]), (2, [], []), (31, [], [5, 2, 32, 33, 34, 35, 36, 16, 17, 18, 19, 20, 21, 22, 23, 24, 25, 26]), (4, [], [4, 2, 27, 28, 29, 30, 31, 16, 17, 18, 19, 20, 21, 22, 23, 24, 25, 26]), (2, [], []), (32, [], [5, 2, 32, 33, 34, 35, 36, 16, 17, 18, 19, 20, 21, 22, 23, 24, 25, 26]), (4, [], [4, 2, 27, 28, 29, 30, 31, 16, 17, 18, 19, 20, 21, 22, 23, 24, 25, 26]), (2, [], []), (33, [], [5, 2, 32, 33, 34, 35, 36, 16, 17, 18, 19, 20, 21, 22, 23, 24, 25, 26]), (4, [], [4, 2, 27, 28, 29, 30, 31, 16, 17, 18, 19, 20, 21, 22, 23, 24, 25, 26]), (2, [], []), (34, [], [5, 2, 32, 33, 34, 35, 36, 16, 17, 18, 19, 20, 21, 22, 23, 24, 25, 26]), (4, [], [4, 2, 27, 28, 29, 30, 31, 16, 17, 18, 19, 20, 21, 22, 23, 24, 25, 26]), (2, [], []), (35, [], [5, 2, 32, 33, 34, 35, 36, 16, 17, 18, 19, 20, 21, 22, 23, 24, 25, 26]), (4, [], [4, 2, 27, 28, 29, 30, 31, 16, 17, 18, 19, 20, 21, 22, 23, 24, 25, 26]), (2, [], []), (36, [], [5, 2, 32, 33, 34, 35, 36, 16, 17, 18, 19, 20, 21, 22, 23, 24, 25, 26]), (4, [], [4, 2, 27, 28, 29, 30, 31, 16, 17, 18, 19, 20, 21, 22, 23, 24, 25, 26]), (2, [], []), (37, [], [5, 2, 32, 33, 34, 35, 36, 16, 17, 18, 19, 20, 21, 22, 23, 24, 25, 26]), (4, [], [4, 2, 27, 28, 29, 30, 31, 16, 17, 18, 19, 20, 21, 22, 23, 24, 25, 26]), (2, [], []), (38, [], [5, 2, 32, 33, 34, 35, 36, 16, 17, 18, 19, 20, 21, 22, 23, 24, 25, 26]), (4, [], [4, 2, 27, 28, 29, 30, 31, 16, 17, 18, 19, 20, 21, 22, 23, 24, 25, 26]), (2, [], []), (39, [], [5, 2, 32, 33, 34, 35, 36, 16, 17, 18, 19, 20, 21, 22, 23, 24, 25, 26]), (4, [], [4, 2, 27, 28, 29, 30, 31, 16, 17, 18, 19, 20, 21, 22, 23, 24, 25, 26]), (2, [], []), (40, [], [5, 2, 32, 33, 34, 35, 36, 16, 17, 18, 19, 20, 21, 22, 23, 24, 25, 26]), (4, [], [4, 2, 27, 28, 29, 30, 31, 16, 17, 18, 19, 20, 21, 22, 23, 24, 25, 26]), (2, [], []), (41, [], [5, 2, 32, 33, 34, 35, 36, 16, 17, 18, 19, 20, 21, 22, 23, 24, 25, 26]), (4, [], [4, 2, 27, 28, 29, 30, 31, 16, 17, 18, 19, 20, 21, 22, 23, 24, 25, 26]), (2, [], []), (42, [], [5, 2, 32, 33, 34, 35, 36, 16, 17, 18, 19, 20, 21, 22, 23, 24, 25, 26]), (4, [], [4, 2, 27, 28, 29, 30, 31, 16, 17, 18, 19, 20, 21, 22, 23, 24, 25, 26]), (2, [], []), (43, [], [5, 2, 32, 33, 34, 35, 36, 16, 17, 18, 19, 20, 21, 22, 23, 24, 25, 26]), (4, [], [4, 2, 27, 28, 29, 30, 31, 16, 17, 18, 19, 20, 21, 22, 23, 24, 25, 26]), (2, [], []), (44, [], [5, 2, 32, 33, 34, 35, 36, 16, 17, 18, 19, 20, 21, 22, 23, 24, 25, 26]), (4, [], [4, 2, 27, 28, 29, 30, 31, 16, 17, 18, 19, 20, 21, 22, 23, 24, 25, 26]), (2, [], []), (45, [], [5, 2, 32, 33, 34, 35, 36, 16, 17, 18, 19, 20, 21, 22, 23, 24, 25, 26]), (4, [], [4, 2, 27, 28, 29, 30, 31, 16, 17, 18, 19, 20, 21, 22, 23, 24, 25, 26]), (2, [], []), (46, [], [5, 2, 32, 33, 34, 35, 36, 16, 17, 18, 19, 20, 21, 22, 23, 24, 25, 26]), (4, [], [4, 2, 27, 28, 29, 30, 31, 16, 17, 18, 19, 20, 21, 22, 23, 24, 25, 26]), (2, [], []), (47, [], [5, 2, 32, 33, 34, 35, 36, 16, 17, 18, 19, 20, 21, 22, 23, 24, 25, 26]), (4, [], [4, 2, 27, 28, 29, 30, 31, 16, 17, 18, 19, 20, 21, 22, 23, 24, 25, 26]), (2, [], []), (48, [], [5, 2, 32, 33, 34, 35, 36, 16, 17, 18, 19, 20, 21, 22, 23, 24, 25, 26]), (4, [], [4, 2, 27, 28, 29, 30, 31, 16, 17, 18, 19, 20, 21, 22, 23, 24, 25, 26]), (2, [], []), (49, [], [5, 2, 32, 33, 34, 35, 36, 16, 17, 18, 19, 20, 21, 22, 23, 24, 25, 26]), (4, [], [4, 2, 27, 28, 29, 30, 31, 16, 17, 18, 19, 20, 21, 22, 23, 24, 25, 26]), (2, [], []), (50, [], [5, 2, 32, 33, 34, 35, 36, 16, 17, 18, 19, 20, 21, 22, 23, 24, 25, 26]), (4, [], [4, 2, 27, 28, 29, 30, 31, 16, 17, 18, 19, 20, 21, 22, 23, 24, 25, 26]), (2, [], []), (51, [], [5, 2, 32, 33, 34, 35, 36, 16, 17, 18, 19, 20, 21, 22, 23, 24, 25, 26]), (4, [], [4, 2, 27, 28, 29, 30, 31, 16, 17, 18, 19, 20, 21, 22, 23, 24, 25, 26]), (2, [], []), (52, [], [5, 2, 32, 33, 34, 35, 36, 16, 17, 18, 19, 20, 21, 22, 23, 24, 25, 26]), (4, [], [4, 2, 27, 28, 29, 30, 31, 16, 17, 18, 19, 20, 21, 22, 23, 24, 25, 26]), (2, [], []), (53, [], [5, 2, 32, 33, 34, 35, 36, 16, 17, 18, 19, 20, 21, 22, 23, 24, 25, 26]), (4, [], [4, 2, 27, 28, 29, 30, 31, 16, 17, 18, 19, 20, 21, 22, 23, 24, 25, 26]), (2, [], []), (54, [], [5, 2, 32, 33, 34, 35, 36, 16, 17, 18, 19, 20, 21, 22, 23, 24, 25, 26]), (4, [], [4, 2, 27, 28, 29, 30, 31, 16, 17, 18, 19, 20, 21, 22, 23, 24, 25, 26]), (2, [], []), (55, [], [5, 2, 32, 33, 34, 35, 36, 16, 17, 18, 19, 20, 21, 22, 23, 24, 25, 26]), (4, [], [4, 2, 27, 28, 29, 30, 31, 16, 17, 18, 19, 20, 21, 22, 23, 24, 25, 26]), (2, [], []), (56, [], [5, 2, 32, 33, 34, 35, 36, 16, 17, 18, 19, 20, 21, 22, 23, 24, 25, 26]), (4, [], [4, 2, 27, 28, 29, 30, 31, 16, 17, 18, 19, 20, 21, 22, 23, 24, 25, 26]), (2, [], []), (57, [], [5, 2, 32, 33, 34, 35, 36, 16, 17, 18, 19, 20, 21, 22, 23, 24, 25, 26]), (4, [], [4, 2, 27, 28, 29, 30, 31, 16, 17, 18, 19, 20, 21, 22, 23, 24, 25, 26]), (2, [], []), (58, [], [5, 2, 32, 33, 34, 35, 36, 16, 17, 18, 19, 20, 21, 22, 23, 24, 25, 26]), (4, [], [4, 2, 27, 28, 29, 30, 31, 16, 17, 18, 19, 20, 21, 22, 23, 24, 25, 26]), (2, [], []), (59, [], [5, 2, 32, 33, 34, 35, 36, 16, 17, 18, 19, 20, 21, 22, 23, 24, 25, 26]), (4, [], [4, 2, 27, 28, 29, 30, 31, 16, 17, 18, 19, 20, 21, 22, 23, 24, 25, 26]), (2, [], []), (60, [], [5, 2, 32, 33, 34, 35, 36, 16, 17, 18, 19, 20, 21, 22, 23, 24, 25, 26]), (4, [], [4, 2, 27, 28, 29, 30, 31, 16, 17, 18, 19, 20, 21, 22, 23, 24, 25, 26]), (2, [], []), (61, [], [5, 2, 32, 33, 34, 35, 36, 16, 17, 18, 19, 20, 21, 22, 23, 24, 25, 26]), (4, [], [4, 2, 27, 28, 29, 30, 31, 16, 17, 18, 19, 20, 21, 22, 23, 24, 25, 26]), (2, [], []), (62, [], [5, 2, 32, 33, 34, 35, 36, 16, 17, 18, 19, 20, 21, 22, 23, 24, 25, 26]), (4, [], [4, 2, 27, 28, 29, 30, 31, 16, 17, 18, 19, 20, 21, 22, 23, 24, 25, 26]), (2, [], []), (63, [], [5, 2, 32, 33, 34, 35, 36, 16, 17, 18, 19, 20, 21, 22, 23, 24, 25, 26]), (4, [], [4, 2, 27, 28, 29, 30, 31, 16, 17, 18, 19, 20, 21, 22, 23, 24, 25, 26]), (2, [], [])]
theorem K_854 {l : Launch} {D : va_G} {ca : Nat → ClassId} : KMet l D ca k_854 := K_go (KS := [k_123, k_99, k_266, k_794, k_77, k_795, k_796, k_797, k_798, k_799, k_800, k_801, k_802, k_803, k_804, k_805, k_806, k_807, k_808, k_809, k_810, k_811, k_812, k_813, k_814, k_815, k_816, k_817, k_818, k_819, k_820, k_821, k_822, k_823, k_824, k_825, k_826, k_827, k_828, k_829, k_830, k_831, k_832, k_833, k_834, k_835, k_836, k_837, k_838, k_839, k_840, k_841, k_842, k_843, k_844, k_845, k_846, k_847, k_848, k_849, k_850, k_851, k_852, k_853]) (ini := false) (n := 25) (an := ak_854) (by decide +kernel) C_157_ok (KS_cons K_123 (KS_cons K_99 (KS_cons K_266 (KS_cons K_794 (KS_cons K_77 (KS_cons K_795 (KS_cons K_796 (KS_cons K_797 (KS_cons K_798 (KS_cons K_799 (KS_cons K_800 (KS_cons K_801 (KS_cons K_802 (KS_cons K_803 (KS_cons K_804 (KS_cons K_805 (KS_cons K_806 (KS_cons K_807 (KS_cons K_808 (KS_cons K_809 (KS_cons K_810 (KS_cons K_811 (KS_cons K_812 (KS_cons K_813 (KS_cons K_814 (KS_cons K_815 (KS_cons K_816 (KS_cons K_817 (KS_cons K_818 (KS_cons K_819 (KS_cons K_820 (KS_cons K_821 (KS_cons K_822 (KS_cons K_823 (KS_cons K_824 (KS_cons K_825 (KS_cons K_826 (KS_cons K_827 (KS_cons K_828 (KS_cons K_829 (KS_cons K_830 (KS_cons K_831 (KS_cons K_832 (KS_cons K_833 (KS_cons K_834 (KS_cons K_835 (KS_cons K_836 (KS_cons K_837 (KS_cons K_838 (KS_cons K_839 (KS_cons K_840 (KS_cons K_841 (KS_cons K_842 (KS_cons K_843 (KS_cons K_844 (KS_cons K_845 (KS_cons K_846 (KS_cons K_847 (KS_cons K_848 (KS_cons K_849 (KS_cons K_850 (KS_cons K_851 (KS_cons K_852 (KS_cons K_853 KS_nil)))))))))))))))))))))))))))))))))))))))))))))))))))))))))))))))) (by decide +kernel)
def k_855 : eK := (343, ([((-2147483648), 0)], [.inr (.inr (some 0)), .inl ([(0, 1)], 0)], [(0, z_83)], 24), [([((-2147483648), 0)], some (.inl ([], (-1))), [], 24)], 0, 0, 2)
def ak_855 : List eAn := [(0, [([(0, 1)], 0)], []), (0, [], [])]
theorem K_855 {l : Launch} {D : va_G} {ca : Nat → ClassId} : KMet l D ca k_855 := K_go (KS := [k_268]) (ini := false) (n := 12) (an := ak_855) (by decide +kernel) C_343_ok (KS_cons K_268 KS_nil) (by decide +kernel)
def k_856 : eK := (343, ([(61, 2147483647)], [.inr (.inr (some 0)), .inl ([(0, 1)], 0)], [(0, z_83)], 24), [([(61, 2147483647)], some (.inl ([], (-1))), [], 24)], 0, 0, 2)
def ak_856 : List eAn := [(0, [([(0, 1)], 0)], []), (0, [], [])]
theorem K_856 {l : Launch} {D : va_G} {ca : Nat → ClassId} : KMet l D ca k_856 := K_go (KS := [k_270]) (ini := false) (n := 12) (an := ak_856) (by decide +kernel) C_343_ok (KS_cons K_270 KS_nil) (by decide +kernel)
def k_857 : eK := (310, ([(1, 60)], [.inr (.inr (some 0)), .inl ([(0, 1)], 0)], [(0, z_83), (2, z_88)], 24), [([(1, 1)], some (.inl ([(0, 1)], 0)), [(0, z_83), (2, z_217)], 24), ([(2, 2)], some (.inl ([(0, 1)], 0)), [(0, z_83), (2, z_219)], 24), ([(3, 3)], some (.inl ([(0, 1)], 0)), [(0, z_83), (2, z_221)], 24), ([(4, 4)], some (.inl ([(0, 1)], 0)), [(0, z_83), (2, z_223)], 24), ([(5, 5)], some (.inl ([(0, 1)], 0)), [(0, z_83), (2, z_225)], 24), ([(6, 6)], some (.inl ([(0, 1)], 0)), [(0, z_83), (2, z_227)], 24), ([(7, 7)], some (.inl ([(0, 1)], 0)), [(0, z_83), (2, z_228)], 24), ([(8, 8)], some (.inl ([(0, 1)], 0)), [(0, z_83), (2, z_230)], 24), ([(9, 9)], some (.inl ([(0, 1)], 0)), [(0, z_83), (2, z_232)], 24), ([(10, 10)], some (.inl ([(0, 1)], 0)), [(0, z_83), (2, z_233)], 24), ([(11, 11)], some (.inl ([(0, 1)], 0)), [(0, z_83), (2, z_234)], 24), ([(12, 12)], some (.inl ([(0, 1)], 0)), [(0, z_83), (2, z_235)], 24), ([(13, 13)], some (.inl ([(0, 1)], 0)), [(0, z_83), (2, z_236)], 24), ([(14, 14)], some (.inl ([(0, 1)], 0)), [(0, z_83), (2, z_237)], 24), ([(15, 15)], some (.inl ([(0, 1)], 0)), [(0, z_83), (2, z_238)], 24), ([(16, 16)], some (.inl ([(0, 1)], 0)), [(0, z_83), (2, z_239)], 24), ([(17, 17)], some (.inl ([(0, 1)], 0)), [(0, z_83), (2, z_240)], 24), ([(18, 18)], some (.inl ([(0, 1)], 0)), [(0, z_83), (2, z_241)], 24), ([(19, 19)], some (.inl ([(0, 1)], 0)), [(0, z_83), (2, z_242)], 24), ([(20, 20)], some (.inl ([(0, 1)], 0)), [(0, z_83), (2, z_243)], 24), ([(21, 21)], some (.inl ([(0, 1)], 0)), [(0, z_83), (2, z_244)], 24), ([(22, 22)], some (.inl ([(0, 1)], 0)), [(0, z_83), (2, z_245)], 24), ([(23, 23)], some (.inl ([(0, 1)], 0)), [(0, z_83), (2, z_246)], 24), ([(24, 24)], some (.inl ([(0, 1)], 0)), [(0, z_83), (2, z_247)], 24), ([(25, 25)], some (.inl ([(0, 1)], 0)), [(0, z_83), (2, z_248)], 24), ([(26, 26)], some (.inl ([(0, 1)], 0)), [(0, z_83), (2, z_249)], 24), ([(27, 27)], some (.inl ([(0, 1)], 0)), [(0, z_83), (2, z_250)], 24), ([(28, 28)], some (.inl ([(0, 1)], 0)), [(0, z_83), (2, z_251)], 24), ([(29, 29)], some (.inl ([(0, 1)], 0)), [(0, z_83), (2, z_252)], 24), ([(30, 30)], some (.inl ([(0, 1)], 0)), [(0, z_83), (2, z_253)], 24), ([(31, 31)], some (.inl ([(0, 1)], 0)), [(0, z_83), (2, z_254)], 24), ([(32, 32)], some (.inl ([(0, 1)], 0)), [(0, z_83), (2, z_255)], 24), ([(33, 33)], some (.inl ([(0, 1)], 0)), [(0, z_83), (2, z_256)], 24), ([(34, 34)], some (.inl ([(0, 1)], 0)), [(0, z_83), (2, z_257)], 24), ([(35, 35)], some (.inl ([(0, 1)], 0)), [(0, z_83), (2, z_258)], 24), ([(36, 36)], some (.inl ([(0, 1)], 0)), [(0, z_83), (2, z_259)], 24), ([(37, 37)], some (.inl ([(0, 1)], 0)), [(0, z_83), (2, z_260)], 24), ([(38, 38)], some (.inl ([(0, 1)], 0)), [(0, z_83), (2, z_261)], 24), ([(39, 39)], some (.inl ([(0, 1)], 0)), [(0, z_83), (2, z_262)], 24), ([(40, 40)], some (.inl ([(0, 1)], 0)), [(0, z_83), (2, z_263)], 24), ([(41, 41)], some (.inl ([(0, 1)], 0)), [(0, z_83), (2, z_264)], 24), ([(42, 42)], some (.inl ([(0, 1)], 0)), [(0, z_83), (2, z_265)], 24), ([(43, 43)], some (.inl ([(0, 1)], 0)), [(0, z_83), (2, z_266)], 24), ([(44, 44)], some (.inl ([(0, 1)], 0)), [(0, z_83), (2, z_267)], 24), ([(45, 45)], some (.inl ([(0, 1)], 0)), [(0, z_83), (2, z_268)], 24), ([(46, 46)], some (.inl ([(0, 1)], 0)), [(0, z_83), (2, z_269)], 24), ([(47, 47)], some (.inl ([(0, 1)], 0)), [(0, z_83), (2, z_270)], 24), ([(48, 48)], some (.inl ([(0, 1)], 0)), [(0, z_83), (2, z_271)], 24), ([(49, 49)], some (.inl ([(0, 1)], 0)), [(0, z_83), (2, z_272)], 24), ([(50, 50)], some (.inl ([(0, 1)], 0)), [(0, z_83), (2, z_273)], 24), ([(51, 51)], some (.inl ([(0, 1)], 0)), [(0, z_83), (2, z_274)], 24), ([(52, 52)], some (.inl ([(0, 1)], 0)), [(0, z_83), (2, z_275)], 24), ([(53, 53)], some (.inl ([(0, 1)], 0)), [(0, z_83), (2, z_276)], 24), ([(54, 54)], some (.inl ([(0, 1)], 0)), [(0, z_83), (2, z_277)], 24), ([(55, 55)], some (.inl ([(0, 1)], 0)), [(0, z_83), (2, z_278)], 24), ([(56, 56)], some (.inl ([(0, 1)], 0)), [(0, z_83), (2, z_279)], 24), ([(57, 57)], some (.inl ([(0, 1)], 0)), [(0, z_83), (2, z_280)], 24), ([(58, 58)], some (.inl ([(0, 1)], 0)), [(0, z_83), (2, z_281)], 24), ([(59, 59)], some (.inl ([(0, 1)], 0)), [(0, z_83), (2, z_282)], 24), ([(60, 60)], some (.inl ([(0, 1)], 0)), [(0, z_83), (2, z_283)], 24)], 0, 0, 4)
def ak_857 : List eAn := [(0, [([(0, 1)], 0)], []), (1, [], List.range 24), (0, [], []), (2, [], List.range 24), (1, [], []), (3, [], List.range 24), (2, [], []), (4, [], List.range 24), (3, [], []), (5, [], List.range 24), (4, [], []), (6, [], List.range 24), (5, [], []), (7, [], List.range 24), (6, [], []), (8, [], List.range 24), (7, [], []), (9, [], List.range 24), (8, [], []), (10, [], List.range 24), (9, [], []), (11, [], List.range 24), (10, [], []), (12, [], List.range 24), (11, [], []), (13, [], List.range 24), (12, [], []), (14, [], List.range 24), (13, [], []), (15, [], List.range 24), (14, [], []), (16, [], List.range 24), (15, [], []), (17, [], List.range 24), (16, [], []), (18, [], List.range 24), (17, [], []), (19, [], List.range 24), (18, [], []), (20, [], List.range 24), (19, [], []), (21, [], List.range 24), (20, [], []), (22, [], List.range 24), (21, [], []), (23, [], List.range 24), (22, [], []), (24, [], List.range 24), (23, [], []), (25, [], List.range 24), (24, [], []), (26, [], List.range 24), (25, [], []), (27, [], List.range 24), (26, [], []), (28, [], List.range 24), (27, [], []), (29, [], List.range 24), (28, [], []), (30, [], List.range 24), (29, [], []), (31, [], List.range 24), (30, [], []), (32, [], List.range 24), (31, [], []), (33, [], List.range 24), (32, [], []), (34, [], List.range 24), (33, [], []), (35, [], List.range 24), (34, [], []), (36, [], List.range 24), (35, [], []), (37, [], List.range 24), (36, [], []), (38, [], List.range 24), (37, [], []), (39, [], List.range 24), (38, [], []), (40, [], List.range 24), (39, [], []), (41, [], List.range 24), (40, [], []), (42, [], List.range 24), (41, [], []), (43, [], List.range 24), (42, [], []), (44, [], List.range 24), (43, [], []), (45, [], List.range 24), (44, [], []), (46, [], List.range 24), (45, [], []), (47, [], List.range 24), (46, [], []), (48, [], List.range 24), (47, [], []), (49, [], List.range 24), (48, [], []), (50, [], List.range 24), (49, [], []), (51, [], List.range 24), (50, [], []), (52, [], List.range 24), (51, [], []), (53, [], List.range 24), (52, [], []), (54, [], List.range 24), (53, [], []), (55, [], List.range 24), (54, [], []), (56, [], List.range 24), (55, [], []), (57, [], List.range 24), (56, [], []), (58, [], List.range 24), (57, [], []), (59, [], List.range 24), (58, [], []), (60, [], List.range 24), (59, [], [])]
theorem K_857 {l : Launch} {D : va_G} {ca : Nat → ClassId} : KMet l D ca k_857 := K_go (KS := [k_273, k_433, k_439, k_445, k_451, k_457, k_463, k_469, k_475, k_481, k_487, k_493, k_499, k_505, k_511, k_517, k_523, k_529, k_535, k_541, k_547, k_553, k_559, k_565, k_571, k_577, k_583, k_589, k_595, k_601, k_607, k_613, k_619, k_621, k_623, k_631, k_637, k_643, k_645, k_647, k_649, k_651, k_661, k_667, k_673, k_675, k_677, k_679, k_681, k_691, k_697, k_703, k_705, k_707, k_709, k_711, k_721, k_727, k_733, k_735, k_737]) (ini := false) (n := 438) (an := ak_857) (by decide +kernel) C_310_ok (KS_cons K_273 (KS_cons K_433 (KS_cons K_439 (KS_cons K_445 (KS_cons K_451 (KS_cons K_457 (KS_cons K_463 (KS_cons K_469 (KS_cons K_475 (KS_cons K_481 (KS_cons K_487 (KS_cons K_493 (KS_cons K_499 (KS_cons K_505 (KS_cons K_511 (KS_cons K_517 (KS_cons K_523 (KS_cons K_529 (KS_cons K_535 (KS_cons K_541 (KS_cons K_547 (KS_cons K_553 (KS_cons K_559 (KS_cons K_565 (KS_cons K_571 (KS_cons K_577 (KS_cons K_583 (KS_cons K_589 (KS_cons K_595 (KS_cons K_601 (KS_cons K_607 (KS_cons K_613 (KS_cons K_619 (KS_cons K_621 (KS_cons K_623 (KS_cons K_631 (KS_cons K_637 (KS_cons K_643 (KS_cons K_645 (KS_cons K_647 (KS_cons K_649 (KS_cons K_651 (KS_cons K_661 (KS_cons K_667 (KS_cons K_673 (KS_cons K_675 (KS_cons K_677 (KS_cons K_679 (KS_cons K_681 (KS_cons K_691 (KS_cons K_697 (KS_cons K_703 (KS_cons K_705 (KS_cons K_707 (KS_cons K_709 (KS_cons K_711 (KS_cons K_721 (KS_cons K_727 (KS_cons K_733 (KS_cons K_735 (KS_cons K_737 KS_nil))))))))))))))))))))))))))))))))))))))))))))))))))))))))))))) (by decide +kernel)
def k_858 : eK := (299, ([], [.inr (.inr (some 0)), .inl ([], 100), .inl ([], 8)], [(0, z_83), (2, z_217)], 24), [([], some (.inl ([], 0)), [(0, z_83), (2, z_217)], 24)], 0, 0, 1)
def ak_858 : List eAn := [(0, [], [])]
theorem K_858 {l : Launch} {D : va_G} {ca : Nat → ClassId} : KMet l D ca k_858 := K_go (KS := []) (ini := false) (n := 123) (an := ak_858) (by decide +kernel) C_299_ok KS_nil (by decide +kernel)
def k_859 : eK := (299, ([], [.inr (.inr (some 0)), .inl ([], 100), .inl ([], 8)], [(0, z_83), (2, z_219)], 24), [([], some (.inl ([], 0)), [(0, z_83), (2, z_219)], 24)], 0, 0, 1)
def ak_859 : List eAn := [(0, [], [])]
theorem K_859 {l : Launch} {D : va_G} {ca : Nat → ClassId} : KMet l D ca k_859 := K_go (KS := []) (ini := false) (n := 123) (an := ak_859) (by decide +kernel) C_299_ok KS_nil (by decide +kernel)
def k_860 : eK := (299, ([], [.inr (.inr (some 0)), .inl ([], 100), .inl ([], 8)], [(0, z_83), (2, z_221)], 24), [([], some (.inl ([], 0)), [(0, z_83), (2, z_221)], 24)], 0, 0, 1)
def ak_860 : List eAn := [(0, [], [])]
theorem K_860 {l : Launch} {D : va_G} {ca : Nat → ClassId} : KMet l D ca k_860 := K_go (KS := []) (ini := false) (n := 123) (an := ak_860) (by decide +kernel) C_299_ok KS_nil (by decide +kernel)
def k_861 : eK := (299, ([], [.inr (.inr (some 0)), .inl ([], 100), .inl ([], 8)], [(0, z_83), (2, z_223)], 24), [([], some (.inl ([], 0)), [(0, z_83), (2, z_223)], 24)], 0, 0, 1)
def ak_861 : List eAn := [(0, [], [])]
theorem K_861 {l : Launch} {D : va_G} {ca : Nat → ClassId} : KMet l D ca k_861 := K_go (KS := []) (ini := false) (n := 123) (an := ak_861) (by decide +kernel) C_299_ok KS_nil (by decide +kernel)
def k_862 : eK := (299, ([], [.inr (.inr (some 0)), .inl ([], 100), .inl ([], 8)], [(0, z_83), (2, z_225)], 24), [([], some (.inl ([], 0)), [(0, z_83), (2, z_225)], 24)], 0, 0, 1)
def ak_862 : List eAn := [(0, [], [])]
theorem K_862 {l : Launch} {D : va_G} {ca : Nat → ClassId} : KMet l D ca k_862 := K_go (KS := []) (ini := false) (n := 123) (an := ak_862) (by decide +kernel) C_299_ok KS_nil (by decide +kernel)
def k_863 : eK := (299, ([], [.inr (.inr (some 0)), .inl ([], 100), .inl ([], 8)], [(0, z_83), (2, z_227)], 24), [([], some (.inl ([], 0)), [(0, z_83), (2, z_227)], 24)], 0, 0, 1)
def ak_863 : List eAn := [(0, [], [])]
theorem K_863 {l : Launch} {D : va_G} {ca : Nat → ClassId} : KMet l D ca k_863 := K_go (KS := []) (ini := false) (n := 123) (an := ak_863) (by decide +kernel) C_299_ok KS_nil (by decide +kernel)
def k_864 : eK := (299, ([], [.inr (.inr (some 0)), .inl ([], 100), .inl ([], 8)], [(0, z_83), (2, z_228)], 24), [([], some (.inl ([], 0)), [(0, z_83), (2, z_228)], 24)], 0, 0, 1)
def ak_864 : List eAn := [(0, [], [])]
theorem K_864 {l : Launch} {D : va_G} {ca : Nat → ClassId} : KMet l D ca k_864 := K_go (KS := []) (ini := false) (n := 123) (an := ak_864) (by decide +kernel) C_299_ok KS_nil (by decide +kernel)
def k_865 : eK := (299, ([], [.inr (.inr (some 0)), .inl ([], 100), .inl ([], 8)], [(0, z_83), (2, z_230)], 24), [([], some (.inl ([], 0)), [(0, z_83), (2, z_230)], 24)], 0, 0, 1)
def ak_865 : List eAn := [(0, [], [])]
theorem K_865 {l : Launch} {D : va_G} {ca : Nat → ClassId} : KMet l D ca k_865 := K_go (KS := []) (ini := false) (n := 123) (an := ak_865) (by decide +kernel) C_299_ok KS_nil (by decide +kernel)
def k_866 : eK := (299, ([], [.inr (.inr (some 0)), .inl ([], 100), .inl ([], 8)], [(0, z_83), (2, z_232)], 24), [([], some (.inl ([], 0)), [(0, z_83), (2, z_232)], 24)], 0, 0, 1)
def ak_866 : List eAn := [(0, [], [])]
theorem K_866 {l : Launch} {D : va_G} {ca : Nat → ClassId} : KMet l D ca k_866 := K_go (KS := []) (ini := false) (n := 123) (an := ak_866) (by decide +kernel) C_299_ok KS_nil (by decide +kernel)
def k_867 : eK := (299, ([], [.inr (.inr (some 0)), .inl ([], 100), .inl ([], 8)], [(0, z_83), (2, z_233)], 24), [([], some (.inl ([], 0)), [(0, z_83), (2, z_233)], 24)], 0, 0, 1)
def ak_867 : List eAn := [(0, [], [])]
theorem K_867 {l : Launch} {D : va_G} {ca : Nat → ClassId} : KMet l D ca k_867 := K_go (KS := []) (ini := false) (n := 123) (an := ak_867) (by decide +kernel) C_299_ok KS_nil (by decide +kernel)
def k_868 : eK := (299, ([], [.inr (.inr (some 0)), .inl ([], 100), .inl ([], 8)], [(0, z_83), (2, z_234)], 24), [([], some (.inl ([], 0)), [(0, z_83), (2, z_234)], 24)], 0, 0, 1)
def ak_868 : List eAn := [(0, [], [])]
theorem K_868 {l : Launch} {D : va_G} {ca : Nat → ClassId} : KMet l D ca k_868 := K_go (KS := []) (ini := false) (n := 123) (an := ak_868) (by decide +kernel) C_299_ok KS_nil (by decide +kernel)
def k_869 : eK := (299, ([], [.inr (.inr (some 0)), .inl ([], 100), .inl ([], 8)], [(0, z_83), (2, z_235)], 24), [([], some (.inl ([], 0)), [(0, z_83), (2, z_235)], 24)], 0, 0, 1)
def ak_869 : List eAn := [(0, [], [])]
theorem K_869 {l : Launch} {D : va_G} {ca : Nat → ClassId} : KMet l D ca k_869 := K_go (KS := []) (ini := false) (n := 123) (an := ak_869) (by decide +kernel) C_299_ok KS_nil (by decide +kernel)
def k_870 : eK := (299, ([], [.inr (.inr (some 0)), .inl ([], 100), .inl ([], 8)], [(0, z_83), (2, z_236)], 24), [([], some (.inl ([], 0)), [(0, z_83), (2, z_236)], 24)], 0, 0, 1)
def ak_870 : List eAn := [(0, [], [])]
theorem K_870 {l : Launch} {D : va_G} {ca : Nat → ClassId} : KMet l D ca k_870 := K_go (KS := []) (ini := false) (n := 123) (an := ak_870) (by decide +kernel) C_299_ok KS_nil (by decide +kernel)
def k_871 : eK := (299, ([], [.inr (.inr (some 0)), .inl ([], 100), .inl ([], 8)], [(0, z_83), (2, z_237)], 24), [([], some (.inl ([], 0)), [(0, z_83), (2, z_237)], 24)], 0, 0, 1)
def ak_871 : List eAn := [(0, [], [])]
theorem K_871 {l : Launch} {D : va_G} {ca : Nat → ClassId} : KMet l D ca k_871 := K_go (KS := []) (ini := false) (n := 123) (an := ak_871) (by decide +kernel) C_299_ok KS_nil (by decide +kernel)
def k_872 : eK := (299, ([], [.inr (.inr (some 0)), .inl ([], 100), .inl ([], 8)], [(0, z_83), (2, z_238)], 24), [([], some (.inl ([], 0)), [(0, z_83), (2, z_238)], 24)], 0, 0, 1)
def ak_872 : List eAn := [(0, [], [])]
theorem K_872 {l : Launch} {D : va_G} {ca : Nat → ClassId} : KMet l D ca k_872 := K_go (KS := []) (ini := false) (n := 123) (an := ak_872) (by decide +kernel) C_299_ok KS_nil (by decide +kernel)
def k_873 : eK := (299, ([], [.inr (.inr (some 0)), .inl ([], 100), .inl ([], 8)], [(0, z_83), (2, z_239)], 24), [([], some (.inl ([], 0)), [(0, z_83), (2, z_239)], 24)], 0, 0, 1)
def ak_873 : List eAn := [(0, [], [])]
theorem K_873 {l : Launch} {D : va_G} {ca : Nat → ClassId} : KMet l D ca k_873 := K_go (KS := []) (ini := false) (n := 123) (an := ak_873) (by decide +kernel) C_299_ok KS_nil (by decide +kernel)
def k_874 : eK := (299, ([], [.inr (.inr (some 0)), .inl ([], 100), .inl ([], 8)], [(0, z_83), (2, z_240)], 24), [([], some (.inl ([], 0)), [(0, z_83), (2, z_240)], 24)], 0, 0, 1)
def ak_874 : List eAn := [(0, [], [])]
theorem K_874 {l : Launch} {D : va_G} {ca : Nat → ClassId} : KMet l D ca k_874 := K_go (KS := []) (ini := false) (n := 123) (an := ak_874) (by decide +kernel) C_299_ok KS_nil (by decide +kernel)
def k_875 : eK := (299, ([], [.inr (.inr (some 0)), .inl ([], 100), .inl ([], 8)], [(0, z_83), (2, z_241)], 24), [([], some (.inl ([], 0)), [(0, z_83), (2, z_241)], 24)], 0, 0, 1)
def ak_875 : List eAn := [(0, [], [])]
theorem K_875 {l : Launch} {D : va_G} {ca : Nat → ClassId} : KMet l D ca k_875 := K_go (KS := []) (ini := false) (n := 123) (an := ak_875) (by decide +kernel) C_299_ok KS_nil (by decide +kernel)
def k_876 : eK := (299, ([], [.inr (.inr (some 0)), .inl ([], 100), .inl ([], 8)], [(0, z_83), (2, z_242)], 24), [([], some (.inl ([], 0)), [(0, z_83), (2, z_242)], 24)], 0, 0, 1)
def ak_876 : List eAn := [(0, [], [])]
theorem K_876 {l : Launch} {D : va_G} {ca : Nat → ClassId} : KMet l D ca k_876 := K_go (KS := []) (ini := false) (n := 123) (an := ak_876) (by decide +kernel) C_299_ok KS_nil (by decide +kernel)
def k_877 : eK := (299, ([], [.inr (.inr (some 0)), .inl ([], 100), .inl ([], 8)], [(0, z_83), (2, z_243)], 24), [([], some (.inl ([], 0)), [(0, z_83), (2, z_243)], 24)], 0, 0, 1)
def ak_877 : List eAn := [(0, [], [])]
theorem K_877 {l : Launch} {D : va_G} {ca : Nat → ClassId} : KMet l D ca k_877 := K_go (KS := []) (ini := false) (n := 123) (an := ak_877) (by decide +kernel) C_299_ok KS_nil (by decide +kernel)
def k_878 : eK := (299, ([], [.inr (.inr (some 0)), .inl ([], 100), .inl ([], 8)], [(0, z_83), (2, z_244)], 24), [([], some (.inl ([], 0)), [(0, z_83), (2, z_244)], 24)], 0, 0, 1)
def ak_878 : List eAn := [(0, [], [])]
theorem K_878 {l : Launch} {D : va_G} {ca : Nat → ClassId} : KMet l D ca k_878 := K_go (KS := []) (ini := false) (n := 123) (an := ak_878) (by decide +kernel) C_299_ok KS_nil (by decide +kernel)
def k_879 : eK := (299, ([], [.inr (.inr (some 0)), .inl ([], 100), .inl ([], 8)], [(0, z_83), (2, z_245)], 24), [([], some (.inl ([], 0)), [(0, z_83), (2, z_245)], 24)], 0, 0, 1)
def ak_879 : List eAn := [(0, [], [])]
theorem K_879 {l : Launch} {D : va_G} {ca : Nat → ClassId} : KMet l D ca k_879 := K_go (KS := []) (ini := false) (n := 123) (an := ak_879) (by decide +kernel) C_299_ok KS_nil (by decide +kernel)
def k_880 : eK := (299, ([], [.inr (.inr (some 0)), .inl ([], 100), .inl ([], 8)], [(0, z_83), (2, z_246)], 24), [([], some (.inl ([], 0)), [(0, z_83), (2, z_246)], 24)], 0, 0, 1)
def ak_880 : List eAn := [(0, [], [])]
theorem K_880 {l : Launch} {D : va_G} {ca : Nat → ClassId} : KMet l D ca k_880 := K_go (KS := []) (ini := false) (n := 123) (an := ak_880) (by decide +kernel) C_299_ok KS_nil (by decide +kernel)
def k_881 : eK := (299, ([], [.inr (.inr (some 0)), .inl ([], 100), .inl ([], 8)], [(0, z_83), (2, z_247)], 24), [([], some (.inl ([], 0)), [(0, z_83), (2, z_247)], 24)], 0, 0, 1)
def ak_881 : List eAn := [(0, [], [])]
theorem K_881 {l : Launch} {D : va_G} {ca : Nat → ClassId} : KMet l D ca k_881 := K_go (KS := []) (ini := false) (n := 123) (an := ak_881) (by decide +kernel) C_299_ok KS_nil (by decide +kernel)
def k_882 : eK := (299, ([], [.inr (.inr (some 0)), .inl ([], 100), .inl ([], 8)], [(0, z_83), (2, z_248)], 24), [([], some (.inl ([], 0)), [(0, z_83), (2, z_248)], 24)], 0, 0, 1)
def ak_882 : List eAn := [(0, [], [])]
theorem K_882 {l : Launch} {D : va_G} {ca : Nat → ClassId} : KMet l D ca k_882 := K_go (KS := []) (ini := false) (n := 123) (an := ak_882) (by decide +kernel) C_299_ok KS_nil (by decide +kernel)
def k_883 : eK := (299, ([], [.inr (.inr (some 0)), .inl ([], 100), .inl ([], 8)], [(0, z_83), (2, z_249)], 24), [([], some (.inl ([], 0)), [(0, z_83), (2, z_249)], 24)], 0, 0, 1)
def ak_883 : List eAn := [(0, [], [])]
theorem K_883 {l : Launch} {D : va_G} {ca : Nat → ClassId} : KMet l D ca k_883 := K_go (KS := []) (ini := false) (n := 123) (an := ak_883) (by decide +kernel) C_299_ok KS_nil (by decide +kernel)
def k_884 : eK := (299, ([], [.inr (.inr (some 0)), .inl ([], 100), .inl ([], 8)], [(0, z_83), (2, z_250)], 24), [([], some (.inl ([], 0)), [(0, z_83), (2, z_250)], 24)], 0, 0, 1)
def ak_884 : List eAn := [(0, [], [])]
theorem K_884 {l : Launch} {D : va_G} {ca : Nat → ClassId} : KMet l D ca k_884 := K_go (KS := []) (ini := false) (n := 123) (an := ak_884) (by decide +kernel) C_299_ok KS_nil (by decide +kernel)
def k_885 : eK := (299, ([], [.inr (.inr (some 0)), .inl ([], 100), .inl ([], 8)], [(0, z_83), (2, z_251)], 24), [([], some (.inl ([], 0)), [(0, z_83), (2, z_251)], 24)], 0, 0, 1)
def ak_885 : List eAn := [(0, [], [])]
theorem K_885 {l : Launch} {D : va_G} {ca : Nat → ClassId} : KMet l D ca k_885 := K_go (KS := []) (ini := false) (n := 123) (an := ak_885) (by decide +kernel) C_299_ok KS_nil (by decide +kernel)
def k_886 : eK := (299, ([], [.inr (.inr (some 0)), .inl ([], 100), .inl ([], 8)], [(0, z_83), (2, z_252)], 24), [([], some (.inl ([], 0)), [(0, z_83), (2, z_252)], 24)], 0, 0, 1)
def ak_886 : List eAn := [(0, [], [])]
theorem K_886 {l : Launch} {D : va_G} {ca : Nat → ClassId} : KMet l D ca k_886 := K_go (KS := []) (ini := false) (n := 123) (an := ak_886) (by decide +kernel) C_299_ok KS_nil (by decide +kernel)
def k_887 : eK := (299, ([], [.inr (.inr (some 0)), .inl ([], 100), .inl ([], 8)], [(0, z_83), (2, z_253)], 24), [([], some (.inl ([], 0)), [(0, z_83), (2, z_253)], 24)], 0, 0, 1)
def ak_887 : List eAn := [(0, [], [])]
theorem K_887 {l : Launch} {D : va_G} {ca : Nat → ClassId} : KMet l D ca k_887 := K_go (KS := []) (ini := false) (n := 123) (an := ak_887) (by decide +kernel) C_299_ok KS_nil (by decide +kernel)
def k_888 : eK := (299, ([], [.inr (.inr (some 0)), .inl ([], 100), .inl ([], 8)], [(0, z_83), (2, z_254)], 24), [([], some (.inl ([], 0)), [(0, z_83), (2, z_254)], 24)], 0, 0, 1)
def ak_888 : List eAn := [(0, [], [])]
theorem K_888 {l : Launch} {D : va_G} {ca : Nat → ClassId} : KMet l D ca k_888 := K_go (KS := []) (ini := false) (n := 123) (an := ak_888) (by decide +kernel) C_299_ok KS_nil (by decide +kernel)
def k_889 : eK := (299, ([], [.inr (.inr (some 0)), .inl ([], 100), .inl ([], 8)], [(0, z_83), (2, z_255)], 24), [([], some (.inl ([], 0)), [(0, z_83), (2, z_255)], 24)], 0, 0, 1)
def ak_889 : List eAn := [(0, [], [])]
theorem K_889 {l : Launch} {D : va_G} {ca : Nat → ClassId} : KMet l D ca k_889 := K_go (KS := []) (ini := false) (n := 123) (an := ak_889) (by decide +kernel) C_299_ok KS_nil (by decide +kernel)
def k_890 : eK := (299, ([], [.inr (.inr (some 0)), .inl ([], 100), .inl ([], 8)], [(0, z_83), (2, z_256)], 24), [([], some (.inl ([], 0)), [(0, z_83), (2, z_256)], 24)], 0, 0, 1)
def ak_890 : List eAn := [(0, [], [])]
theorem K_890 {l : Launch} {D : va_G} {ca : Nat → ClassId} : KMet l D ca k_890 := K_go (KS := []) (ini := false) (n := 123) (an := ak_890) (by decide +kernel) C_299_ok KS_nil (by decide +kernel)
def k_891 : eK := (299, ([], [.inr (.inr (some 0)), .inl ([], 100), .inl ([], 8)], [(0, z_83), (2, z_257)], 24), [([], some (.inl ([], 0)), [(0, z_83), (2, z_257)], 24)], 0, 0, 1)
def ak_891 : List eAn := [(0, [], [])]
theorem K_891 {l : Launch} {D : va_G} {ca : Nat → ClassId} : KMet l D ca k_891 := K_go (KS := []) (ini := false) (n := 123) (an := ak_891) (by decide +kernel) C_299_ok KS_nil (by decide +kernel)
def k_892 : eK := (299, ([], [.inr (.inr (some 0)), .inl ([], 100), .inl ([], 8)], [(0, z_83), (2, z_258)], 24), [([], some (.inl ([], 0)), [(0, z_83), (2, z_258)], 24)], 0, 0, 1)
def ak_892 : List eAn := [(0, [], [])]
theorem K_892 {l : Launch} {D : va_G} {ca : Nat → ClassId} : KMet l D ca k_892 := K_go (KS := []) (ini := false) (n := 123) (an := ak_892) (by decide +kernel) C_299_ok KS_nil (by decide +kernel)
def k_893 : eK := (299, ([], [.inr (.inr (some 0)), .inl ([], 100), .inl ([], 8)], [(0, z_83), (2, z_259)], 24), [([], some (.inl ([], 0)), [(0, z_83), (2, z_259)], 24)], 0, 0, 1)
def ak_893 : List eAn := [(0, [], [])]
theorem K_893 {l : Launch} {D : va_G} {ca : Nat → ClassId} : KMet l D ca k_893 := K_go (KS := []) (ini := false) (n := 123) (an := ak_893) (by decide +kernel) C_299_ok KS_nil (by decide +kernel)
def k_894 : eK := (299, ([], [.inr (.inr (some 0)), .inl ([], 100), .inl ([], 8)], [(0, z_83), (2, z_260)], 24), [([], some (.inl ([], 0)), [(0, z_83), (2, z_260)], 24)], 0, 0, 1)
def ak_894 : List eAn := [(0, [], [])]
theorem K_894 {l : Launch} {D : va_G} {ca : Nat → ClassId} : KMet l D ca k_894 := K_go (KS := []) (ini := false) (n := 123) (an := ak_894) (by decide +kernel) C_299_ok KS_nil (by decide +kernel)
def k_895 : eK := (299, ([], [.inr (.inr (some 0)), .inl ([], 100), .inl ([], 8)], [(0, z_83), (2, z_261)], 24), [([], some (.inl ([], 0)), [(0, z_83), (2, z_261)], 24)], 0, 0, 1)
def ak_895 : List eAn := [(0, [], [])]
theorem K_895 {l : Launch} {D : va_G} {ca : Nat → ClassId} : KMet l D ca k_895 := K_go (KS := []) (ini := false) (n := 123) (an := ak_895) (by decide +kernel) C_299_ok KS_nil (by decide +kernel)
def k_896 : eK := (299, ([], [.inr (.inr (some 0)), .inl ([], 100), .inl ([], 8)], [(0, z_83), (2, z_262)], 24), [([], some (.inl ([], 0)), [(0, z_83), (2, z_262)], 24)], 0, 0, 1)
def ak_896 : List eAn := [(0, [], [])]
theorem K_896 {l : Launch} {D : va_G} {ca : Nat → ClassId} : KMet l D ca k_896 := K_go (KS := []) (ini := false) (n := 123) (an := ak_896) (by decide +kernel) C_299_ok KS_nil (by decide +kernel)
def k_897 : eK := (299, ([], [.inr (.inr (some 0)), .inl ([], 100), .inl ([], 8)], [(0, z_83), (2, z_263)], 24), [([], some (.inl ([], 0)), [(0, z_83), (2, z_263)], 24)], 0, 0, 1)
def ak_897 : List eAn := [(0, [], [])]
theorem K_897 {l : Launch} {D : va_G} {ca : Nat → ClassId} : KMet l D ca k_897 := K_go (KS := []) (ini := false) (n := 123) (an := ak_897) (by decide +kernel) C_299_ok KS_nil (by decide +kernel)
def k_898 : eK := (299, ([], [.inr (.inr (some 0)), .inl ([], 100), .inl ([], 8)], [(0, z_83), (2, z_264)], 24), [([], some (.inl ([], 0)), [(0, z_83), (2, z_264)], 24)], 0, 0, 1)
def ak_898 : List eAn := [(0, [], [])]
theorem K_898 {l : Launch} {D : va_G} {ca : Nat → ClassId} : KMet l D ca k_898 := K_go (KS := []) (ini := false) (n := 123) (an := ak_898) (by decide +kernel) C_299_ok KS_nil (by decide +kernel)
def k_899 : eK := (299, ([], [.inr (.inr (some 0)), .inl ([], 100), .inl ([], 8)], [(0, z_83), (2, z_265)], 24), [([], some (.inl ([], 0)), [(0, z_83), (2, z_265)], 24)], 0, 0, 1)
def ak_899 : List eAn := [(0, [], [])]
theorem K_899 {l : Launch} {D : va_G} {ca : Nat → ClassId} : KMet l D ca k_899 := K_go (KS := []) (ini := false) (n := 123) (an := ak_899) (by decide +kernel) C_299_ok KS_nil (by decide +kernel)
def k_900 : eK := (299, ([], [.inr (.inr (some 0)), .inl ([], 100), .inl ([], 8)], [(0, z_83), (2, z_266)], 24), [([], some (.inl ([], 0)), [(0, z_83), (2, z_266)], 24)], 0, 0, 1)
def ak_900 : List eAn := [(0, [], [])]
theorem K_900 {l : Launch} {D : va_G} {ca : Nat → ClassId} : KMet l D ca k_900 := K_go (KS := []) (ini := false) (n := 123) (an := ak_900) (by decide +kernel) C_299_ok KS_nil (by decide +kernel)
def k_901 : eK := (299, ([], [.inr (.inr (some 0)), .inl ([], 100), .inl ([], 8)], [(0, z_83), (2, z_267)], 24), [([], some (.inl ([], 0)), [(0, z_83), (2, z_267)], 24)], 0, 0, 1)
def ak_901 : List eAn := [(0, [], [])]
theorem K_901 {l : Launch} {D : va_G} {ca : Nat → ClassId} : KMet l D ca k_901 := K_go (KS := []) (ini := false) (n := 123) (an := ak_901) (by decide +kernel) C_299_ok KS_nil (by decide +kernel)
def k_902 : eK := (299, ([], [.inr (.inr (some 0)), .inl ([], 100), .inl ([], 8)], [(0, z_83), (2, z_268)], 24), [([], some (.inl ([], 0)), [(0, z_83), (2, z_268)], 24)], 0, 0, 1)
def ak_902 : List eAn := [(0, [], [])]
theorem K_902 {l : Launch} {D : va_G} {ca : Nat → ClassId} : KMet l D ca k_902 := K_go (KS := []) (ini := false) (n := 123) (an := ak_902) (by decide +kernel) C_299_ok KS_nil (by decide +kernel)
def k_903 : eK := (299, ([], [.inr (.inr (some 0)), .inl ([], 100), .inl ([], 8)], [(0, z_83), (2, z_269)], 24), [([], some (.inl ([], 0)), [(0, z_83), (2, z_269)], 24)], 0, 0, 1)
def ak_903 : List eAn := [(0, [], [])]
theorem K_903 {l : Launch} {D : va_G} {ca : Nat → ClassId} : KMet l D ca k_903 := K_go (KS := []) (ini := false) (n := 123) (an := ak_903) (by decide +kernel) C_299_ok KS_nil (by decide +kernel)
def k_904 : eK := (299, ([], [.inr (.inr (some 0)), .inl ([], 100), .inl ([], 8)], [(0, z_83), (2, z_270)], 24), [([], some (.inl ([], 0)), [(0, z_83), (2, z_270)], 24)], 0, 0, 1)
def ak_904 : List eAn := [(0, [], [])]
theorem K_904 {l : Launch} {D : va_G} {ca : Nat → ClassId} : KMet l D ca k_904 := K_go (KS := []) (ini := false) (n := 123) (an := ak_904) (by decide +kernel) C_299_ok KS_nil (by decide +kernel)
def k_905 : eK := (299, ([], [.inr (.inr (some 0)), .inl ([], 100), .inl ([], 8)], [(0, z_83), (2, z_271)], 24), [([], some (.inl ([], 0)), [(0, z_83), (2, z_271)], 24)], 0, 0, 1)
def ak_905 : List eAn := [(0, [], [])]
theorem K_905 {l : Launch} {D : va_G} {ca : Nat → ClassId} : KMet l D ca k_905 := K_go (KS := []) (ini := false) (n := 123) (an := ak_905) (by decide +kernel) C_299_ok KS_nil (by decide +kernel)
def k_906 : eK := (299, ([], [.inr (.inr (some 0)), .inl ([], 100), .inl ([], 8)], [(0, z_83), (2, z_272)], 24), [([], some (.inl ([], 0)), [(0, z_83), (2, z_272)], 24)], 0, 0, 1)
def ak_906 : List eAn := [(0, [], [])]
theorem K_906 {l : Launch} {D : va_G} {ca : Nat → ClassId} : KMet l D ca k_906 := K_go (KS := []) (ini := false) (n := 123) (an := ak_906) (by decide +kernel) C_299_ok KS_nil (by decide +kernel)
def k_907 : eK := (299, ([], [.inr (.inr (some 0)), .inl ([], 100), .inl ([], 8)], [(0, z_83), (2, z_273)], 24), [([], some (.inl ([], 0)), [(0, z_83), (2, z_273)], 24)], 0, 0, 1)
def ak_907 : List eAn := [(0, [], [])]
theorem K_907 {l : Launch} {D : va_G} {ca : Nat → ClassId} : KMet l D ca k_907 := K_go (KS := []) (ini := false) (n := 123) (an := ak_907) (by decide +kernel) C_299_ok KS_nil (by decide +kernel)
def k_908 : eK := (299, ([], [.inr (.inr (some 0)), .inl ([], 100), .inl ([], 8)], [(0, z_83), (2, z_274)], 24), [([], some (.inl ([], 0)), [(0, z_83), (2, z_274)], 24)], 0, 0, 1)
def ak_908 : List eAn := [(0, [], [])]
theorem K_908 {l : Launch} {D : va_G} {ca : Nat → ClassId} : KMet l D ca k_908 := K_go (KS := []) (ini := false) (n := 123) (an := ak_908) (by decide +kernel) C_299_ok KS_nil (by decide +kernel)
def k_909 : eK := (299, ([], [.inr (.inr (some 0)), .inl ([], 100), .inl ([], 8)], [(0, z_83), (2, z_275)], 24), [([], some (.inl ([], 0)), [(0, z_83), (2, z_275)], 24)], 0, 0, 1)
def ak_909 : List eAn := [(0, [], [])]
theorem K_909 {l : Launch} {D : va_G} {ca : Nat → ClassId} : KMet l D ca k_909 := K_go (KS := []) (ini := false) (n := 123) (an := ak_909) (by decide +kernel) C_299_ok KS_nil (by decide +kernel)
def k_910 : eK := (299, ([], [.inr (.inr (some 0)), .inl ([], 100), .inl ([], 8)], [(0, z_83), (2, z_276)], 24), [([], some (.inl ([], 0)), [(0, z_83), (2, z_276)], 24)], 0, 0, 1)
def ak_910 : List eAn := [(0, [], [])]
theorem K_910 {l : Launch} {D : va_G} {ca : Nat → ClassId} : KMet l D ca k_910 := K_go (KS := []) (ini := false) (n := 123) (an := ak_910) (by decide +kernel) C_299_ok KS_nil (by decide +kernel)
def k_911 : eK := (299, ([], [.inr (.inr (some 0)), .inl ([], 100), .inl ([], 8)], [(0, z_83), (2, z_277)], 24), [([], some (.inl ([], 0)), [(0, z_83), (2, z_277)], 24)], 0, 0, 1)
def ak_911 : List eAn := [(0, [], [])]
theorem K_911 {l : Launch} {D : va_G} {ca : Nat → ClassId} : KMet l D ca k_911 := K_go (KS := []) (ini := false) (n := 123) (an := ak_911) (by decide +kernel) C_299_ok KS_nil (by decide +kernel)
def k_912 : eK := (299, ([], [.inr (.inr (some 0)), .inl ([], 100), .inl ([], 8)], [(0, z_83), (2, z_278)], 24), [([], some (.inl ([], 0)), [(0, z_83), (2, z_278)], 24)], 0, 0, 1)
def ak_912 : List eAn := [(0, [], [])]
theorem K_912 {l : Launch} {D : va_G} {ca : Nat → ClassId} : KMet l D ca k_912 := K_go (KS := []) (ini := false) (n := 123) (an := ak_912) (by decide +kernel) C_299_ok KS_nil (by decide +kernel)
def k_913 : eK := (299, ([], [.inr (.inr (some 0)), .inl ([], 100), .inl ([], 8)], [(0, z_83), (2, z_279)], 24), [([], some (.inl ([], 0)), [(0, z_83), (2, z_279)], 24)], 0, 0, 1)
def ak_913 : List eAn := [(0, [], [])]
theorem K_913 {l : Launch} {D : va_G} {ca : Nat → ClassId} : KMet l D ca k_913 := K_go (KS := []) (ini := false) (n := 123) (an := ak_913) (by decide +kernel) C_299_ok KS_nil (by decide +kernel)
def k_914 : eK := (299, ([], [.inr (.inr (some 0)), .inl ([], 100), .inl ([], 8)], [(0, z_83), (2, z_280)], 24), [([], some (.inl ([], 0)), [(0, z_83), (2, z_280)], 24)], 0, 0, 1)
def ak_914 : List eAn := [(0, [], [])]
theorem K_914 {l : Launch} {D : va_G} {ca : Nat → ClassId} : KMet l D ca k_914 := K_go (KS := []) (ini := false) (n := 123) (an := ak_914) (by decide +kernel) C_299_ok KS_nil (by decide +kernel)
def k_915 : eK := (299, ([], [.inr (.inr (some 0)), .inl ([], 100), .inl ([], 8)], [(0, z_83), (2, z_281)], 24), [([], some (.inl ([], 0)), [(0, z_83), (2, z_281)], 24)], 0, 0, 1)
def ak_915 : List eAn := [(0, [], [])]
theorem K_915 {l : Launch} {D : va_G} {ca : Nat → ClassId} : KMet l D ca k_915 := K_go (KS := []) (ini := false) (n := 123) (an := ak_915) (by decide +kernel) C_299_ok KS_nil (by decide +kernel)
def k_916 : eK := (299, ([], [.inr (.inr (some 0)), .inl ([], 100), .inl ([], 8)], [(0, z_83), (2, z_282)], 24), [([], some (.inl ([], 0)), [(0, z_83), (2, z_282)], 24)], 0, 0, 1)
def ak_916 : List eAn := [(0, [], [])]
theorem K_916 {l : Launch} {D : va_G} {ca : Nat → ClassId} : KMet l D ca k_916 := K_go (KS := []) (ini := false) (n := 123) (an := ak_916) (by decide +kernel) C_299_ok KS_nil (by decide +kernel)
def k_917 : eK := (299, ([], [.inr (.inr (some 0)), .inl ([], 100), .inl ([], 8)], [(0, z_83), (2, z_283)], 24), [([], some (.inl ([], 0)), [(0, z_83), (2, z_283)], 24)], 0, 0, 1)
def ak_917 : List eAn := [(0, [], [])]
theorem K_917 {l : Launch} {D : va_G} {ca : Nat → ClassId} : KMet l D ca k_917 := K_go (KS := []) (ini := false) (n := 123) (an := ak_917) (by decide +kernel) C_299_ok KS_nil (by decide +kernel)
def k_918 : eK := (343, ([(1, 60)], [.inr (.inr (some 0)), .inl ([(0, 1)], 0)], [(0, z_83), (2, z_88), (6, z_93)], 24), [([(1, 60)], some (.inl ([], 0)), [], 24)], 0, 0, 5)
def ak_918 : List eAn := [(0, [([(0, 1)], 0)], []), (1, [], List.range 24), (2, [], List.range 24), (3, [([(0, 1)], 0)], List.range 24), (4, [], List.range 24), (5, [], List.range 24), (0, [], []), (6, [], List.range 24), (7, [], List.range 24), (0, [], []), (8, [], List.range 24), (9, [], List.range 24), (0, [], []), (10, [], List.range 24), (11, [], List.range 24), (0, [], []), (12, [], List.range 24), (13, [], List.range 24), (0, [], []), (14, [], List.range 24), (15, [], List.range 24), (0, [], []), (16, [], List.range 24), (17, [], List.range 24), (0, [], []), (18, [], List.range 24), (19, [], List.range 24), (0, [], []), (20, [], List.range 24), (21, [], List.range 24), (0, [], []), (22, [], List.range 24), (23, [], List.range 24), (0, [], []), (24, [], List.range 24), (25, [], List.range 24), (0, [], []), (26, [], List.range 24), (27, [], List.range 24), (0, [], []), (28, [], List.range 24), (29, [], List.range 24), (0, [], []), (30, [], List.range 24), (31, [], List.range 24), (0, [], []), (32, [], List.range 24), (33, [], List.range 24), (0, [], []), (34, [], List.range 24), (35, [], List.range 24), (0, [], []), (36, [], List.range 24), (37, [], List.range 24), (0, [], []), (38, [], List.range 24), (39, [], List.range 24), (0, [], []), (40, [], List.range 24), (41, [], List.range 24), (0, [], []), (42, [], List.range 24), (43, [], List.range 24), (0, [], []), (44, [], List.range 24), (45, [], List.range 24), (0, [], []), (46, [], List.range 24), (47, [], List.range 24), (0, [], []), (48, [], List.range 24), (49, [], List.range 24), (0, [], []), (50, [], List.range 24), (51, [], List.range 24), (0, [], []), (52, [], List.range 24), (53, [], List.range 24), (0, [], []), (54, [], List.range 24), (55, [], List.range 24), (0, [], []), (56, [], List.range 24), (57, [], List.range 24), (0, [], []), (58, [], List.range 24), (59, [], List.range 24), (0, [], []), (60, [], List.range 24), (61, [], List.range 24), (0, [], []), (62, [], List.range 24), (63, [], List.range 24), (0, [], []), (64, [], List.range 24), (65, [], List.range 24), (0, [], []), (66, [], List.range 24), (67, [], List.range 24), (0, [], []), (68, [], List.range 24), (69, [], List.range 24), (0, [], []), (70, [], List.range 24), (71, [], List.range 24), (0, [], []), (72, [], List.range 24), (73, [], List.range 24), (0, [], []), (74, [], List.range 24), (75, [], List.range 24), (0, [], []), (76, [], List.range 24), (77, [], List.range 24), (0, [], []), (78, [], List.range 24), (79, [], List.range 24), (0, [], []), (80, [], List.range 24), (81, [], List.range 24), (0, [], []), (82, [], List.range 24), (83, [], List.range 24), (0, [], []), (84, [], List.range 24), (85, [], List.range 24), (0, [], []), (86, [], List.range 24), (87, [], List.range 24), (0, [], []), (88, [], List.range 24), (89, [], List.range 24), (0, [], []), (90, [], List.range 24), (91, [], List.range 24), (0, [], []), (92, [], List.range 24), (93, [], List.range 24), (0, [], []), (94, [], List.range 24), (95, [], List.range 24), (0, [], []), (96, [], List.range 24), (97, [], List.range 24), (0, [], []), (98, [], List.range 24), (99, [], List.range 24), (0, [], []), (100, [], List.range 24), (101, [], List.range 24), (0, [], []), (102, [], List.range 24), (103, [], List.range 24), (0, [], []), (104, [], List.range 24), (105, [], List.range 24), (0, [], []), (106, [], List.range 24), (107, [], List.range 24), (0, [], []), (108, [], List.range 24), (109, [], List.range 24), (0, [], []), (110, [], List.range 24), (111, [], List.range 24), (0, [], []), (112, [], List.range 24), (113, [], List.range 24), (0, [], []), (114, [], List.range 24), (115, [], List.range 24), (0, [], []), (116, [], List.range 24), (117, [], List.range 24), (0, [], []), (118, [], List.range 24), (119, [], List.range 24), (0, [], []), (120, [], List.range 24), (121, [], List.range 24), (0, [], []), (122, [], List.range 24), (123, [], List.range 24), (0, [], [])]
theorem K_918 {l : Launch} {D : va_G} {ca : Nat → ClassId} : KMet l D ca k_918 := K_go (KS := [k_272, k_426, k_83, k_857, k_858, k_435, k_859, k_441, k_860, k_447, k_861, k_453, k_862, k_459, k_863, k_465, k_864, k_471, k_865, k_477, k_866, k_483, k_867, k_489, k_868, k_495, k_869, k_501, k_870, k_507, k_871, k_513, k_872, k_519, k_873, k_525, k_874, k_531, k_875, k_537, k_876, k_543, k_877, k_549, k_878, k_555, k_879, k_561, k_880, k_567, k_881, k_573, k_882, k_579, k_883, k_585, k_884, k_591, k_885, k_597, k_886, k_603, k_887, k_609, k_888, k_615, k_889, k_625, k_890, k_626, k_891, k_627, k_892, k_633, k_893, k_639, k_894, k_653, k_895, k_654, k_896, k_655, k_897, k_656, k_898, k_657, k_899, k_663, k_900, k_669, k_901, k_683, k_902, k_684, k_903, k_685, k_904, k_686, k_905, k_687, k_906, k_693, k_907, k_699, k_908, k_713, k_909, k_714, k_910, k_715, k_911, k_716, k_912, k_717, k_913, k_723, k_914, k_729, k_915, k_739, k_916, k_740, k_917, k_741]) (ini := false) (n := 32) (an := ak_918) (by decide +kernel) C_343_ok (KS_cons K_272 (KS_cons K_426 (KS_cons K_83 (KS_cons K_857 (KS_cons K_858 (KS_cons K_435 (KS_cons K_859 (KS_cons K_441 (KS_cons K_860 (KS_cons K_447 (KS_cons K_861 (KS_cons K_453 (KS_cons K_862 (KS_cons K_459 (KS_cons K_863 (KS_cons K_465 (KS_cons K_864 (KS_cons K_471 (KS_cons K_865 (KS_cons K_477 (KS_cons K_866 (KS_cons K_483 (KS_cons K_867 (KS_cons K_489 (KS_cons K_868 (KS_cons K_495 (KS_cons K_869 (KS_cons K_501 (KS_cons K_870 (KS_cons K_507 (KS_cons K_871 (KS_cons K_513 (KS_cons K_872 (KS_cons K_519 (KS_cons K_873 (KS_cons K_525 (KS_cons K_874 (KS_cons K_531 (KS_cons K_875 (KS_cons K_537 (KS_cons K_876 (KS_cons K_543 (KS_cons K_877 (KS_cons K_549 (KS_cons K_878 (KS_cons K_555 (KS_cons K_879 (KS_cons K_561 (KS_cons K_880 (KS_cons K_567 (KS_cons K_881 (KS_cons K_573 (KS_cons K_882 (KS_cons K_579 (KS_cons K_883 (KS_cons K_585 (KS_cons K_884 (KS_cons K_591 (KS_cons K_885 (KS_cons K_597 (KS_cons K_886 (KS_cons K_603 (KS_cons K_887 (KS_cons K_609 (KS_cons K_888 (KS_cons K_615 (KS_cons K_889 (KS_cons K_625 (KS_cons K_890 (KS_cons K_626 (KS_cons K_891 (KS_cons K_627 (KS_cons K_892 (KS_cons K_633 (KS_cons K_893 (KS_cons K_639 (KS_cons K_894 (KS_cons K_653 (KS_cons K_895 (KS_cons K_654 (KS_cons K_896 (KS_cons K_655 (KS_cons K_897 (KS_cons K_656 (KS_cons K_898 (KS_cons K_657 (KS_cons K_899 (KS_cons K_663 (KS_cons K_900 (KS_cons K_669 (KS_cons K_901 (KS_cons K_683 (KS_cons K_902 (KS_cons K_684 (KS_cons K_903 (KS_cons K_685 (KS_cons K_904 (KS_cons K_686 (KS_cons K_905 (KS_cons K_687 (KS_cons K_906 (KS_cons K_693 (KS_cons K_907 (KS_cons K_699 (KS_cons K_908 (KS_cons K_713 (KS_cons K_909 (KS_cons K_714 (KS_cons K_910 (KS_cons K_715 (KS_cons K_911 (KS_cons K_716 (KS_cons K_912 (KS_cons K_717 (KS_cons K_913 (KS_cons K_723 (KS_cons K_914 (KS_cons K_729 (KS_cons K_915 (KS_cons K_739 (KS_cons K_916 (KS_cons K_740 (KS_cons K_917 (KS_cons K_741 KS_nil)))))))))))))))))))))))))))))))))))))))))))))))))))))))))))))))))))))))))))))))))))))))))))))))))))))))))))))))))))))))))))) (by decide +kernel)
def k_919 : eK := (158, ([((-2147483648), 2147483647)], [.inr (.inr (some 0)), .inl ([(0, 1)], 0)], [(0, z_51), (2, z_138)], 27), [([((-2147483648), 2147483647)], some (.inl ([], (-1))), [], 27)], 0, 0, 2)
def ak_919 : List eAn := [(0, [([(0, 1)], 0)], List.range 27), (0, [], []), (0, [], [])]
theorem K_919 {l : Launch} {D : va_G} {ca : Nat → ClassId} : KMet l D ca k_919 := K_go (KS := [k_68]) (ini := false) (n := 8) (an := ak_919) (by decide +kernel) C_158_ok (KS_cons K_68 KS_nil) (by decide +kernel)
def k_920 : eK := (344, ([((-2147483648), 2147483647)], [.inr (.inr (some 0)), .inl ([(0, 1)], 0)], [(0, z_83), (2, z_88)], 24), [([((-2147483648), 2147483647)], some (.inl ([], (-1))), [], 24)], 0, 0, 3)
def ak_920 : List eAn := [(0, [([(0, 1)], 0)], List.range 24), (0, [], []), (0, [], [])]
theorem K_920 {l : Launch} {D : va_G} {ca : Nat → ClassId} : KMet l D ca k_920 := K_go (KS := [k_89]) (ini := false) (n := 11) (an := ak_920) (by decide +kernel) C_344_ok (KS_cons K_89 KS_nil) (by decide +kernel)
def k_921 : eK := (200, ([], [.inr (.inr (some 0))], [(0, z_48)], 2), [([], some (.inl ([], 0)), [(0, z_48)], 2)], 0, 0, 1)
def ak_921 : List eAn := [(0, [], [])]
theorem K_921 {l : Launch} {D : va_G} {ca : Nat → ClassId} : KMet l D ca k_921 := K_go (KS := []) (ini := false) (n := 5) (an := ak_921) (by decide +kernel) C_200_ok KS_nil (by decide +kernel)
def k_922 : eK := (199, ([], [.inr (.inr (some 0))], [(0, z_48)], 2), [([], some (.inl ([], 0)), [(0, z_48)], 2)], 0, 0, 2)
def ak_922 : List eAn := [(0, [], [0, 1]), (0, [], [])]
theorem K_922 {l : Launch} {D : va_G} {ca : Nat → ClassId} : KMet l D ca k_922 := K_go (KS := [k_921]) (ini := false) (n := 5) (an := ak_922) (by decide +kernel) C_199_ok (KS_cons K_921 KS_nil) (by decide +kernel)
def z_298 : eSC := .inl (0, [.inr (.inr (some 16)), .inl ([], 0), .inl ([], 0), .inl ([], 0)])
def k_923 : eK := (201, ([((-2147483648), 2147483647)], [.inr (.inr (some 0)), .inl ([(0, 1)], 0)], [(0, z_51), (15, z_298)], 17), [([((-2147483648), 2147483647)], some (.inl ([], (-1))), [], 17)], 0, 0, 3)
def ak_923 : List eAn := [(0, [], []), (0, [], [15, 16]), (0, [], [])]
theorem K_923 {l : Launch} {D : va_G} {ca : Nat → ClassId} : KMet l D ca k_923 := K_go (KS := [k_922]) (ini := false) (n := 11) (an := ak_923) (by decide +kernel) C_201_ok (KS_cons K_922 KS_nil) (by decide +kernel)
def k_924 : eK := (349, ([((-2147483648), 2147483647)], [.inr (.inr (some 0)), .inl ([(0, 1)], 0)], [(0, z_83)], 24), [([((-2147483648), 2147483647)], some (.inl ([], (-1))), [], 24)], 0, 0, 2)
def ak_924 : List eAn := [(0, [([(0, 1)], 0)], []), (0, [], []), (0, [], [])]
theorem K_924 {l : Launch} {D : va_G} {ca : Nat → ClassId} : KMet l D ca k_924 := K_go (KS := [k_88]) (ini := false) (n := 15) (an := ak_924) (by decide +kernel) C_349_ok (KS_cons K_88 KS_nil) (by decide +kernel)
def z_299 : eSC := .inl (5, [.inr (.inr (some 1)), .inl ([], 0), .inl ([], 20), .inl ([], 1), .inl ([], 0), .inr (.inr (some 2)), .inr (.inr (some 3)), .inr (.inr (some 4)), .inr (.inr (some 5)), .inr (.inr (some 6)), .inl ([(0, 1)], 0)])
def k_925 : eK := (106, ([((-2147483648), 2147483647)], [.inr (.inr (some 0))], [(0, z_299)], 7), [([((-2147483648), 2147483647)], some (.inl ([], 400)), [(0, z_299)], 7)], 0, 0, 1)
def ak_925 : List eAn := [(0, [], [])]
theorem K_925 {l : Launch} {D : va_G} {ca : Nat → ClassId} : KMet l D ca k_925 := K_go (KS := []) (ini := false) (n := 7) (an := ak_925) (by decide +kernel) C_106_ok KS_nil (by decide +kernel)
def z_300 : eSC := .inl (5, [.inr (.inr (some 1)), .inl ([], 0), .inl ([], 20), .inl ([], 1), .inl ([], 0), .inr (.inr (some 2)), .inr (.inr (some 3)), .inr (.inr (some 4)), .inr (.inr (some 5)), .inr (.inr (some 6)), .inl ([(2, 1)], 0)])
def k_926 : eK := (207, ([((-2147483648), 2147483647)], [.inr (.inr (some 0)), .inl ([], 12)], [(0, z_299)], 7), [([((-2147483648), 2147483647), (0, 11), ((-2147483648), 2147483647)], some (.inl ([(1, 1)], 0)), [(0, z_300)], 7)], 0, 0, 1)
def ak_926 : List eAn := [(0, [([(4, 1)], 0), ([(2, 1)], 0)], [])]
theorem K_926 {l : Launch} {D : va_G} {ca : Nat → ClassId} : KMet l D ca k_926 := K_go (KS := []) (ini := false) (n := 20) (an := ak_926) (by decide +kernel) C_207_ok KS_nil (by decide +kernel)
def z_301 : eSC := .inl (5, [.inr (.inr (some 1)), .inl ([], 1), .inl ([], 19), .inl ([], 1), .inl ([], 1), .inr (.inr (some 2)), .inr (.inr (some 3)), .inr (.inr (some 4)), .inr (.inr (some 5)), .inr (.inr (some 6)), .inl ([(0, 1)], 0)])
def k_927 : eK := (108, ([((-2147483648), 2147483647)], [.inr (.inr (some 0))], [(0, z_299), (1, z_13)], 18), [([((-2147483648), 2147483647)], none, [(0, z_301), (1, z_13)], 18)], 0, 0, 2)
def ak_927 : List eAn := [(0, [], [1, 7, 8, 9, 10, 11, 12, 13, 14, 15, 16, 17]), (1, [], [1, 7, 8, 9, 10, 11, 12, 13, 14, 15, 16, 17]), (0, [], [])]
theorem K_927 {l : Launch} {D : va_G} {ca : Nat → ClassId} : KMet l D ca k_927 := K_go (KS := [k_125, k_126]) (ini := false) (n := 39) (an := ak_927) (by decide +kernel) C_108_ok (KS_cons K_125 (KS_cons K_126 KS_nil)) (by decide +kernel)
def z_302 : eSC := .inl (5, [.inr (.inr (some 1)), .inl ([], 1), .inl ([], 19), .inl ([], 1), .inl ([], 1), .inr (.inr (some 2)), .inr (.inr (some 3)), .inr (.inr (some 4)), .inr (.inr (some 5)), .inr (.inr (some 6)), .inl ([(2, 1)], 0)])
def k_928 : eK := (207, ([((-2147483648), 2147483647)], [.inr (.inr (some 0)), .inl ([], 12)], [(0, z_301)], 7), [([((-2147483648), 2147483647), (0, 11), ((-2147483648), 2147483647)], some (.inl ([(1, 1)], 0)), [(0, z_302)], 7)], 0, 0, 1)
def ak_928 : List eAn := [(0, [([(4, 1)], 0), ([(2, 1)], 0)], [])]
theorem K_928 {l : Launch} {D : va_G} {ca : Nat → ClassId} : KMet l D ca k_928 := K_go (KS := []) (ini := false) (n := 20) (an := ak_928) (by decide +kernel) C_207_ok KS_nil (by decide +kernel)
def z_303 : eSC := .inl (5, [.inr (.inr (some 1)), .inl ([], 2), .inl ([], 18), .inl ([], 1), .inl ([], 2), .inr (.inr (some 2)), .inr (.inr (some 3)), .inr (.inr (some 4)), .inr (.inr (some 5)), .inr (.inr (some 6)), .inl ([(0, 1)], 0)])
def k_929 : eK := (108, ([((-2147483648), 2147483647)], [.inr (.inr (some 0))], [(0, z_301), (1, z_13)], 18), [([((-2147483648), 2147483647)], none, [(0, z_303), (1, z_13)], 18)], 0, 0, 2)
def ak_929 : List eAn := [(0, [], [1, 7, 8, 9, 10, 11, 12, 13, 14, 15, 16, 17]), (1, [], [1, 7, 8, 9, 10, 11, 12, 13, 14, 15, 16, 17]), (0, [], [])]
theorem K_929 {l : Launch} {D : va_G} {ca : Nat → ClassId} : KMet l D ca k_929 := K_go (KS := [k_128, k_129]) (ini := false) (n := 39) (an := ak_929) (by decide +kernel) C_108_ok (KS_cons K_128 (KS_cons K_129 KS_nil)) (by decide +kernel)
def z_304 : eSC := .inl (5, [.inr (.inr (some 1)), .inl ([], 2), .inl ([], 18), .inl ([], 1), .inl ([], 2), .inr (.inr (some 2)), .inr (.inr (some 3)), .inr (.inr (some 4)), .inr (.inr (some 5)), .inr (.inr (some 6)), .inl ([(2, 1)], 0)])
def k_930 : eK := (207, ([((-2147483648), 2147483647)], [.inr (.inr (some 0)), .inl ([], 12)], [(0, z_303)], 7), [([((-2147483648), 2147483647), (0, 11), ((-2147483648), 2147483647)], some (.inl ([(1, 1)], 0)), [(0, z_304)], 7)], 0, 0, 1)
def ak_930 : List eAn := [(0, [([(4, 1)], 0), ([(2, 1)], 0)], [])]
theorem K_930 {l : Launch} {D : va_G} {ca : Nat → ClassId} : KMet l D ca k_930 := K_go (KS := []) (ini := false) (n := 20) (an := ak_930) (by decide +kernel) C_207_ok KS_nil (by decide +kernel)
