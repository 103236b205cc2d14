/-! rows of code -/
def C_88 : eCode := [(12, [(0, .iconst 0, 1, 0, 0, []), (1, .istore_n 1, 1, 0, 0, []), (2, .iconst 0, 1, 0, 0, []), (3, .istore_n 2, 1, 0, 0, []), (4, .iload_n 2, 1, 0, 0, []), (5, .aload_n 0, 1, 0, 0, []), (6, .getfield 29, 3, 5, 0, [326]), (9, .getfield 93, 3, 11, 6, [234])]),
  (32, [(12, .if_icmp .ge 18, 3, 0, 0, []), (30, .iload_n 1, 1, 0, 0, []), (31, .ireturn, 1, 0, 0, [])])]
theorem C_88_ok : codOk q_88.1.cls q_88.2.1 C_88 := codB_ok (by decide +kernel)
theorem h_88 : mQ 88 q_88 C_88 := ⟨mq_88, by decide +kernel, by decide, C_88_ok⟩
def C_89 : eCode := [(28, [(0, .aload_n 0, 1, 0, 0, []), (1, .iload_n 1, 1, 0, 0, []), (2, .invokevirtual 176, 3, 12001, 90, [946, 948, 18, 127]), (5, .ifCond .eq 21, 3, 0, 0, []), (26, .iconst (-1), 1, 0, 0, []), (27, .ireturn, 1, 0, 0, [])])]
theorem C_89_ok : codOk q_89.1.cls q_89.2.1 C_89 := codB_ok (by decide +kernel)
theorem h_89 : mQ 89 q_89 C_89 := ⟨mq_89, by decide +kernel, by decide, C_89_ok⟩
def C_90 : eCode := [(20, [(0, .iload_n 1, 1, 0, 0, []), (1, .ifCond .lt 18, 3, 0, 0, []), (4, .iload_n 1, 1, 0, 0, []), (5, .aload_n 0, 1, 0, 0, []), (6, .getfield 19, 3, 12, 1, [609]), (9, .getfield 391, 3, 11, 7, [240]), (12, .if_icmp .ge 7, 3, 0, 0, []), (19, .iconst 0, 1, 0, 0, [])]),
  (21, [(20, .ireturn, 1, 0, 0, [])])]
theorem C_90_ok : codOk q_90.1.cls q_90.2.1 C_90 := codB_ok (by decide +kernel)
theorem h_90 : mQ 90 q_90 C_90 := ⟨mq_90, by decide +kernel, by decide, C_90_ok⟩
def C_91 : eCode := [(20, [(0, .iload_n 1, 1, 0, 0, []), (1, .ifCond .lt 18, 3, 0, 0, []), (4, .iload_n 1, 1, 0, 0, []), (5, .aload_n 0, 1, 0, 0, []), (6, .getfield 19, 3, 12, 1, [609]), (9, .getfield 388, 3, 11, 6, [236]), (12, .if_icmp .ge 7, 3, 0, 0, []), (19, .iconst 0, 1, 0, 0, [])]),
  (21, [(20, .ireturn, 1, 0, 0, [])])]
theorem C_91_ok : codOk q_91.1.cls q_91.2.1 C_91 := codB_ok (by decide +kernel)
theorem h_91 : mQ 91 q_91 C_91 := ⟨mq_91, by decide +kernel, by decide, C_91_ok⟩
def C_96 : eCode := [(14, [(0, .aload_n 0, 1, 0, 0, []), (1, .getfield 13, 3, 3, 0, [389]), (4, .aload_n 0, 1, 0, 0, []), (5, .getfield 20, 3, 3, 1, [390]), (8, .aaload, 1, 0, 0, []), (9, .aload_n 1, 1, 0, 0, []), (10, .invokevirtual 24, 3, 5001, 97, [974, 975, 976, 130]), (13, .aload_n 0, 1, 0, 0, [])]),
  (27, [(14, .aload_n 0, 1, 0, 0, []), (15, .getfield 20, 3, 3, 1, [390]), (18, .iconst 1, 1, 0, 0, []), (19, .iadd, 1, 0, 0, []), (20, .bipush 8, 2, 0, 0, []), (22, .irem, 1, 0, 0, []), (23, .putfield 20, 3, 3, 1, [390]), (26, .aload_n 0, 1, 0, 0, [])]),
  (42, [(27, .bipush 8, 2, 0, 0, []), (29, .aload_n 0, 1, 0, 0, []), (30, .getfield 28, 3, 3, 2, [391]), (33, .iconst 1, 1, 0, 0, []), (34, .iadd, 1, 0, 0, []), (35, .invokestatic 31, 3, 0, 100001, [979]), (38, .putfield 28, 3, 3, 2, [391]), (41, .return_, 1, 0, 0, [])])]
theorem C_96_ok : codOk q_96.1.cls q_96.2.1 C_96 := codB_ok (by decide +kernel)
theorem h_96 : mQ 96 q_96 C_96 := ⟨mq_96, by decide +kernel, by decide, C_96_ok⟩
def C_97 : eCode := [(16, [(0, .aload_n 0, 1, 0, 0, []), (1, .aload_n 1, 1, 0, 0, []), (2, .getfield 36, 3, 5, 1, [330]), (5, .putfield 36, 3, 5, 1, [330]), (8, .aload_n 0, 1, 0, 0, []), (9, .aload_n 1, 1, 0, 0, []), (10, .getfield 43, 3, 5, 2, [335]), (13, .putfield 43, 3, 5, 2, [335])]),
  (32, [(16, .aload_n 0, 1, 0, 0, []), (17, .aload_n 1, 1, 0, 0, []), (18, .getfield 46, 3, 5, 3, [340]), (21, .putfield 46, 3, 5, 3, [340]), (24, .aload_n 0, 1, 0, 0, []), (25, .aload_n 1, 1, 0, 0, []), (26, .getfield 49, 3, 5, 4, [344]), (29, .putfield 49, 3, 5, 4, [344])]),
  (47, [(32, .aload_n 1, 1, 0, 0, []), (33, .getfield 11, 3, 5, 5, [346]), (36, .iconst 0, 1, 0, 0, []), (37, .aload_n 0, 1, 0, 0, []), (38, .getfield 11, 3, 5, 5, [346]), (41, .iconst 0, 1, 0, 0, []), (42, .bipush 6, 2, 0, 0, []), (44, .invokestatic 61, 3, 0, 100003, [978])]),
  (62, [(47, .aload_n 1, 1, 0, 0, []), (48, .getfield 17, 3, 5, 6, [348]), (51, .iconst 0, 1, 0, 0, []), (52, .aload_n 0, 1, 0, 0, []), (53, .getfield 17, 3, 5, 6, [348]), (56, .iconst 0, 1, 0, 0, []), (57, .bipush 6, 2, 0, 0, []), (59, .invokestatic 61, 3, 0, 100003, [978])]),
  (77, [(62, .aload_n 1, 1, 0, 0, []), (63, .getfield 20, 3, 5, 7, [350]), (66, .iconst 0, 1, 0, 0, []), (67, .aload_n 0, 1, 0, 0, []), (68, .getfield 20, 3, 5, 7, [350]), (71, .iconst 0, 1, 0, 0, []), (72, .bipush 6, 2, 0, 0, []), (74, .invokestatic 61, 3, 0, 100003, [978])]),
  (92, [(77, .aload_n 1, 1, 0, 0, []), (78, .getfield 23, 3, 5, 8, [352]), (81, .iconst 0, 1, 0, 0, []), (82, .aload_n 0, 1, 0, 0, []), (83, .getfield 23, 3, 5, 8, [352]), (86, .iconst 0, 1, 0, 0, []), (87, .bipush 6, 2, 0, 0, []), (89, .invokestatic 61, 3, 0, 100003, [978])]),
  (107, [(92, .aload_n 1, 1, 0, 0, []), (93, .getfield 26, 3, 5, 9, [354]), (96, .iconst 0, 1, 0, 0, []), (97, .aload_n 0, 1, 0, 0, []), (98, .getfield 26, 3, 5, 9, [354]), (101, .iconst 0, 1, 0, 0, []), (102, .bipush 8, 2, 0, 0, []), (104, .invokestatic 61, 3, 0, 100003, [978])]),
  (108, [(107, .return_, 1, 0, 0, [])])]
theorem C_97_ok : codOk q_97.1.cls q_97.2.1 C_97 := codB_ok (by decide +kernel)
theorem h_97 : mQ 97 q_97 C_97 := ⟨mq_97, by decide +kernel, by decide, C_97_ok⟩
def C_100 : eCode := [(10, [(0, .aload_n 0, 1, 0, 0, []), (1, .iload_n 1, 1, 0, 0, []), (2, .invokevirtual 176, 3, 12001, 90, [946, 948, 18, 127]), (5, .ifCond .ne 5, 3, 0, 0, []), (8, .iconst (-1), 1, 0, 0, []), (9, .ireturn, 1, 0, 0, [])])]
theorem C_100_ok : codOk q_100.1.cls q_100.2.1 C_100 := codB_ok (by decide +kernel)
theorem h_100 : mQ 100 q_100 C_100 := ⟨mq_100, by decide +kernel, by decide, C_100_ok⟩
def C_103 : eCode := [(12, [(0, .iload_n 1, 1, 0, 0, []), (1, .iconst 0, 1, 0, 0, []), (2, .iconst 5, 1, 0, 0, []), (3, .invokestatic 222, 3, 3, 53, [954, 796, 127]), (6, .ifCond .ne 5, 3, 0, 0, []), (9, .iconst (-1), 1, 0, 0, []), (10, .ireturn, 1, 0, 0, []), (11, .aload_n 0, 1, 0, 0, [])]),
  (28, [(12, .getfield 31, 3, 12, 3, [611]), (15, .iload_n 1, 1, 0, 0, []), (16, .invokevirtual 244, 3, 5001, 104, [1002, 1003, 1004, 130]), (19, .istore_n 2, 1, 0, 0, []), (20, .iload_n 2, 1, 0, 0, []), (21, .ifCond .ne 22, 3, 0, 0, []), (24, .aload_n 0, 1, 0, 0, []), (25, .getfield 41, 3, 12, 5, [613])]),
  (44, [(28, .aload_n 0, 1, 0, 0, []), (29, .getfield 31, 3, 12, 3, [611]), (32, .invokevirtual 230, 3, 3001, 96, [970, 971, 972, 131]), (35, .aload_n 0, 1, 0, 0, []), (36, .getfield 31, 3, 12, 3, [611]), (39, .iload_n 1, 1, 0, 0, []), (40, .putfield 207, 3, 5, 3, [342]), (43, .iload_n 2, 1, 0, 0, [])]),
  (45, [(44, .ireturn, 1, 0, 0, [])])]
theorem C_103_ok : codOk q_103.1.cls q_103.2.1 C_103 := codB_ok (by decide +kernel)
theorem h_103 : mQ 103 q_103 C_103 := ⟨mq_103, by decide +kernel, by decide, C_103_ok⟩
def C_104 : eCode := [(14, [(0, .aload_n 0, 1, 0, 0, []), (1, .getfield 46, 3, 5, 3, [340]), (4, .iload_n 1, 1, 0, 0, []), (5, .if_icmp .ne 7, 3, 777, 0, []), (8, .iconst 1, 1, 0, 0, []), (9, .goto 4, 3, 0, 0, []), (12, .iconst 0, 1, 0, 0, []), (13, .ireturn, 1, 0, 0, [])])]
theorem C_104_ok : codOk q_104.1.cls q_104.2.1 C_104 := codB_ok (by decide +kernel)
theorem h_104 : mQ 104 q_104 C_104 := ⟨mq_104, by decide +kernel, by decide, C_104_ok⟩
def C_105 : eCode := [(13, [(0, .iload_n 1, 1, 0, 0, []), (1, .iconst 1, 1, 0, 0, []), (2, .bipush 60, 2, 0, 0, []), (4, .invokestatic 222, 3, 3, 53, [954, 796, 127]), (7, .ifCond .ne 5, 3, 0, 0, []), (10, .iconst (-1), 1, 0, 0, []), (11, .ireturn, 1, 0, 0, []), (12, .aload_n 0, 1, 0, 0, [])]),
  (33, [(13, .getfield 31, 3, 12, 3, [611]), (16, .invokevirtual 247, 3, 5000, 106, [1010, 1011, 1012, 130]), (19, .ifCond .le 14, 3, 0, 0, []), (22, .aload_n 0, 1, 0, 0, []), (23, .getfield 41, 3, 12, 5, [613]), (26, .aload_n 0, 1, 0, 0, []), (27, .getfield 31, 3, 12, 3, [611]), (30, .invokevirtual 230, 3, 3001, 96, [970, 971, 972, 131])]),
  (42, [(33, .aload_n 0, 1, 0, 0, []), (34, .getfield 31, 3, 12, 3, [611]), (37, .iload_n 1, 1, 0, 0, []), (38, .invokevirtual 250, 3, 5001, 107, [1014, 1015, 1016, 130]), (41, .ireturn, 1, 0, 0, [])])]
theorem C_105_ok : codOk q_105.1.cls q_105.2.1 C_105 := codB_ok (by decide +kernel)
theorem h_105 : mQ 105 q_105 C_105 := ⟨mq_105, by decide +kernel, by decide, C_105_ok⟩
def C_106 : eCode := [(9, [(0, .sipush 400, 3, 0, 0, []), (3, .aload_n 0, 1, 0, 0, []), (4, .getfield 36, 3, 5, 1, [330]), (7, .isub, 1, 0, 0, []), (8, .ireturn, 1, 0, 0, [])])]
theorem C_106_ok : codOk q_106.1.cls q_106.2.1 C_106 := codB_ok (by decide +kernel)
theorem h_106 : mQ 106 q_106 C_106 := ⟨mq_106, by decide +kernel, by decide, C_106_ok⟩
def C_107 : eCode := [(12, [(0, .iload_n 1, 1, 0, 0, []), (1, .aload_n 0, 1, 0, 0, []), (2, .invokevirtual 105, 3, 5000, 106, [1018, 1011, 1012, 130]), (5, .invokestatic 108, 3, 0, 100001, [1019]), (8, .istore_n 2, 1, 0, 0, []), (9, .iconst 0, 1, 0, 0, []), (10, .istore_n 3, 1, 0, 0, []), (11, .iload_n 3, 1, 0, 0, [])]),
  (28, [(12, .iload_n 2, 1, 0, 0, []), (13, .if_icmp .ge 13, 3, 0, 0, []), (16, .aload_n 0, 1, 0, 0, []), (17, .invokevirtual 111, 3, 5000, 108, [1020, 1022, 20, 130]), (20, .iinc 3 1, 3, 0, 0, []), (23, .goto (-12), 3, 0, 0, []), (26, .iload_n 2, 1, 0, 0, []), (27, .ireturn, 1, 0, 0, [])])]
theorem C_107_ok : codOk q_107.1.cls q_107.2.1 C_107 := codB_ok (by decide +kernel)
theorem h_107 : mQ 107 q_107 C_107 := ⟨mq_107, by decide +kernel, by decide, C_107_ok⟩
def C_108 : eCode := [(14, [(0, .aload_n 0, 1, 0, 0, []), (1, .dup, 1, 0, 0, []), (2, .getfield 49, 3, 5, 4, [344]), (5, .aload_n 0, 1, 0, 0, []), (6, .getfield 29, 3, 5, 0, [326]), (9, .aload_n 0, 1, 0, 0, []), (10, .getfield 43, 3, 5, 2, [335]), (13, .aload_n 0, 1, 0, 0, [])]),
  (30, [(14, .getfield 46, 3, 5, 3, [340]), (17, .invokevirtual 137, 3, 11002, 109, [1024, 1025, 1026, 129]), (20, .iadd, 1, 0, 0, []), (21, .putfield 49, 3, 5, 4, [344]), (24, .aload_n 0, 1, 0, 0, []), (25, .aload_n 0, 1, 0, 0, []), (26, .getfield 29, 3, 5, 0, [326]), (29, .aload_n 0, 1, 0, 0, [])]),
  (48, [(30, .getfield 36, 3, 5, 1, [330]), (33, .aload_n 0, 1, 0, 0, []), (34, .getfield 43, 3, 5, 2, [335]), (37, .aload_n 0, 1, 0, 0, []), (38, .getfield 46, 3, 5, 3, [340]), (41, .invokevirtual 140, 3, 11003, 110, [1028, 1029, 1030, 129]), (44, .putfield 43, 3, 5, 2, [335]), (47, .iconst 0, 1, 0, 0, [])]),
  (89, [(48, .istore_n 1, 1, 0, 0, []), (49, .iload_n 1, 1, 0, 0, []), (50, .aload_n 0, 1, 0, 0, []), (51, .getfield 29, 3, 5, 0, [326]), (54, .getfield 84, 3, 11, 7, [239]), (57, .if_icmp .ge 30, 3, 0, 0, []), (87, .aload_n 0, 1, 0, 0, []), (88, .dup, 1, 0, 0, [])]),
  (98, [(89, .getfield 36, 3, 5, 1, [330]), (92, .iconst 1, 1, 0, 0, []), (93, .iadd, 1, 0, 0, []), (94, .putfield 36, 3, 5, 1, [330]), (97, .return_, 1, 0, 0, [])])]
theorem C_108_ok : codOk q_108.1.cls q_108.2.1 C_108 := codB_ok (by decide +kernel)
theorem h_108 : mQ 108 q_108 C_108 := ⟨mq_108, by decide +kernel, by decide, C_108_ok⟩
def C_109 : eCode := [(14, [(0, .iload_n 1, 1, 0, 0, []), (1, .aload_n 0, 1, 0, 0, []), (2, .getfield 59, 3, 11, 3, [222]), (5, .if_icmp .lt 7, 3, 0, 0, []), (8, .iload_n 2, 1, 0, 0, []), (9, .goto 4, 3, 0, 0, []), (12, .iconst 0, 1, 0, 0, []), (13, .ireturn, 1, 0, 0, [])])]
theorem C_109_ok : codOk q_109.1.cls q_109.2.1 C_109 := codB_ok (by decide +kernel)
theorem h_109 : mQ 109 q_109 C_109 := ⟨mq_109, by decide +kernel, by decide, C_109_ok⟩
def C_110 : eCode := [(13, [(0, .iload_n 2, 1, 0, 0, []), (1, .iload_n 3, 1, 0, 0, []), (2, .isub, 1, 0, 0, []), (3, .istore 4, 2, 0, 0, []), (5, .aload_n 0, 1, 0, 0, []), (6, .getfield 53, 3, 11, 1, [217]), (9, .ifCond .le 23, 3, 0, 0, []), (12, .iload_n 1, 1, 0, 0, [])]),
  (26, [(13, .iconst 1, 1, 0, 0, []), (14, .iadd, 1, 0, 0, []), (15, .aload_n 0, 1, 0, 0, []), (16, .getfield 53, 3, 11, 1, [217]), (19, .irem, 1, 0, 0, []), (20, .ifCond .ne 12, 3, 0, 0, []), (23, .iload 4, 2, 0, 0, []), (25, .aload_n 0, 1, 0, 0, [])]),
  (43, [(26, .getfield 56, 3, 11, 2, [219]), (29, .iadd, 1, 0, 0, []), (30, .istore 4, 2, 0, 0, []), (32, .iconst 0, 1, 0, 0, []), (33, .bipush 99, 2, 0, 0, []), (35, .iload 4, 2, 0, 0, []), (37, .invokestatic 101, 3, 0, 100001, [1032]), (40, .invokestatic 107, 3, 0, 100000, [1033])]),
  (44, [(43, .ireturn, 1, 0, 0, [])])]
theorem C_110_ok : codOk q_110.1.cls q_110.2.1 C_110 := codB_ok (by decide +kernel)
theorem h_110 : mQ 110 q_110 C_110 := ⟨mq_110, by decide +kernel, by decide, C_110_ok⟩
def C_112 : eCode := [(12, [(0, .aload_n 0, 1, 0, 0, []), (1, .getfield 41, 3, 12, 5, [613]), (4, .aload_n 0, 1, 0, 0, []), (5, .getfield 31, 3, 12, 3, [611]), (8, .invokevirtual 253, 3, 3001, 113, [1043, 1044, 1045, 131]), (11, .ireturn, 1, 0, 0, [])])]
theorem C_112_ok : codOk q_112.1.cls q_112.2.1 C_112 := codB_ok (by decide +kernel)
theorem h_112 : mQ 112 q_112 C_112 := ⟨mq_112, by decide +kernel, by decide, C_112_ok⟩
def C_113 : eCode := [(9, [(0, .aload_n 0, 1, 0, 0, []), (1, .getfield 28, 3, 3, 2, [391]), (4, .ifCond .ne 5, 3, 0, 0, []), (7, .iconst (-1), 1, 0, 0, []), (8, .ireturn, 1, 0, 0, [])])]
theorem C_113_ok : codOk q_113.1.cls q_113.2.1 C_113 := codB_ok (by decide +kernel)
theorem h_113 : mQ 113 q_113 C_113 := ⟨mq_113, by decide +kernel, by decide, C_113_ok⟩
def C_114 : eCode := [(15, [(0, .iload_n 1, 1, 0, 0, []), (1, .iconst 0, 1, 0, 0, []), (2, .bipush 60, 2, 0, 0, []), (4, .invokestatic 222, 3, 3, 53, [954, 796, 127]), (7, .ifCond .eq 14, 3, 0, 0, []), (10, .iload_n 1, 1, 0, 0, []), (11, .aload_n 0, 1, 0, 0, []), (12, .getfield 31, 3, 12, 3, [611])]),
  (31, [(15, .invokevirtual 247, 3, 5000, 106, [1010, 1011, 1012, 130]), (18, .if_icmp .le 5, 3, 0, 0, []), (21, .iconst (-1), 1, 0, 0, []), (22, .ireturn, 1, 0, 0, []), (23, .aload_n 0, 1, 0, 0, []), (24, .getfield 31, 3, 12, 3, [611]), (27, .getfield 204, 3, 5, 2, [339]), (30, .istore_n 2, 1, 0, 0, [])]),
  (43, [(31, .iconst 0, 1, 0, 0, []), (32, .istore_n 3, 1, 0, 0, []), (33, .iload_n 3, 1, 0, 0, []), (34, .iload_n 1, 1, 0, 0, []), (35, .if_icmp .ge 34, 3, 0, 0, []), (38, .aload_n 0, 1, 0, 0, []), (39, .getfield 19, 3, 12, 1, [609]), (42, .aload_n 0, 1, 0, 0, [])]),
  (59, [(43, .getfield 31, 3, 12, 3, [611]), (46, .getfield 201, 3, 5, 1, [334]), (49, .iload_n 3, 1, 0, 0, []), (50, .iadd, 1, 0, 0, []), (51, .iload_n 2, 1, 0, 0, []), (52, .aload_n 0, 1, 0, 0, []), (53, .getfield 31, 3, 12, 3, [611]), (56, .getfield 207, 3, 5, 3, [342])]),
  (71, [(59, .invokevirtual 257, 3, 11003, 110, [1051, 1029, 1030, 129]), (62, .istore_n 2, 1, 0, 0, []), (63, .iinc 3 1, 3, 0, 0, []), (66, .goto (-33), 3, 0, 0, []), (69, .iload_n 2, 1, 0, 0, []), (70, .ireturn, 1, 0, 0, [])])]
theorem C_114_ok : codOk q_114.1.cls q_114.2.1 C_114 := codB_ok (by decide +kernel)
theorem h_114 : mQ 114 q_114 C_114 := ⟨mq_114, by decide +kernel, by decide, C_114_ok⟩
def C_115 : eCode := [(20, [(0, .aload_n 0, 1, 0, 0, []), (1, .iload_n 1, 1, 0, 0, []), (2, .invokevirtual 144, 3, 12001, 91, [950, 952, 19, 127]), (5, .ifCond .eq 13, 3, 0, 0, []), (18, .iconst (-1), 1, 0, 0, []), (19, .ireturn, 1, 0, 0, [])])]
theorem C_115_ok : codOk q_115.1.cls q_115.2.1 C_115 := codB_ok (by decide +kernel)
theorem h_115 : mQ 115 q_115 C_115 := ⟨mq_115, by decide +kernel, by decide, C_115_ok⟩
def C_116 : eCode := [(10, [(0, .aload_n 0, 1, 0, 0, []), (1, .iload_n 1, 1, 0, 0, []), (2, .invokevirtual 144, 3, 12001, 91, [950, 952, 19, 127]), (5, .ifCond .ne 5, 3, 0, 0, []), (8, .iconst (-1), 1, 0, 0, []), (9, .ireturn, 1, 0, 0, [])])]
theorem C_116_ok : codOk q_116.1.cls q_116.2.1 C_116 := codB_ok (by decide +kernel)
theorem h_116 : mQ 116 q_116 C_116 := ⟨mq_116, by decide +kernel, by decide, C_116_ok⟩
def C_117 : eCode := [(16, [(0, .aload_n 0, 1, 0, 0, []), (1, .getfield 65, 3, 12, 9, [617]), (4, .aload_n 0, 1, 0, 0, []), (5, .getfield 10, 3, 12, 0, [608]), (8, .aload_n 0, 1, 0, 0, []), (9, .getfield 19, 3, 12, 1, [609]), (12, .invokevirtual 261, 3, 9002, 118, [1064, 1065, 1066, 134]), (15, .istore_n 1, 1, 0, 0, [])]),
  (43, [(16, .aload_n 0, 1, 0, 0, []), (17, .getfield 10, 3, 12, 0, [608]), (20, .invokevirtual 264, 3, 10000, 76, [886, 887, 888, 128]), (23, .iload_n 1, 1, 0, 0, []), (24, .ifCond .eq 17, 3, 0, 0, []), (41, .iconst (-1), 1, 0, 0, []), (42, .ireturn, 1, 0, 0, [])])]
theorem C_117_ok : codOk q_117.1.cls q_117.2.1 C_117 := codB_ok (by decide +kernel)
theorem h_117 : mQ 117 q_117 C_117 := ⟨mq_117, by decide +kernel, by decide, C_117_ok⟩
def C_118 : eCode := [(12, [(0, .aload_n 1, 1, 0, 0, []), (1, .invokevirtual 27, 3, 10000, 22, [1068, 670, 671, 128]), (4, .iconst 3, 1, 0, 0, []), (5, .idiv, 1, 0, 0, []), (6, .istore_n 3, 1, 0, 0, []), (7, .aload_n 1, 1, 0, 0, []), (8, .invokevirtual 27, 3, 10000, 22, [1068, 670, 671, 128]), (11, .iconst 3, 1, 0, 0, [])]),
  (26, [(12, .irem, 1, 0, 0, []), (13, .ifCond .ne 12, 3, 0, 0, []), (16, .iload_n 3, 1, 0, 0, []), (17, .iconst 1, 1, 0, 0, []), (18, .iconst 5, 1, 0, 0, []), (19, .invokestatic 33, 3, 3, 53, [1069, 796, 127]), (22, .ifCond .ne 5, 3, 0, 0, []), (25, .iconst 0, 1, 0, 0, [])]),
  (27, [(26, .ireturn, 1, 0, 0, [])])]
theorem C_118_ok : codOk q_118.1.cls q_118.2.1 C_118 := codB_ok (by decide +kernel)
theorem h_118 : mQ 118 q_118 C_118 := ⟨mq_118, by decide +kernel, by decide, C_118_ok⟩
def C_124 : eCode := [(9, [(0, .aload_n 0, 1, 0, 0, []), (1, .getfield 65, 3, 12, 9, [617]), (4, .iload_n 1, 1, 0, 0, []), (5, .invokevirtual 270, 3, 9001, 125, [1100, 1101, 1102, 134]), (8, .ireturn, 1, 0, 0, [])])]
theorem C_124_ok : codOk q_124.1.cls q_124.2.1 C_124 := codB_ok (by decide +kernel)
theorem h_124 : mQ 124 q_124 C_124 := ⟨mq_124, by decide +kernel, by decide, C_124_ok⟩
def C_125 : eCode := [(23, [(0, .iload_n 1, 1, 0, 0, []), (1, .ifCond .lt 20, 3, 0, 0, []), (4, .iload_n 1, 1, 0, 0, []), (5, .aload_n 0, 1, 0, 0, []), (6, .getfield 47, 3, 9, 5, [473]), (9, .if_icmp .ge 12, 3, 0, 0, []), (21, .iconst (-1), 1, 0, 0, []), (22, .ireturn, 1, 0, 0, [])])]
theorem C_125_ok : codOk q_125.1.cls q_125.2.1 C_125 := codB_ok (by decide +kernel)
theorem h_125 : mQ 125 q_125 C_125 := ⟨mq_125, by decide +kernel, by decide, C_125_ok⟩
def C_126 : eCode := [(30, [(0, .aload_n 0, 1, 0, 0, []), (1, .iload_n 1, 1, 0, 0, []), (2, .invokevirtual 144, 3, 12001, 91, [950, 952, 19, 127]), (5, .ifCond .eq 23, 3, 0, 0, []), (28, .iconst (-1), 1, 0, 0, []), (29, .ireturn, 1, 0, 0, [])])]
theorem C_126_ok : codOk q_126.1.cls q_126.2.1 C_126 := codB_ok (by decide +kernel)
theorem h_126 : mQ 126 q_126 C_126 := ⟨mq_126, by decide +kernel, by decide, C_126_ok⟩
def C_130 : eCode := [(9, [(0, .aload_n 0, 1, 0, 0, []), (1, .getfield 72, 3, 12, 10, [618]), (4, .iload_n 1, 1, 0, 0, []), (5, .invokevirtual 275, 3, 7001, 131, [1127, 1128, 1129, 135]), (8, .ireturn, 1, 0, 0, [])])]
theorem C_130_ok : codOk q_130.1.cls q_130.2.1 C_130 := codB_ok (by decide +kernel)
theorem h_130 : mQ 130 q_130 C_130 := ⟨mq_130, by decide +kernel, by decide, C_130_ok⟩
def C_131 : eCode := [(23, [(0, .iload_n 1, 1, 0, 0, []), (1, .ifCond .lt 20, 3, 0, 0, []), (4, .iload_n 1, 1, 0, 0, []), (5, .aload_n 0, 1, 0, 0, []), (6, .getfield 34, 3, 7, 2, [498]), (9, .if_icmp .ge 12, 3, 0, 0, []), (21, .iconst (-1), 1, 0, 0, []), (22, .ireturn, 1, 0, 0, [])])]
theorem C_131_ok : codOk q_131.1.cls q_131.2.1 C_131 := codB_ok (by decide +kernel)
theorem h_131 : mQ 131 q_131 C_131 := ⟨mq_131, by decide +kernel, by decide, C_131_ok⟩
def C_132 : eCode := [(18, [(0, .aload_n 0, 1, 0, 0, []), (1, .getfield 79, 3, 12, 11, [619]), (4, .aload_n 0, 1, 0, 0, []), (5, .getfield 19, 3, 12, 1, [609]), (8, .aload_n 0, 1, 0, 0, []), (9, .getfield 31, 3, 12, 3, [611]), (12, .invokevirtual 278, 3, 5000, 133, [1135, 1136, 1137, 130]), (15, .invokevirtual 281, 3, 1002, 134, [1139, 1140, 1141, 136])]),
  (19, [(18, .ireturn, 1, 0, 0, [])])]
theorem C_132_ok : codOk q_132.1.cls q_132.2.1 C_132 := codB_ok (by decide +kernel)
theorem h_132 : mQ 132 q_132 C_132 := ⟨mq_132, by decide +kernel, by decide, C_132_ok⟩
def C_133 : eCode := [(12, [(0, .iconst 0, 1, 0, 0, []), (1, .istore_n 1, 1, 0, 0, []), (2, .iconst 0, 1, 0, 0, []), (3, .istore_n 2, 1, 0, 0, []), (4, .iload_n 2, 1, 0, 0, []), (5, .aload_n 0, 1, 0, 0, []), (6, .getfield 29, 3, 5, 0, [326]), (9, .getfield 84, 3, 11, 7, [239])]),
  (52, [(12, .if_icmp .ge 38, 3, 0, 0, []), (50, .iload_n 1, 1, 0, 0, []), (51, .ireturn, 1, 0, 0, [])])]
theorem C_133_ok : codOk q_133.1.cls q_133.2.1 C_133 := codB_ok (by decide +kernel)
theorem h_133 : mQ 133 q_133 C_133 := ⟨mq_133, by decide +kernel, by decide, C_133_ok⟩
def C_134 : eCode := [(16, [(0, .aload_n 0, 1, 0, 0, []), (1, .iload_n 2, 1, 0, 0, []), (2, .invokestatic 20, 3, 1, 135, [1143, 1144, 153]), (5, .putfield 26, 3, 1, 2, [520]), (8, .aload_n 0, 1, 0, 0, []), (9, .sipush 1000, 3, 0, 0, []), (12, .putfield 30, 3, 1, 3, [521]), (15, .aload_n 0, 1, 0, 0, [])]),
  (28, [(16, .aload_n 1, 1, 0, 0, []), (17, .iload_n 2, 1, 0, 0, []), (18, .iconst 0, 1, 0, 0, []), (19, .iconst (-1), 1, 0, 0, []), (20, .iconst 0, 1, 0, 0, []), (21, .invokevirtual 33, 3, 1005, 136, [1149, 1151, 27, 136]), (24, .aload_n 0, 1, 0, 0, []), (25, .getfield 30, 3, 1, 3, [521])]),
  (29, [(28, .ireturn, 1, 0, 0, [])])]
theorem C_134_ok : codOk q_134.1.cls q_134.2.1 C_134 := codB_ok (by decide +kernel)
theorem h_134 : mQ 134 q_134 C_134 := ⟨mq_134, by decide +kernel, by decide, C_134_ok⟩
def C_135 : eCode := [(10, [(0, .iload_n 0, 1, 0, 0, []), (1, .iload_n 0, 1, 0, 0, []), (2, .iconst 1, 1, 0, 0, []), (3, .iushr, 1, 0, 0, []), (4, .ldc_w 265, 3, 1431655765, 0, [1146]), (7, .iand, 1, 0, 0, []), (8, .isub, 1, 0, 0, []), (9, .istore_n 0, 1, 0, 0, [])]),
  (22, [(10, .iload_n 0, 1, 0, 0, []), (11, .ldc_w 266, 3, 858993459, 0, [1147]), (14, .iand, 1, 0, 0, []), (15, .iload_n 0, 1, 0, 0, []), (16, .iconst 2, 1, 0, 0, []), (17, .iushr, 1, 0, 0, []), (18, .ldc_w 266, 3, 858993459, 0, [1147]), (21, .iand, 1, 0, 0, [])]),
  (32, [(22, .iadd, 1, 0, 0, []), (23, .istore_n 0, 1, 0, 0, []), (24, .iload_n 0, 1, 0, 0, []), (25, .iload_n 0, 1, 0, 0, []), (26, .iconst 4, 1, 0, 0, []), (27, .iushr, 1, 0, 0, []), (28, .iadd, 1, 0, 0, []), (29, .ldc_w 267, 3, 252645135, 0, [1148])]),
  (41, [(32, .iand, 1, 0, 0, []), (33, .istore_n 0, 1, 0, 0, []), (34, .iload_n 0, 1, 0, 0, []), (35, .iload_n 0, 1, 0, 0, []), (36, .bipush 8, 2, 0, 0, []), (38, .iushr, 1, 0, 0, []), (39, .iadd, 1, 0, 0, []), (40, .istore_n 0, 1, 0, 0, [])]),
  (51, [(41, .iload_n 0, 1, 0, 0, []), (42, .iload_n 0, 1, 0, 0, []), (43, .bipush 16, 2, 0, 0, []), (45, .iushr, 1, 0, 0, []), (46, .iadd, 1, 0, 0, []), (47, .istore_n 0, 1, 0, 0, []), (48, .iload_n 0, 1, 0, 0, []), (49, .bipush 63, 2, 0, 0, [])]),
  (53, [(51, .iand, 1, 0, 0, []), (52, .ireturn, 1, 0, 0, [])])]
theorem C_135_ok : codOk q_135.1.cls q_135.2.1 C_135 := codB_ok (by decide +kernel)
theorem h_135 : mQ 135 q_135 C_135 := ⟨mq_135, by decide +kernel, by decide, C_135_ok⟩
def C_136 : eCode := [(14, [(0, .iload_n 3, 1, 0, 0, []), (1, .aload_n 0, 1, 0, 0, []), (2, .getfield 26, 3, 1, 2, [520]), (5, .if_icmp .lt 48, 3, 0, 0, []), (8, .iload 5, 2, 0, 0, []), (10, .aload_n 1, 1, 0, 0, []), (11, .iload 4, 2, 0, 0, []), (13, .iconst (-1), 1, 0, 0, [])]),
  (30, [(14, .invokestatic 37, 3, 3, 137, [1153, 1154, 136]), (17, .iadd, 1, 0, 0, []), (18, .istore 6, 2, 0, 0, []), (20, .iload 6, 2, 0, 0, []), (22, .aload_n 0, 1, 0, 0, []), (23, .getfield 30, 3, 1, 3, [521]), (26, .if_icmp .ge 26, 3, 0, 0, []), (29, .aload_n 0, 1, 0, 0, [])]),
  (45, [(30, .iload 6, 2, 0, 0, []), (32, .putfield 30, 3, 1, 3, [521]), (35, .aload_n 0, 1, 0, 0, []), (36, .getfield 11, 3, 1, 0, [518]), (39, .iconst 0, 1, 0, 0, []), (40, .aload_n 0, 1, 0, 0, []), (41, .getfield 17, 3, 1, 1, [519]), (44, .iconst 0, 1, 0, 0, [])]),
  (53, [(45, .aload_n 0, 1, 0, 0, []), (46, .getfield 26, 3, 1, 2, [520]), (49, .invokestatic 41, 3, 0, 100003, [1165]), (52, .return_, 1, 0, 0, [])])]
theorem C_136_ok : codOk q_136.1.cls q_136.2.1 C_136 := codB_ok (by decide +kernel)
theorem h_136 : mQ 136 q_136 C_136 := ⟨mq_136, by decide +kernel, by decide, C_136_ok⟩
def C_137 : eCode := [(14, [(0, .aload_n 0, 1, 0, 0, []), (1, .iload_n 1, 1, 0, 0, []), (2, .invokestatic 48, 3, 2, 138, [1156, 1157, 136]), (5, .aload_n 0, 1, 0, 0, []), (6, .iload_n 2, 1, 0, 0, []), (7, .invokestatic 48, 3, 2, 138, [1156, 1157, 136]), (10, .isub, 1, 0, 0, []), (11, .invokestatic 52, 3, 0, 100002, [1159])]),
  (28, [(14, .aload_n 0, 1, 0, 0, []), (15, .iload_n 1, 1, 0, 0, []), (16, .invokestatic 57, 3, 2, 140, [1162, 1163, 136]), (19, .aload_n 0, 1, 0, 0, []), (20, .iload_n 2, 1, 0, 0, []), (21, .invokestatic 57, 3, 2, 140, [1162, 1163, 136]), (24, .isub, 1, 0, 0, []), (25, .invokestatic 52, 3, 0, 100002, [1159])]),
  (30, [(28, .iadd, 1, 0, 0, []), (29, .ireturn, 1, 0, 0, [])])]
theorem C_137_ok : codOk q_137.1.cls q_137.2.1 C_137 := codB_ok (by decide +kernel)
theorem h_137 : mQ 137 q_137 C_137 := ⟨mq_137, by decide +kernel, by decide, C_137_ok⟩
def C_138 : eCode := [(16, [(0, .iload_n 1, 1, 0, 0, []), (1, .iconst (-1), 1, 0, 0, []), (2, .if_icmp .ne 7, 3, 0, 0, []), (5, .iconst 0, 1, 0, 0, []), (6, .goto 9, 3, 0, 0, []), (15, .ireturn, 1, 0, 0, [])])]
theorem C_138_ok : codOk q_138.1.cls q_138.2.1 C_138 := codB_ok (by decide +kernel)
theorem h_138 : mQ 138 q_138 C_138 := ⟨mq_138, by decide +kernel, by decide, C_138_ok⟩
def C_140 : eCode := [(16, [(0, .iload_n 1, 1, 0, 0, []), (1, .iconst (-1), 1, 0, 0, []), (2, .if_icmp .ne 7, 3, 0, 0, []), (5, .iconst 0, 1, 0, 0, []), (6, .goto 9, 3, 0, 0, []), (15, .ireturn, 1, 0, 0, [])])]
theorem C_140_ok : codOk q_140.1.cls q_140.2.1 C_140 := codB_ok (by decide +kernel)
theorem h_140 : mQ 140 q_140 C_140 := ⟨mq_140, by decide +kernel, by decide, C_140_ok⟩
def C_141 : eCode := [(9, [(0, .aload_n 0, 1, 0, 0, []), (1, .getfield 79, 3, 12, 11, [619]), (4, .iload_n 1, 1, 0, 0, []), (5, .invokevirtual 284, 3, 1001, 142, [1170, 1171, 1172, 136]), (8, .ireturn, 1, 0, 0, [])])]
theorem C_141_ok : codOk q_141.1.cls q_141.2.1 C_141 := codB_ok (by decide +kernel)
theorem h_141 : mQ 141 q_141 C_141 := ⟨mq_141, by decide +kernel, by decide, C_141_ok⟩
def C_142 : eCode := [(23, [(0, .iload_n 1, 1, 0, 0, []), (1, .ifCond .lt 20, 3, 0, 0, []), (4, .iload_n 1, 1, 0, 0, []), (5, .aload_n 0, 1, 0, 0, []), (6, .getfield 26, 3, 1, 2, [520]), (9, .if_icmp .ge 12, 3, 0, 0, []), (21, .iconst (-1), 1, 0, 0, []), (22, .ireturn, 1, 0, 0, [])])]
theorem C_142_ok : codOk q_142.1.cls q_142.2.1 C_142 := codB_ok (by decide +kernel)
theorem h_142 : mQ 142 q_142 C_142 := ⟨mq_142, by decide +kernel, by decide, C_142_ok⟩
def C_143 : eCode := [(16, [(0, .aload_n 0, 1, 0, 0, []), (1, .getfield 86, 3, 12, 12, [620]), (4, .aload_n 0, 1, 0, 0, []), (5, .getfield 10, 3, 12, 0, [608]), (8, .aload_n 0, 1, 0, 0, []), (9, .getfield 19, 3, 12, 1, [609]), (12, .invokevirtual 287, 3, 6002, 144, [1178, 1179, 1180, 137]), (15, .istore_n 1, 1, 0, 0, [])]),
  (25, [(16, .aload_n 0, 1, 0, 0, []), (17, .getfield 10, 3, 12, 0, [608]), (20, .invokevirtual 264, 3, 10000, 76, [886, 887, 888, 128]), (23, .iload_n 1, 1, 0, 0, []), (24, .ireturn, 1, 0, 0, [])])]
theorem C_143_ok : codOk q_143.1.cls q_143.2.1 C_143 := codB_ok (by decide +kernel)
theorem h_143 : mQ 143 q_143 C_143 := ⟨mq_143, by decide +kernel, by decide, C_143_ok⟩
def C_144 : eCode := [(12, [(0, .aload_n 1, 1, 0, 0, []), (1, .invokevirtual 21, 3, 10000, 22, [1182, 670, 671, 128]), (4, .iconst 2, 1, 0, 0, []), (5, .idiv, 1, 0, 0, []), (6, .istore_n 3, 1, 0, 0, []), (7, .aload_n 1, 1, 0, 0, []), (8, .invokevirtual 21, 3, 10000, 22, [1182, 670, 671, 128]), (11, .iconst 2, 1, 0, 0, [])]),
  (27, [(12, .irem, 1, 0, 0, []), (13, .ifCond .ne 13, 3, 0, 0, []), (16, .iload_n 3, 1, 0, 0, []), (17, .iconst 1, 1, 0, 0, []), (18, .bipush 8, 2, 0, 0, []), (20, .invokestatic 27, 3, 3, 53, [1183, 796, 127]), (23, .ifCond .ne 5, 3, 0, 0, []), (26, .iconst (-1), 1, 0, 0, [])]),
  (28, [(27, .ireturn, 1, 0, 0, [])])]
theorem C_144_ok : codOk q_144.1.cls q_144.2.1 C_144 := codB_ok (by decide +kernel)
theorem h_144 : mQ 144 q_144 C_144 := ⟨mq_144, by decide +kernel, by decide, C_144_ok⟩
def C_146 : eCode := [(8, [(0, .aload_n 0, 1, 0, 0, []), (1, .getfield 86, 3, 12, 12, [620]), (4, .getfield 290, 3, 6, 0, [538]), (7, .ireturn, 1, 0, 0, [])])]
theorem C_146_ok : codOk q_146.1.cls q_146.2.1 C_146 := codB_ok (by decide +kernel)
theorem h_146 : mQ 146 q_146 C_146 := ⟨mq_146, by decide +kernel, by decide, C_146_ok⟩
def C_147 : eCode := [(8, [(0, .aload_n 0, 1, 0, 0, []), (1, .getfield 86, 3, 12, 12, [620]), (4, .getfield 293, 3, 6, 1, [540]), (7, .ireturn, 1, 0, 0, [])])]
theorem C_147_ok : codOk q_147.1.cls q_147.2.1 C_147 := codB_ok (by decide +kernel)
theorem h_147 : mQ 147 q_147 C_147 := ⟨mq_147, by decide +kernel, by decide, C_147_ok⟩
def C_148 : eCode := [(8, [(0, .aload_n 0, 1, 0, 0, []), (1, .getfield 86, 3, 12, 12, [620]), (4, .getfield 296, 3, 6, 2, [542]), (7, .ireturn, 1, 0, 0, [])])]
theorem C_148_ok : codOk q_148.1.cls q_148.2.1 C_148 := codB_ok (by decide +kernel)
theorem h_148 : mQ 148 q_148 C_148 := ⟨mq_148, by decide +kernel, by decide, C_148_ok⟩
def C_149 : eCode := [(21, [(0, .aload_n 0, 1, 0, 0, []), (1, .iload_n 1, 1, 0, 0, []), (2, .invokevirtual 176, 3, 12001, 90, [946, 948, 18, 127]), (5, .ifCond .eq 14, 3, 0, 0, []), (19, .iconst (-1), 1, 0, 0, []), (20, .ireturn, 1, 0, 0, [])])]
theorem C_149_ok : codOk q_149.1.cls q_149.2.1 C_149 := codB_ok (by decide +kernel)
theorem h_149 : mQ 149 q_149 C_149 := ⟨mq_149, by decide +kernel, by decide, C_149_ok⟩
def C_151 : eCode := [(21, [(0, .aload_n 0, 1, 0, 0, []), (1, .iload_n 1, 1, 0, 0, []), (2, .invokevirtual 176, 3, 12001, 90, [946, 948, 18, 127]), (5, .ifCond .eq 14, 3, 0, 0, []), (19, .iconst (-1), 1, 0, 0, []), (20, .ireturn, 1, 0, 0, [])])]
theorem C_151_ok : codOk q_151.1.cls q_151.2.1 C_151 := codB_ok (by decide +kernel)
theorem h_151 : mQ 151 q_151 C_151 := ⟨mq_151, by decide +kernel, by decide, C_151_ok⟩
def C_154 : eCode := [(8, [(0, .aload_n 0, 1, 0, 0, []), (1, .getfield 31, 3, 12, 3, [611]), (4, .invokevirtual 305, 3, 5000, 155, [1228, 1229, 1230, 130]), (7, .ireturn, 1, 0, 0, [])])]
theorem C_154_ok : codOk q_154.1.cls q_154.2.1 C_154 := codB_ok (by decide +kernel)
theorem h_154 : mQ 154 q_154 C_154 := ⟨mq_154, by decide +kernel, by decide, C_154_ok⟩
def C_155 : eCode := [(12, [(0, .iconst 0, 1, 0, 0, []), (1, .istore_n 1, 1, 0, 0, []), (2, .iconst 0, 1, 0, 0, []), (3, .istore_n 2, 1, 0, 0, []), (4, .iload_n 2, 1, 0, 0, []), (5, .aload_n 0, 1, 0, 0, []), (6, .getfield 29, 3, 5, 0, [326]), (9, .getfield 84, 3, 11, 7, [239])]),
  (68, [(12, .if_icmp .ge 54, 3, 0, 0, []), (66, .iload_n 1, 1, 0, 0, []), (67, .ireturn, 1, 0, 0, [])])]
theorem C_155_ok : codOk q_155.1.cls q_155.2.1 C_155 := codB_ok (by decide +kernel)
theorem h_155 : mQ 155 q_155 C_155 := ⟨mq_155, by decide +kernel, by decide, C_155_ok⟩
def C_157 : eCode := [(13, [(0, .iload_n 1, 1, 0, 0, []), (1, .iconst 1, 1, 0, 0, []), (2, .bipush 60, 2, 0, 0, []), (4, .invokestatic 222, 3, 3, 53, [954, 796, 127]), (7, .ifCond .ne 5, 3, 0, 0, []), (10, .iconst (-1), 1, 0, 0, []), (11, .ireturn, 1, 0, 0, []), (12, .aload_n 0, 1, 0, 0, [])]),
  (31, [(13, .getfield 35, 3, 12, 4, [612]), (16, .aload_n 0, 1, 0, 0, []), (17, .getfield 31, 3, 12, 3, [611]), (20, .invokevirtual 308, 3, 5001, 97, [1240, 975, 976, 130]), (23, .aload_n 0, 1, 0, 0, []), (24, .getfield 35, 3, 12, 4, [612]), (27, .iload_n 1, 1, 0, 0, []), (28, .invokevirtual 250, 3, 5001, 107, [1014, 1015, 1016, 130])]),
  (47, [(31, .pop, 1, 0, 0, []), (32, .aload_n 0, 1, 0, 0, []), (33, .getfield 35, 3, 12, 4, [612]), (36, .invokevirtual 219, 3, 5000, 88, [938, 939, 940, 130]), (39, .aload_n 0, 1, 0, 0, []), (40, .getfield 31, 3, 12, 3, [611]), (43, .invokevirtual 219, 3, 5000, 88, [938, 939, 940, 130]), (46, .isub, 1, 0, 0, [])]),
  (48, [(47, .ireturn, 1, 0, 0, [])])]
theorem C_157_ok : codOk q_157.1.cls q_157.2.1 C_157 := codB_ok (by decide +kernel)
theorem h_157 : mQ 157 q_157 C_157 := ⟨mq_157, by decide +kernel, by decide, C_157_ok⟩
def C_158 : eCode := [(10, [(0, .aload_n 0, 1, 0, 0, []), (1, .iload_n 1, 1, 0, 0, []), (2, .invokevirtual 176, 3, 12001, 90, [946, 948, 18, 127]), (5, .ifCond .ne 5, 3, 0, 0, []), (8, .iconst (-1), 1, 0, 0, []), (9, .ireturn, 1, 0, 0, [])])]
theorem C_158_ok : codOk q_158.1.cls q_158.2.1 C_158 := codB_ok (by decide +kernel)
theorem h_158 : mQ 158 q_158 C_158 := ⟨mq_158, by decide +kernel, by decide, C_158_ok⟩
def C_199 : eCode := [(5, [(0, .aload_n 0, 1, 0, 0, []), (1, .invokespecial 343, 3, 1000, 200, [1410, 1411, 139, 2385, 607]), (4, .ireturn, 1, 0, 0, [])])]
theorem C_199_ok : codOk q_199.1.cls q_199.2.1 C_199 := codB_ok (by decide +kernel)
theorem h_199 : mQ 199 q_199 C_199 := ⟨mq_199, by decide +kernel, by decide, C_199_ok⟩
def C_200 : eCode := [(5, [(0, .aload_n 0, 1, 0, 0, []), (1, .getfield 79, 3, 0, 3, [598]), (4, .ireturn, 1, 0, 0, [])])]
theorem C_200_ok : codOk q_200.1.cls q_200.2.1 C_200 := codB_ok (by decide +kernel)
theorem h_200 : mQ 200 q_200 C_200 := ⟨mq_200, by decide +kernel, by decide, C_200_ok⟩
def C_201 : eCode := [(27, [(0, .iload_n 1, 1, 0, 0, []), (1, .ifCond .lt 25, 3, 0, 0, []), (4, .iload_n 1, 1, 0, 0, []), (5, .aload_n 0, 1, 0, 0, []), (6, .getfield 100, 3, 12, 14, [622]), (9, .invokevirtual 336, 3, 0, 199, [1406, 1407, 1408, 140]), (12, .if_icmp .ge 14, 3, 0, 0, []), (26, .iconst (-1), 1, 0, 0, [])]),
  (28, [(27, .ireturn, 1, 0, 0, [])])]
theorem C_201_ok : codOk q_201.1.cls q_201.2.1 C_201 := codB_ok (by decide +kernel)
theorem h_201 : mQ 201 q_201 C_201 := ⟨mq_201, by decide +kernel, by decide, C_201_ok⟩
def C_204 : eCode := [(13, [(0, .iload_n 1, 1, 0, 0, []), (1, .iconst 1, 1, 0, 0, []), (2, .bipush 60, 2, 0, 0, []), (4, .invokestatic 222, 3, 3, 53, [954, 796, 127]), (7, .ifCond .ne 5, 3, 0, 0, []), (10, .iconst (-1), 1, 0, 0, []), (11, .ireturn, 1, 0, 0, []), (12, .aload_n 0, 1, 0, 0, [])]),
  (33, [(13, .getfield 31, 3, 12, 3, [611]), (16, .invokevirtual 247, 3, 5000, 106, [1010, 1011, 1012, 130]), (19, .ifCond .le 14, 3, 0, 0, []), (22, .aload_n 0, 1, 0, 0, []), (23, .getfield 41, 3, 12, 5, [613]), (26, .aload_n 0, 1, 0, 0, []), (27, .getfield 31, 3, 12, 3, [611]), (30, .invokevirtual 230, 3, 3001, 96, [970, 971, 972, 131])]),
  (43, [(33, .aload_n 0, 1, 0, 0, []), (34, .getfield 31, 3, 12, 3, [611]), (37, .iload_n 1, 1, 0, 0, []), (38, .iload_n 2, 1, 0, 0, []), (39, .invokevirtual 343, 3, 5002, 205, [1431, 1432, 1433, 130]), (42, .ireturn, 1, 0, 0, [])])]
theorem C_204_ok : codOk q_204.1.cls q_204.2.1 C_204 := codB_ok (by decide +kernel)
theorem h_204 : mQ 204 q_204 C_204 := ⟨mq_204, by decide +kernel, by decide, C_204_ok⟩
def C_205 : eCode := [(14, [(0, .aload_n 0, 1, 0, 0, []), (1, .iload_n 2, 1, 0, 0, []), (2, .putfield 114, 3, 5, 10, [356]), (5, .iload_n 1, 1, 0, 0, []), (6, .aload_n 0, 1, 0, 0, []), (7, .invokevirtual 105, 3, 5000, 106, [1018, 1011, 1012, 130]), (10, .invokestatic 108, 3, 0, 100001, [1019]), (13, .istore_n 3, 1, 0, 0, [])]),
  (28, [(14, .iconst 0, 1, 0, 0, []), (15, .istore 4, 2, 0, 0, []), (17, .iload 4, 2, 0, 0, []), (19, .iload_n 3, 1, 0, 0, []), (20, .if_icmp .ge 71, 3, 0, 0, []), (23, .iconst 0, 1, 0, 0, []), (24, .istore 5, 2, 0, 0, []), (26, .iload 5, 2, 0, 0, [])]),
  (57, [(28, .aload_n 0, 1, 0, 0, []), (29, .getfield 29, 3, 5, 0, [326]), (32, .getfield 84, 3, 11, 7, [239]), (35, .if_icmp .ge 15, 3, 0, 0, []), (50, .aload_n 0, 1, 0, 0, []), (51, .bipush 12, 2, 0, 0, []), (53, .invokevirtual 121, 3, 5001, 207, [1439, 1441, 33, 130]), (56, .aload_n 0, 1, 0, 0, [])]),
  (92, [(57, .getfield 29, 3, 5, 0, [326]), (60, .getfield 124, 3, 11, 4, [226]), (63, .if_icmp .ge 18, 3, 0, 0, []), (81, .aload_n 0, 1, 0, 0, []), (82, .invokevirtual 111, 3, 5000, 108, [1020, 1022, 20, 130]), (85, .iinc 4 1, 3, 0, 0, []), (88, .goto (-71), 3, 0, 0, []), (91, .iload_n 3, 1, 0, 0, [])]),
  (93, [(92, .ireturn, 1, 0, 0, [])])]
theorem C_205_ok : codOk q_205.1.cls q_205.2.1 C_205 := codB_ok (by decide +kernel)
theorem h_205 : mQ 205 q_205 C_205 := ⟨mq_205, by decide +kernel, by decide, C_205_ok⟩
def C_207 : eCode := [(15, [(0, .aload_n 0, 1, 0, 0, []), (1, .aload_n 0, 1, 0, 0, []), (2, .getfield 114, 3, 5, 10, [356]), (5, .ldc 161, 2, 1103515245, 0, [1443]), (7, .imul, 1, 0, 0, []), (8, .sipush 12345, 3, 0, 0, []), (11, .iadd, 1, 0, 0, []), (12, .putfield 114, 3, 5, 10, [356])]),
  (28, [(15, .iload_n 1, 1, 0, 0, []), (16, .ifCond .le 15, 3, 0, 0, []), (19, .aload_n 0, 1, 0, 0, []), (20, .getfield 114, 3, 5, 10, [356]), (23, .bipush 8, 2, 0, 0, []), (25, .iushr, 1, 0, 0, []), (26, .iload_n 1, 1, 0, 0, []), (27, .irem, 1, 0, 0, [])]),
  (33, [(28, .goto 4, 3, 0, 0, []), (32, .ireturn, 1, 0, 0, [])])]
theorem C_207_ok : codOk q_207.1.cls q_207.2.1 C_207 := codB_ok (by decide +kernel)
theorem h_207 : mQ 207 q_207 C_207 := ⟨mq_207, by decide +kernel, by decide, C_207_ok⟩
def C_208 : eCode := [(20, [(0, .aload_n 0, 1, 0, 0, []), (1, .iload_n 1, 1, 0, 0, []), (2, .invokevirtual 144, 3, 12001, 91, [950, 952, 19, 127]), (5, .ifCond .eq 13, 3, 0, 0, []), (18, .iconst (-1), 1, 0, 0, []), (19, .ireturn, 1, 0, 0, [])])]
theorem C_208_ok : codOk q_208.1.cls q_208.2.1 C_208 := codB_ok (by decide +kernel)
theorem h_208 : mQ 208 q_208 C_208 := ⟨mq_208, by decide +kernel, by decide, C_208_ok⟩
def C_209 : eCode := [(14, [(0, .iload_n 1, 1, 0, 0, []), (1, .ifCond .eq 12, 3, 777, 0, []), (4, .iload_n 1, 1, 0, 0, []), (5, .iconst 1, 1, 0, 0, []), (6, .if_icmp .eq 7, 3, 777, 0, []), (9, .sipush (-1000), 3, 0, 0, []), (12, .ireturn, 1, 0, 0, []), (13, .aload_n 0, 1, 0, 0, [])]),
  (32, [(14, .getfield 58, 3, 12, 8, [616]), (17, .aload_n 0, 1, 0, 0, []), (18, .getfield 10, 3, 12, 0, [608]), (21, .aload_n 0, 1, 0, 0, []), (22, .getfield 19, 3, 12, 1, [609]), (25, .invokevirtual 346, 3, 2002, 210, [1455, 1456, 1457, 133]), (28, .aload_n 0, 1, 0, 0, []), (29, .invokevirtual 124, 3, 12000, 74, [878, 880, 17, 127])]),
  (59, [(32, .aload_n 0, 1, 0, 0, []), (33, .getfield 127, 3, 12, 15, [623]), (36, .ifCond .eq 14, 3, 777, 0, []), (50, .iload_n 1, 1, 0, 0, []), (51, .ifCond .ne 26, 3, 777, 0, []), (54, .aload_n 0, 1, 0, 0, []), (55, .getfield 35, 3, 12, 4, [612]), (58, .aload_n 0, 1, 0, 0, [])]),
  (77, [(59, .getfield 31, 3, 12, 3, [611]), (62, .invokevirtual 308, 3, 5001, 97, [1240, 975, 976, 130]), (65, .aload_n 0, 1, 0, 0, []), (66, .getfield 58, 3, 12, 8, [616]), (69, .aload_n 0, 1, 0, 0, []), (70, .getfield 35, 3, 12, 4, [612]), (73, .invokevirtual 349, 3, 2001, 213, [1477, 1478, 1479, 133]), (76, .ireturn, 1, 0, 0, [])]),
  (93, [(77, .aload_n 0, 1, 0, 0, []), (78, .getfield 41, 3, 12, 5, [613]), (81, .aload_n 0, 1, 0, 0, []), (82, .getfield 31, 3, 12, 3, [611]), (85, .invokevirtual 230, 3, 3001, 96, [970, 971, 972, 131]), (88, .aload_n 0, 1, 0, 0, []), (89, .getfield 58, 3, 12, 8, [616]), (92, .aload_n 0, 1, 0, 0, [])]),
  (100, [(93, .getfield 31, 3, 12, 3, [611]), (96, .invokevirtual 349, 3, 2001, 213, [1477, 1478, 1479, 133]), (99, .ireturn, 1, 0, 0, [])])]
theorem C_209_ok : codOk q_209.1.cls q_209.2.1 C_209 := codB_ok (by decide +kernel)
theorem h_209 : mQ 209 q_209 C_209 := ⟨mq_209, by decide +kernel, by decide, C_209_ok⟩
def C_210 : eCode := [(14, [(0, .aload_n 0, 1, 0, 0, []), (1, .iconst 0, 1, 0, 0, []), (2, .putfield 24, 3, 2, 4, [435]), (5, .aload_n 1, 1, 0, 0, []), (6, .sipush 400, 3, 0, 0, []), (9, .invokevirtual 28, 3, 10001, 27, [1459, 690, 691, 128]), (12, .iconst 0, 1, 0, 0, []), (13, .istore_n 3, 1, 0, 0, [])]),
  (40, [(14, .iload_n 3, 1, 0, 0, []), (15, .bipush 40, 2, 0, 0, []), (17, .if_icmp .gt 63, 3, 0, 0, []), (20, .aload_n 1, 1, 0, 0, []), (21, .invokevirtual 34, 3, 10000, 28, [1460, 694, 695, 128]), (24, .aload_n 1, 1, 0, 0, []), (25, .invokevirtual 37, 3, 10000, 46, [1461, 766, 767, 128]), (28, .ifCond .ne 12, 3, 0, 0, [])]),
  (41, [(40, .return_, 1, 0, 0, [])])]
theorem C_210_ok : codOk q_210.1.cls q_210.2.1 C_210 := codB_ok (by decide +kernel)
theorem h_210 : mQ 210 q_210 C_210 := ⟨mq_210, by decide +kernel, by decide, C_210_ok⟩
