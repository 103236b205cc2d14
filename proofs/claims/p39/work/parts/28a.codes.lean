def C_19 : eCode := [(16, [(0, .aload_n 0, 1, 0, 0, []), (1, .getfield 10, 3, 12, 0, [608]), (4, .invokevirtual 104, 3, 10000, 20, [661, 662, 663, 128]), (7, .ifCond .ne 5, 3, 0, 0, []), (10, .iconst (-1), 1, 0, 0, []), (11, .ireturn, 1, 0, 0, []), (12, .aload_n 0, 1, 0, 0, []), (13, .getfield 10, 3, 12, 0, [608])]),
  (32, [(16, .iload_n 1, 1, 0, 0, []), (17, .invokevirtual 108, 3, 10001, 21, [665, 666, 667, 128]), (20, .aload_n 0, 1, 0, 0, []), (21, .getfield 10, 3, 12, 0, [608]), (24, .iload_n 2, 1, 0, 0, []), (25, .invokevirtual 108, 3, 10001, 21, [665, 666, 667, 128]), (28, .aload_n 0, 1, 0, 0, []), (29, .getfield 10, 3, 12, 0, [608])]),
  (49, [(32, .iload_n 3, 1, 0, 0, []), (33, .invokevirtual 108, 3, 10001, 21, [665, 666, 667, 128]), (36, .aload_n 0, 1, 0, 0, []), (37, .getfield 10, 3, 12, 0, [608]), (40, .iload 4, 2, 0, 0, []), (42, .invokevirtual 108, 3, 10001, 21, [665, 666, 667, 128]), (45, .aload_n 0, 1, 0, 0, []), (46, .getfield 10, 3, 12, 0, [608])]),
  (62, [(49, .iload 5, 2, 0, 0, []), (51, .invokevirtual 108, 3, 10001, 21, [665, 666, 667, 128]), (54, .aload_n 0, 1, 0, 0, []), (55, .getfield 10, 3, 12, 0, [608]), (58, .invokevirtual 112, 3, 10000, 22, [669, 670, 671, 128]), (61, .ireturn, 1, 0, 0, [])])]
theorem C_19_ok : codOk q_19.1.cls q_19.2.1 C_19 := codB_ok (by decide +kernel)
theorem h_19 : mQ 19 q_19 C_19 := ⟨mq_19, by decide +kernel, by decide, C_19_ok⟩
def C_20 : eCode := [(17, [(0, .aload_n 0, 1, 0, 0, []), (1, .getfield 15, 3, 10, 1, [171]), (4, .bipush 20, 2, 0, 0, []), (6, .iadd, 1, 0, 0, []), (7, .sipush 940, 3, 0, 0, []), (10, .if_icmp .gt 7, 3, 0, 0, []), (13, .iconst 1, 1, 0, 0, []), (14, .goto 4, 3, 0, 0, [])]),
  (19, [(17, .iconst 0, 1, 0, 0, []), (18, .ireturn, 1, 0, 0, [])])]
theorem C_20_ok : codOk q_20.1.cls q_20.2.1 C_20 := codB_ok (by decide +kernel)
theorem h_20 : mQ 20 q_20 C_20 := ⟨mq_20, by decide +kernel, by decide, C_20_ok⟩
def C_21 : eCode := [(17, [(0, .bipush 24, 2, 0, 0, []), (2, .istore_n 2, 1, 0, 0, []), (3, .iload_n 2, 1, 0, 0, []), (4, .ifCond .lt 42, 3, 0, 0, []), (7, .aload_n 0, 1, 0, 0, []), (8, .getfield 15, 3, 10, 1, [171]), (11, .sipush 940, 3, 0, 0, []), (14, .if_icmp .ge 32, 3, 0, 0, [])]),
  (29, [(17, .aload_n 0, 1, 0, 0, []), (18, .getfield 11, 3, 10, 0, [170]), (21, .aload_n 0, 1, 0, 0, []), (22, .getfield 15, 3, 10, 1, [171]), (25, .iload_n 1, 1, 0, 0, []), (26, .iload_n 2, 1, 0, 0, []), (27, .iushr, 1, 0, 0, []), (28, .i2b, 1, 0, 0, [])]),
  (43, [(29, .bastore, 1, 0, 0, []), (30, .aload_n 0, 1, 0, 0, []), (31, .dup, 1, 0, 0, []), (32, .getfield 15, 3, 10, 1, [171]), (35, .iconst 1, 1, 0, 0, []), (36, .iadd, 1, 0, 0, []), (37, .putfield 15, 3, 10, 1, [171]), (40, .iinc 2 (-8), 3, 0, 0, [])]),
  (47, [(43, .goto (-40), 3, 0, 0, []), (46, .return_, 1, 0, 0, [])])]
theorem C_21_ok : codOk q_21.1.cls q_21.2.1 C_21 := codB_ok (by decide +kernel)
theorem h_21 : mQ 21 q_21 C_21 := ⟨mq_21, by decide +kernel, by decide, C_21_ok⟩
def C_22 : eCode := [(5, [(0, .aload_n 0, 1, 0, 0, []), (1, .getfield 15, 3, 10, 1, [171]), (4, .ireturn, 1, 0, 0, [])])]
theorem C_22_ok : codOk q_22.1.cls q_22.2.1 C_22 := codB_ok (by decide +kernel)
theorem h_22 : mQ 22 q_22 C_22 := ⟨mq_22, by decide +kernel, by decide, C_22_ok⟩
def C_23 : eCode := [(9, [(0, .aload_n 0, 1, 0, 0, []), (1, .getfield 10, 3, 12, 0, [608]), (4, .iload_n 1, 1, 0, 0, []), (5, .invokevirtual 116, 3, 10001, 24, [677, 678, 679, 128]), (8, .ireturn, 1, 0, 0, [])])]
theorem C_23_ok : codOk q_23.1.cls q_23.2.1 C_23 := codB_ok (by decide +kernel)
theorem h_23 : mQ 23 q_23 C_23 := ⟨mq_23, by decide +kernel, by decide, C_23_ok⟩
def C_24 : eCode := [(14, [(0, .iload_n 1, 1, 0, 0, []), (1, .ifCond .lt 11, 3, 0, 0, []), (4, .iload_n 1, 1, 0, 0, []), (5, .aload_n 0, 1, 0, 0, []), (6, .getfield 15, 3, 10, 1, [171]), (9, .if_icmp .le 5, 3, 0, 0, []), (12, .iconst 0, 1, 0, 0, []), (13, .ireturn, 1, 0, 0, [])]),
  (21, [(14, .aload_n 0, 1, 0, 0, []), (15, .iload_n 1, 1, 0, 0, []), (16, .putfield 15, 3, 10, 1, [171]), (19, .iconst 1, 1, 0, 0, []), (20, .ireturn, 1, 0, 0, [])])]
theorem C_24_ok : codOk q_24.1.cls q_24.2.1 C_24 := codB_ok (by decide +kernel)
theorem h_24 : mQ 24 q_24 C_24 := ⟨mq_24, by decide +kernel, by decide, C_24_ok⟩
def C_53 : eCode := [(14, [(0, .iload_n 0, 1, 0, 0, []), (1, .iload_n 1, 1, 0, 0, []), (2, .if_icmp .lt 12, 3, 0, 0, []), (5, .iload_n 0, 1, 0, 0, []), (6, .iload_n 2, 1, 0, 0, []), (7, .if_icmp .gt 7, 3, 0, 0, []), (10, .iconst 1, 1, 0, 0, []), (11, .goto 4, 3, 0, 0, [])]),
  (16, [(14, .iconst 0, 1, 0, 0, []), (15, .ireturn, 1, 0, 0, [])])]
theorem C_53_ok : codOk q_53.1.cls q_53.2.1 C_53 := codB_ok (by decide +kernel)
theorem h_53 : mQ 53 q_53 C_53 := ⟨mq_53, by decide +kernel, by decide, C_53_ok⟩
def C_82 : eCode := [(56, [(0, .iload_n 1, 1, 0, 0, []), (1, .tableswitch 99 0 6 #[43, 51, 59, 67, 75, 83, 91], 43, 0, 0, []), (44, .aload_n 0, 1, 0, 0, []), (45, .getfield 31, 3, 12, 3, [611]), (48, .getfield 201, 3, 5, 1, [334]), (51, .ireturn, 1, 0, 0, []), (52, .aload_n 0, 1, 0, 0, []), (53, .getfield 31, 3, 12, 3, [611])]),
  (72, [(56, .getfield 204, 3, 5, 2, [339]), (59, .ireturn, 1, 0, 0, []), (60, .aload_n 0, 1, 0, 0, []), (61, .getfield 31, 3, 12, 3, [611]), (64, .getfield 207, 3, 5, 3, [342]), (67, .ireturn, 1, 0, 0, []), (68, .aload_n 0, 1, 0, 0, []), (69, .getfield 31, 3, 12, 3, [611])]),
  (88, [(72, .getfield 210, 3, 5, 4, [345]), (75, .ireturn, 1, 0, 0, []), (76, .aload_n 0, 1, 0, 0, []), (77, .getfield 31, 3, 12, 3, [611]), (80, .invokevirtual 213, 3, 5000, 83, [918, 919, 920, 130]), (83, .ireturn, 1, 0, 0, []), (84, .aload_n 0, 1, 0, 0, []), (85, .getfield 31, 3, 12, 3, [611])]),
  (102, [(88, .invokevirtual 216, 3, 5000, 86, [930, 931, 932, 130]), (91, .ireturn, 1, 0, 0, []), (92, .aload_n 0, 1, 0, 0, []), (93, .getfield 31, 3, 12, 3, [611]), (96, .invokevirtual 219, 3, 5000, 88, [938, 939, 940, 130]), (99, .ireturn, 1, 0, 0, []), (100, .iconst (-1), 1, 0, 0, []), (101, .ireturn, 1, 0, 0, [])])]
theorem C_82_ok : codOk q_82.1.cls q_82.2.1 C_82 := codB_ok (by decide +kernel)
theorem h_82 : mQ 82 q_82 C_82 := ⟨mq_82, by decide +kernel, by decide, C_82_ok⟩
def C_83 : eCode := [(18, [(0, .aload_n 0, 1, 0, 0, []), (1, .getfield 29, 3, 5, 0, [326]), (4, .invokevirtual 76, 3, 11000, 84, [922, 923, 924, 129]), (7, .aload_n 0, 1, 0, 0, []), (8, .getfield 29, 3, 5, 0, [326]), (11, .aload_n 0, 1, 0, 0, []), (12, .getfield 43, 3, 5, 2, [335]), (15, .invokevirtual 80, 3, 11001, 85, [926, 927, 928, 129])]),
  (22, [(18, .iconst (-1), 1, 0, 0, []), (19, .ixor, 1, 0, 0, []), (20, .iand, 1, 0, 0, []), (21, .ireturn, 1, 0, 0, [])])]
theorem C_83_ok : codOk q_83.1.cls q_83.2.1 C_83 := codB_ok (by decide +kernel)
theorem h_83 : mQ 83 q_83 C_83 := ⟨mq_83, by decide +kernel, by decide, C_83_ok⟩
def C_84 : eCode := [(9, [(0, .iconst 1, 1, 0, 0, []), (1, .aload_n 0, 1, 0, 0, []), (2, .getfield 68, 3, 11, 6, [231]), (5, .ishl, 1, 0, 0, []), (6, .iconst 1, 1, 0, 0, []), (7, .isub, 1, 0, 0, []), (8, .ireturn, 1, 0, 0, [])])]
theorem C_84_ok : codOk q_84.1.cls q_84.2.1 C_84 := codB_ok (by decide +kernel)
theorem h_84 : mQ 84 q_84 C_84 := ⟨mq_84, by decide +kernel, by decide, C_84_ok⟩
def C_85 : eCode := [(12, [(0, .iconst 0, 1, 0, 0, []), (1, .istore_n 2, 1, 0, 0, []), (2, .iconst 0, 1, 0, 0, []), (3, .istore_n 3, 1, 0, 0, []), (4, .iload_n 3, 1, 0, 0, []), (5, .aload_n 0, 1, 0, 0, []), (6, .getfield 68, 3, 11, 6, [231]), (9, .if_icmp .ge 25, 3, 0, 0, [])]),
  (24, [(12, .iload_n 1, 1, 0, 0, []), (13, .aload_n 0, 1, 0, 0, []), (14, .getfield 25, 3, 11, 13, [252]), (17, .iload_n 3, 1, 0, 0, []), (18, .iaload, 1, 0, 0, []), (19, .if_icmp .gt 9, 3, 0, 0, []), (22, .iload_n 2, 1, 0, 0, []), (23, .iconst 1, 1, 0, 0, [])]),
  (36, [(24, .iload_n 3, 1, 0, 0, []), (25, .ishl, 1, 0, 0, []), (26, .ior, 1, 0, 0, []), (27, .istore_n 2, 1, 0, 0, []), (28, .iinc 3 1, 3, 0, 0, []), (31, .goto (-27), 3, 0, 0, []), (34, .iload_n 2, 1, 0, 0, []), (35, .ireturn, 1, 0, 0, [])])]
theorem C_85_ok : codOk q_85.1.cls q_85.2.1 C_85 := codB_ok (by decide +kernel)
theorem h_85 : mQ 85 q_85 C_85 := ⟨mq_85, by decide +kernel, by decide, C_85_ok⟩
def C_86 : eCode := [(12, [(0, .iconst 0, 1, 0, 0, []), (1, .istore_n 1, 1, 0, 0, []), (2, .iconst 0, 1, 0, 0, []), (3, .istore_n 2, 1, 0, 0, []), (4, .iload_n 2, 1, 0, 0, []), (5, .aload_n 0, 1, 0, 0, []), (6, .getfield 29, 3, 5, 0, [326]), (9, .getfield 84, 3, 11, 7, [239])]),
  (26, [(12, .if_icmp .ge 17, 3, 0, 0, []), (15, .iload_n 1, 1, 0, 0, []), (16, .aload_n 0, 1, 0, 0, []), (17, .iload_n 2, 1, 0, 0, []), (18, .invokevirtual 87, 3, 5001, 87, [934, 935, 936, 130]), (21, .ior, 1, 0, 0, []), (22, .istore_n 1, 1, 0, 0, []), (23, .iinc 2 1, 3, 0, 0, [])]),
  (31, [(26, .goto (-22), 3, 0, 0, []), (29, .iload_n 1, 1, 0, 0, []), (30, .ireturn, 1, 0, 0, [])])]
theorem C_86_ok : codOk q_86.1.cls q_86.2.1 C_86 := codB_ok (by decide +kernel)
theorem h_86 : mQ 86 q_86 C_86 := ⟨mq_86, by decide +kernel, by decide, C_86_ok⟩
def C_87 : eCode := [(14, [(0, .aload_n 0, 1, 0, 0, []), (1, .getfield 11, 3, 5, 5, [346]), (4, .iload_n 1, 1, 0, 0, []), (5, .iaload, 1, 0, 0, []), (6, .iconst (-1), 1, 0, 0, []), (7, .if_icmp .ne 7, 3, 0, 0, []), (10, .iconst 0, 1, 0, 0, []), (11, .goto 11, 3, 0, 0, [])]),
  (23, [(14, .iconst 1, 1, 0, 0, []), (15, .aload_n 0, 1, 0, 0, []), (16, .getfield 11, 3, 5, 5, [346]), (19, .iload_n 1, 1, 0, 0, []), (20, .iaload, 1, 0, 0, []), (21, .ishl, 1, 0, 0, []), (22, .ireturn, 1, 0, 0, [])])]
theorem C_87_ok : codOk q_87.1.cls q_87.2.1 C_87 := codB_ok (by decide +kernel)
theorem h_87 : mQ 87 q_87 C_87 := ⟨mq_87, by decide +kernel, by decide, C_87_ok⟩
def C_88 : eCode := [(12, [(0, .iconst 0, 1, 0, 0, []), (1, .istore_n 1, 1, 0, 0, []), (2, .iconst 0, 1, 0, 0, []), (3, .istore_n 2, 1, 0, 0, []), (4, .iload_n 2, 1, 0, 0, []), (5, .aload_n 0, 1, 0, 0, []), (6, .getfield 29, 3, 5, 0, [326]), (9, .getfield 93, 3, 11, 6, [234])]),
  (24, [(12, .if_icmp .ge 18, 3, 0, 0, []), (15, .iload_n 1, 1, 0, 0, []), (16, .aload_n 0, 1, 0, 0, []), (17, .getfield 26, 3, 5, 9, [354]), (20, .iload_n 2, 1, 0, 0, []), (21, .iaload, 1, 0, 0, []), (22, .iadd, 1, 0, 0, []), (23, .istore_n 1, 1, 0, 0, [])]),
  (32, [(24, .iinc 2 1, 3, 0, 0, []), (27, .goto (-23), 3, 0, 0, []), (30, .iload_n 1, 1, 0, 0, []), (31, .ireturn, 1, 0, 0, [])])]
theorem C_88_ok : codOk q_88.1.cls q_88.2.1 C_88 := codB_ok (by decide +kernel)
theorem h_88 : mQ 88 q_88 C_88 := ⟨mq_88, by decide +kernel, by decide, C_88_ok⟩
def C_89 : eCode := [(16, [(0, .aload_n 0, 1, 0, 0, []), (1, .iload_n 1, 1, 0, 0, []), (2, .invokevirtual 176, 3, 12001, 90, [946, 948, 18, 127]), (5, .ifCond .eq 21, 3, 0, 0, []), (8, .aload_n 0, 1, 0, 0, []), (9, .iload_n 2, 1, 0, 0, []), (10, .invokevirtual 144, 3, 12001, 91, [950, 952, 19, 127]), (13, .ifCond .eq 13, 3, 0, 0, [])]),
  (29, [(16, .iload_n 3, 1, 0, 0, []), (17, .iconst 1, 1, 0, 0, []), (18, .bipush 30, 2, 0, 0, []), (20, .invokestatic 222, 3, 3, 53, [954, 796, 127]), (23, .ifCond .ne 5, 3, 0, 0, []), (26, .iconst (-1), 1, 0, 0, []), (27, .ireturn, 1, 0, 0, []), (28, .aload_n 0, 1, 0, 0, [])]),
  (45, [(29, .getfield 31, 3, 12, 3, [611]), (32, .iload_n 1, 1, 0, 0, []), (33, .iload_n 2, 1, 0, 0, []), (34, .invokevirtual 226, 3, 5002, 92, [955, 956, 957, 130]), (37, .istore 4, 2, 0, 0, []), (39, .iload 4, 2, 0, 0, []), (41, .ifCond .ne 24, 3, 0, 0, []), (44, .aload_n 0, 1, 0, 0, [])]),
  (61, [(45, .getfield 41, 3, 12, 5, [613]), (48, .aload_n 0, 1, 0, 0, []), (49, .getfield 31, 3, 12, 3, [611]), (52, .invokevirtual 230, 3, 3001, 96, [970, 971, 972, 131]), (55, .aload_n 0, 1, 0, 0, []), (56, .getfield 31, 3, 12, 3, [611]), (59, .iload_n 1, 1, 0, 0, []), (60, .iload_n 2, 1, 0, 0, [])]),
  (68, [(61, .iload_n 3, 1, 0, 0, []), (62, .invokevirtual 234, 3, 5003, 99, [982, 983, 984, 130]), (65, .iload 4, 2, 0, 0, []), (67, .ireturn, 1, 0, 0, [])])]
theorem C_89_ok : codOk q_89.1.cls q_89.2.1 C_89 := codB_ok (by decide +kernel)
theorem h_89 : mQ 89 q_89 C_89 := ⟨mq_89, by decide +kernel, by decide, C_89_ok⟩
def C_90 : eCode := [(16, [(0, .iload_n 1, 1, 0, 0, []), (1, .ifCond .lt 18, 3, 0, 0, []), (4, .iload_n 1, 1, 0, 0, []), (5, .aload_n 0, 1, 0, 0, []), (6, .getfield 19, 3, 12, 1, [609]), (9, .getfield 391, 3, 11, 7, [240]), (12, .if_icmp .ge 7, 3, 0, 0, []), (15, .iconst 1, 1, 0, 0, [])]),
  (21, [(16, .goto 4, 3, 0, 0, []), (19, .iconst 0, 1, 0, 0, []), (20, .ireturn, 1, 0, 0, [])])]
theorem C_90_ok : codOk q_90.1.cls q_90.2.1 C_90 := codB_ok (by decide +kernel)
theorem h_90 : mQ 90 q_90 C_90 := ⟨mq_90, by decide +kernel, by decide, C_90_ok⟩
def C_91 : eCode := [(16, [(0, .iload_n 1, 1, 0, 0, []), (1, .ifCond .lt 18, 3, 0, 0, []), (4, .iload_n 1, 1, 0, 0, []), (5, .aload_n 0, 1, 0, 0, []), (6, .getfield 19, 3, 12, 1, [609]), (9, .getfield 388, 3, 11, 6, [236]), (12, .if_icmp .ge 7, 3, 779, 0, []), (15, .iconst 1, 1, 0, 0, [])]),
  (21, [(16, .goto 4, 3, 0, 0, []), (19, .iconst 0, 1, 0, 0, []), (20, .ireturn, 1, 0, 0, [])])]
theorem C_91_ok : codOk q_91.1.cls q_91.2.1 C_91 := codB_ok (by decide +kernel)
theorem h_91 : mQ 91 q_91 C_91 := ⟨mq_91, by decide +kernel, by decide, C_91_ok⟩
def C_92 : eCode := [(12, [(0, .aload_n 0, 1, 0, 0, []), (1, .getfield 11, 3, 5, 5, [346]), (4, .iload_n 1, 1, 0, 0, []), (5, .iaload, 1, 0, 0, []), (6, .iconst (-1), 1, 0, 0, []), (7, .if_icmp .eq 5, 3, 0, 0, []), (10, .iconst 1, 1, 0, 0, []), (11, .ireturn, 1, 0, 0, [])]),
  (24, [(12, .aload_n 0, 1, 0, 0, []), (13, .iload_n 2, 1, 0, 0, []), (14, .invokevirtual 96, 3, 5001, 93, [959, 960, 961, 130]), (17, .iconst (-1), 1, 0, 0, []), (18, .if_icmp .eq 5, 3, 0, 0, []), (21, .iconst 2, 1, 0, 0, []), (22, .ireturn, 1, 0, 0, []), (23, .aload_n 0, 1, 0, 0, [])]),
  (40, [(24, .iload_n 2, 1, 0, 0, []), (25, .invokevirtual 99, 3, 5001, 94, [963, 964, 965, 130]), (28, .aload_n 0, 1, 0, 0, []), (29, .getfield 29, 3, 5, 0, [326]), (32, .getfield 102, 3, 11, 16, [266]), (35, .iload_n 1, 1, 0, 0, []), (36, .iaload, 1, 0, 0, []), (37, .if_icmp .le 7, 3, 0, 0, [])]),
  (46, [(40, .iconst 3, 1, 0, 0, []), (41, .goto 4, 3, 0, 0, []), (44, .iconst 0, 1, 0, 0, []), (45, .ireturn, 1, 0, 0, [])])]
theorem C_92_ok : codOk q_92.1.cls q_92.2.1 C_92 := codB_ok (by decide +kernel)
theorem h_92 : mQ 92 q_92 C_92 := ⟨mq_92, by decide +kernel, by decide, C_92_ok⟩
def C_93 : eCode := [(14, [(0, .iconst 0, 1, 0, 0, []), (1, .istore_n 2, 1, 0, 0, []), (2, .iload_n 2, 1, 0, 0, []), (3, .aload_n 0, 1, 0, 0, []), (4, .getfield 29, 3, 5, 0, [326]), (7, .getfield 84, 3, 11, 7, [239]), (10, .if_icmp .ge 21, 3, 0, 0, []), (13, .aload_n 0, 1, 0, 0, [])]),
  (28, [(14, .getfield 11, 3, 5, 5, [346]), (17, .iload_n 2, 1, 0, 0, []), (18, .iaload, 1, 0, 0, []), (19, .iload_n 1, 1, 0, 0, []), (20, .if_icmp .ne 5, 3, 0, 0, []), (23, .iload_n 2, 1, 0, 0, []), (24, .ireturn, 1, 0, 0, []), (25, .iinc 2 1, 3, 0, 0, [])]),
  (33, [(28, .goto (-26), 3, 0, 0, []), (31, .iconst (-1), 1, 0, 0, []), (32, .ireturn, 1, 0, 0, [])])]
theorem C_93_ok : codOk q_93.1.cls q_93.2.1 C_93 := codB_ok (by decide +kernel)
theorem h_93 : mQ 93 q_93 C_93 := ⟨mq_93, by decide +kernel, by decide, C_93_ok⟩
def C_94 : eCode := [(14, [(0, .iconst 0, 1, 0, 0, []), (1, .aload_n 0, 1, 0, 0, []), (2, .getfield 43, 3, 5, 2, [335]), (5, .aload_n 0, 1, 0, 0, []), (6, .getfield 29, 3, 5, 0, [326]), (9, .getfield 67, 3, 11, 13, [255]), (12, .iload_n 1, 1, 0, 0, []), (13, .iaload, 1, 0, 0, [])]),
  (19, [(14, .isub, 1, 0, 0, []), (15, .invokestatic 70, 3, 0, 100000, [967]), (18, .ireturn, 1, 0, 0, [])])]
theorem C_94_ok : codOk q_94.1.cls q_94.2.1 C_94 := codB_ok (by decide +kernel)
theorem h_94 : mQ 94 q_94 C_94 := ⟨mq_94, by decide +kernel, by decide, C_94_ok⟩
def C_96 : eCode := [(14, [(0, .aload_n 0, 1, 0, 0, []), (1, .getfield 13, 3, 3, 0, [389]), (4, .aload_n 0, 1, 0, 0, []), (5, .getfield 20, 3, 3, 1, [390]), (8, .aaload, 1, 0, 0, []), (9, .aload_n 1, 1, 0, 0, []), (10, .invokevirtual 24, 3, 5001, 97, [974, 975, 976, 130]), (13, .aload_n 0, 1, 0, 0, [])]),
  (27, [(14, .aload_n 0, 1, 0, 0, []), (15, .getfield 20, 3, 3, 1, [390]), (18, .iconst 1, 1, 0, 0, []), (19, .iadd, 1, 0, 0, []), (20, .bipush 8, 2, 0, 0, []), (22, .irem, 1, 0, 0, []), (23, .putfield 20, 3, 3, 1, [390]), (26, .aload_n 0, 1, 0, 0, [])]),
  (42, [(27, .bipush 8, 2, 0, 0, []), (29, .aload_n 0, 1, 0, 0, []), (30, .getfield 28, 3, 3, 2, [391]), (33, .iconst 1, 1, 0, 0, []), (34, .iadd, 1, 0, 0, []), (35, .invokestatic 31, 3, 0, 100001, [979]), (38, .putfield 28, 3, 3, 2, [391]), (41, .return_, 1, 0, 0, [])])]
theorem C_96_ok : codOk q_96.1.cls q_96.2.1 C_96 := codB_ok (by decide +kernel)
theorem h_96 : mQ 96 q_96 C_96 := ⟨mq_96, by decide +kernel, by decide, C_96_ok⟩
def C_97 : eCode := [(16, [(0, .aload_n 0, 1, 0, 0, []), (1, .aload_n 1, 1, 0, 0, []), (2, .getfield 36, 3, 5, 1, [330]), (5, .putfield 36, 3, 5, 1, [330]), (8, .aload_n 0, 1, 0, 0, []), (9, .aload_n 1, 1, 0, 0, []), (10, .getfield 43, 3, 5, 2, [335]), (13, .putfield 43, 3, 5, 2, [335])]),
  (32, [(16, .aload_n 0, 1, 0, 0, []), (17, .aload_n 1, 1, 0, 0, []), (18, .getfield 46, 3, 5, 3, [340]), (21, .putfield 46, 3, 5, 3, [340]), (24, .aload_n 0, 1, 0, 0, []), (25, .aload_n 1, 1, 0, 0, []), (26, .getfield 49, 3, 5, 4, [344]), (29, .putfield 49, 3, 5, 4, [344])]),
  (47, [(32, .aload_n 1, 1, 0, 0, []), (33, .getfield 11, 3, 5, 5, [346]), (36, .iconst 0, 1, 0, 0, []), (37, .aload_n 0, 1, 0, 0, []), (38, .getfield 11, 3, 5, 5, [346]), (41, .iconst 0, 1, 0, 0, []), (42, .bipush 6, 2, 0, 0, []), (44, .invokestatic 61, 3, 0, 100003, [978])]),
  (62, [(47, .aload_n 1, 1, 0, 0, []), (48, .getfield 17, 3, 5, 6, [348]), (51, .iconst 0, 1, 0, 0, []), (52, .aload_n 0, 1, 0, 0, []), (53, .getfield 17, 3, 5, 6, [348]), (56, .iconst 0, 1, 0, 0, []), (57, .bipush 6, 2, 0, 0, []), (59, .invokestatic 61, 3, 0, 100003, [978])]),
  (77, [(62, .aload_n 1, 1, 0, 0, []), (63, .getfield 20, 3, 5, 7, [350]), (66, .iconst 0, 1, 0, 0, []), (67, .aload_n 0, 1, 0, 0, []), (68, .getfield 20, 3, 5, 7, [350]), (71, .iconst 0, 1, 0, 0, []), (72, .bipush 6, 2, 0, 0, []), (74, .invokestatic 61, 3, 0, 100003, [978])]),
  (92, [(77, .aload_n 1, 1, 0, 0, []), (78, .getfield 23, 3, 5, 8, [352]), (81, .iconst 0, 1, 0, 0, []), (82, .aload_n 0, 1, 0, 0, []), (83, .getfield 23, 3, 5, 8, [352]), (86, .iconst 0, 1, 0, 0, []), (87, .bipush 6, 2, 0, 0, []), (89, .invokestatic 61, 3, 0, 100003, [978])]),
  (107, [(92, .aload_n 1, 1, 0, 0, []), (93, .getfield 26, 3, 5, 9, [354]), (96, .iconst 0, 1, 0, 0, []), (97, .aload_n 0, 1, 0, 0, []), (98, .getfield 26, 3, 5, 9, [354]), (101, .iconst 0, 1, 0, 0, []), (102, .bipush 8, 2, 0, 0, []), (104, .invokestatic 61, 3, 0, 100003, [978])]),
  (108, [(107, .return_, 1, 0, 0, [])])]
theorem C_97_ok : codOk q_97.1.cls q_97.2.1 C_97 := codB_ok (by decide +kernel)
theorem h_97 : mQ 97 q_97 C_97 := ⟨mq_97, by decide +kernel, by decide, C_97_ok⟩
def C_99 : eCode := [(12, [(0, .aload_n 0, 1, 0, 0, []), (1, .getfield 11, 3, 5, 5, [346]), (4, .iload_n 1, 1, 0, 0, []), (5, .iload_n 2, 1, 0, 0, []), (6, .iastore, 1, 0, 0, []), (7, .aload_n 0, 1, 0, 0, []), (8, .getfield 17, 3, 5, 6, [348]), (11, .iload_n 1, 1, 0, 0, [])]),
  (15, [(12, .iload_n 3, 1, 0, 0, []), (13, .iastore, 1, 0, 0, []), (14, .return_, 1, 0, 0, [])])]
theorem C_99_ok : codOk q_99.1.cls q_99.2.1 C_99 := codB_ok (by decide +kernel)
theorem h_99 : mQ 99 q_99 C_99 := ⟨mq_99, by decide +kernel, by decide, C_99_ok⟩
def C_251 : eCode := [(15, [(0, .aload_n 0, 1, 0, 0, []), (1, .iconst 0, 1, 0, 0, []), (2, .putfield 1, 3, 13, 0, [1736]), (5, .aload_n 0, 1, 0, 0, []), (6, .getfield 11, 3, 13, 2, [1738]), (9, .bipush 20, 2, 0, 0, []), (11, .iadd, 1, 0, 0, []), (12, .sipush 940, 3, 0, 0, [])]),
  (27, [(15, .if_icmp .le 5, 3, 0, 0, []), (18, .iconst (-1), 1, 0, 0, []), (19, .ireturn, 1, 0, 0, []), (20, .aload_n 0, 1, 0, 0, []), (21, .iload_n 1, 1, 0, 0, []), (22, .invokevirtual 14, 3, 13001, 252, [1714, 1716, 51, 143]), (25, .aload_n 0, 1, 0, 0, []), (26, .iload_n 2, 1, 0, 0, [])]),
  (42, [(27, .invokevirtual 14, 3, 13001, 252, [1714, 1716, 51, 143]), (30, .aload_n 0, 1, 0, 0, []), (31, .iload_n 3, 1, 0, 0, []), (32, .invokevirtual 14, 3, 13001, 252, [1714, 1716, 51, 143]), (35, .aload_n 0, 1, 0, 0, []), (36, .iload 4, 2, 0, 0, []), (38, .invokevirtual 14, 3, 13001, 252, [1714, 1716, 51, 143]), (41, .aload_n 0, 1, 0, 0, [])]),
  (52, [(42, .iload 5, 2, 0, 0, []), (44, .invokevirtual 14, 3, 13001, 252, [1714, 1716, 51, 143]), (47, .aload_n 0, 1, 0, 0, []), (48, .getfield 11, 3, 13, 2, [1738]), (51, .ireturn, 1, 0, 0, [])])]
theorem C_251_ok : codOk q_251.1.cls q_251.2.1 C_251 := codB_ok (by decide +kernel)
theorem h_251 : mQ 251 q_251 C_251 := ⟨mq_251, by decide +kernel, by decide, C_251_ok⟩
def C_252 : eCode := [(15, [(0, .bipush 24, 2, 0, 0, []), (2, .istore_n 2, 1, 0, 0, []), (3, .iload_n 2, 1, 0, 0, []), (4, .ifCond .lt 35, 3, 0, 0, []), (7, .aload_n 0, 1, 0, 0, []), (8, .getfield 7, 3, 13, 1, [1737]), (11, .aload_n 0, 1, 0, 0, []), (12, .getfield 11, 3, 13, 2, [1738])]),
  (25, [(15, .iload_n 1, 1, 0, 0, []), (16, .iload_n 2, 1, 0, 0, []), (17, .iushr, 1, 0, 0, []), (18, .sipush 255, 3, 0, 0, []), (21, .iand, 1, 0, 0, []), (22, .iastore, 1, 0, 0, []), (23, .aload_n 0, 1, 0, 0, []), (24, .dup, 1, 0, 0, [])]),
  (40, [(25, .getfield 11, 3, 13, 2, [1738]), (28, .iconst 1, 1, 0, 0, []), (29, .iadd, 1, 0, 0, []), (30, .putfield 11, 3, 13, 2, [1738]), (33, .iinc 2 (-8), 3, 0, 0, []), (36, .goto (-33), 3, 0, 0, []), (39, .return_, 1, 0, 0, [])])]
theorem C_252_ok : codOk q_252.1.cls q_252.2.1 C_252 := codB_ok (by decide +kernel)
theorem h_252 : mQ 252 q_252 C_252 := ⟨mq_252, by decide +kernel, by decide, C_252_ok⟩
def C_259 : eCode := [(12, [(0, .aload_n 0, 1, 0, 0, []), (1, .getfield 11, 3, 13, 2, [1738]), (4, .istore_n 1, 1, 0, 0, []), (5, .aload_n 0, 1, 0, 0, []), (6, .iconst 0, 1, 0, 0, []), (7, .putfield 11, 3, 13, 2, [1738]), (10, .iload_n 1, 1, 0, 0, []), (11, .ireturn, 1, 0, 0, [])])]
theorem C_259_ok : codOk q_259.1.cls q_259.2.1 C_259 := codB_ok (by decide +kernel)
theorem h_259 : mQ 259 q_259 C_259 := ⟨mq_259, by decide +kernel, by decide, C_259_ok⟩
def C_271 : eCode := [(14, [(0, .iload_n 0, 1, 0, 0, []), (1, .iload_n 1, 1, 0, 0, []), (2, .if_icmp .lt 12, 3, 0, 0, []), (5, .iload_n 0, 1, 0, 0, []), (6, .iload_n 2, 1, 0, 0, []), (7, .if_icmp .gt 7, 3, 0, 0, []), (10, .iconst 1, 1, 0, 0, []), (11, .goto 4, 3, 0, 0, [])]),
  (16, [(14, .iconst 0, 1, 0, 0, []), (15, .ireturn, 1, 0, 0, [])])]
theorem C_271_ok : codOk q_271.1.cls q_271.2.1 C_271 := codB_ok (by decide +kernel)
theorem h_271 : mQ 271 q_271 C_271 := ⟨mq_271, by decide +kernel, by decide, C_271_ok⟩
def C_289 : eCode := [(10, [(0, .iload_n 1, 1, 0, 0, []), (1, .iconst 0, 1, 0, 0, []), (2, .aload_n 0, 1, 0, 0, []), (3, .getfield 98, 3, 13, 14, [1750]), (6, .iconst 1, 1, 0, 0, []), (7, .iaload, 1, 0, 0, []), (8, .iconst 1, 1, 0, 0, []), (9, .isub, 1, 0, 0, [])]),
  (14, [(10, .invokestatic 75, 3, 3, 271, [1954, 1955, 143]), (13, .ireturn, 1, 0, 0, [])])]
theorem C_289_ok : codOk q_289.1.cls q_289.2.1 C_289 := codB_ok (by decide +kernel)
theorem h_289 : mQ 289 q_289 C_289 := ⟨mq_289, by decide +kernel, by decide, C_289_ok⟩
def C_291 : eCode := [(14, [(0, .aload_n 0, 1, 0, 0, []), (1, .getfield 98, 3, 13, 14, [1750]), (4, .bipush 73, 2, 0, 0, []), (6, .iaload, 1, 0, 0, []), (7, .aload_n 0, 1, 0, 0, []), (8, .getfield 98, 3, 13, 14, [1750]), (11, .bipush 26, 2, 0, 0, []), (13, .iload_n 1, 1, 0, 0, [])]),
  (27, [(14, .iadd, 1, 0, 0, []), (15, .iaload, 1, 0, 0, []), (16, .if_icmp .le 23, 3, 0, 0, []), (19, .aload_n 0, 1, 0, 0, []), (20, .getfield 98, 3, 13, 14, [1750]), (23, .bipush 73, 2, 0, 0, []), (25, .iaload, 1, 0, 0, []), (26, .aload_n 0, 1, 0, 0, [])]),
  (40, [(27, .getfield 98, 3, 13, 14, [1750]), (30, .bipush 26, 2, 0, 0, []), (32, .iload_n 1, 1, 0, 0, []), (33, .iadd, 1, 0, 0, []), (34, .iaload, 1, 0, 0, []), (35, .isub, 1, 0, 0, []), (36, .goto 4, 3, 0, 0, []), (39, .iconst 0, 1, 0, 0, [])]),
  (41, [(40, .ireturn, 1, 0, 0, [])])]
theorem C_291_ok : codOk q_291.1.cls q_291.2.1 C_291 := codB_ok (by decide +kernel)
theorem h_291 : mQ 291 q_291 C_291 := ⟨mq_291, by decide +kernel, by decide, C_291_ok⟩
def C_292 : eCode := [(12, [(0, .iconst 0, 1, 0, 0, []), (1, .istore_n 2, 1, 0, 0, []), (2, .iload_n 2, 1, 0, 0, []), (3, .aload_n 0, 1, 0, 0, []), (4, .getfield 98, 3, 13, 14, [1750]), (7, .iconst 2, 1, 0, 0, []), (8, .iaload, 1, 0, 0, []), (9, .if_icmp .ge 24, 3, 0, 0, [])]),
  (25, [(12, .aload_n 0, 1, 0, 0, []), (13, .getfield 98, 3, 13, 14, [1750]), (16, .bipush 82, 2, 0, 0, []), (18, .iload_n 2, 1, 0, 0, []), (19, .iadd, 1, 0, 0, []), (20, .iaload, 1, 0, 0, []), (21, .iload_n 1, 1, 0, 0, []), (22, .if_icmp .ne 5, 3, 0, 0, [])]),
  (35, [(25, .iload_n 2, 1, 0, 0, []), (26, .ireturn, 1, 0, 0, []), (27, .iinc 2 1, 3, 0, 0, []), (30, .goto (-28), 3, 0, 0, []), (33, .iconst (-1), 1, 0, 0, []), (34, .ireturn, 1, 0, 0, [])])]
theorem C_292_ok : codOk q_292.1.cls q_292.2.1 C_292 := codB_ok (by decide +kernel)
theorem h_292 : mQ 292 q_292 C_292 := ⟨mq_292, by decide +kernel, by decide, C_292_ok⟩
def C_294 : eCode := [(10, [(0, .iload_n 1, 1, 0, 0, []), (1, .iconst 0, 1, 0, 0, []), (2, .aload_n 0, 1, 0, 0, []), (3, .getfield 98, 3, 13, 14, [1750]), (6, .iconst 2, 1, 0, 0, []), (7, .iaload, 1, 0, 0, []), (8, .iconst 1, 1, 0, 0, []), (9, .isub, 1, 0, 0, [])]),
  (14, [(10, .invokestatic 75, 3, 3, 271, [1954, 1955, 143]), (13, .ireturn, 1, 0, 0, [])])]
theorem C_294_ok : codOk q_294.1.cls q_294.2.1 C_294 := codB_ok (by decide +kernel)
theorem h_294 : mQ 294 q_294 C_294 := ⟨mq_294, by decide +kernel, by decide, C_294_ok⟩
def C_297 : eCode := [(13, [(0, .aload_n 0, 1, 0, 0, []), (1, .getfield 98, 3, 13, 14, [1750]), (4, .bipush 82, 2, 0, 0, []), (6, .iload_n 1, 1, 0, 0, []), (7, .iadd, 1, 0, 0, []), (8, .iaload, 1, 0, 0, []), (9, .iconst (-1), 1, 0, 0, []), (10, .if_icmp .eq 7, 3, 0, 0, [])]),
  (19, [(13, .iconst 1, 1, 0, 0, []), (14, .goto 4, 3, 0, 0, []), (17, .iconst 0, 1, 0, 0, []), (18, .ireturn, 1, 0, 0, [])])]
theorem C_297_ok : codOk q_297.1.cls q_297.2.1 C_297 := codB_ok (by decide +kernel)
theorem h_297 : mQ 297 q_297 C_297 := ⟨mq_297, by decide +kernel, by decide, C_297_ok⟩
def C_299 : eCode := [(10, [(0, .aload_n 0, 1, 0, 0, []), (1, .iconst 0, 1, 0, 0, []), (2, .putfield 1, 3, 13, 0, [1736]), (5, .aload_n 0, 1, 0, 0, []), (6, .iconst 0, 1, 0, 0, []), (7, .iload_n 1, 1, 0, 0, []), (8, .iload_n 2, 1, 0, 0, []), (9, .iload_n 3, 1, 0, 0, [])]),
  (26, [(10, .aload_n 0, 1, 0, 0, []), (11, .iload_n 1, 1, 0, 0, []), (12, .invokevirtual 257, 3, 13001, 294, [2043, 2045, 80, 143]), (15, .ifCond .eq 25, 3, 0, 0, []), (18, .aload_n 0, 1, 0, 0, []), (19, .iload_n 2, 1, 0, 0, []), (20, .invokevirtual 248, 3, 13001, 289, [2023, 2025, 76, 143]), (23, .ifCond .eq 17, 3, 0, 0, [])]),
  (41, [(26, .iload_n 3, 1, 0, 0, []), (27, .iconst 1, 1, 0, 0, []), (28, .bipush 30, 2, 0, 0, []), (30, .invokestatic 75, 3, 3, 271, [1954, 1955, 143]), (33, .ifCond .eq 7, 3, 0, 0, []), (36, .iconst 1, 1, 0, 0, []), (37, .goto 4, 3, 0, 0, []), (40, .iconst 0, 1, 0, 0, [])]),
  (45, [(41, .invokevirtual 284, 3, 13005, 300, [2067, 2069, 84, 143]), (44, .ireturn, 1, 0, 0, [])])]
theorem C_299_ok : codOk q_299.1.cls q_299.2.1 C_299 := codB_ok (by decide +kernel)
theorem h_299 : mQ 299 q_299 C_299 := ⟨mq_299, by decide +kernel, by decide, C_299_ok⟩
def C_300 : eCode := [(11, [(0, .iload 5, 2, 0, 0, []), (2, .ifCond .ne 5, 3, 0, 0, []), (5, .iconst (-1), 1, 0, 0, []), (6, .ireturn, 1, 0, 0, []), (7, .aload_n 0, 1, 0, 0, []), (8, .iload_n 1, 1, 0, 0, []), (9, .iload_n 2, 1, 0, 0, []), (10, .iload_n 3, 1, 0, 0, [])]),
  (28, [(11, .invokevirtual 273, 3, 13003, 301, [2071, 2073, 85, 143]), (14, .istore 6, 2, 0, 0, []), (16, .iload 6, 2, 0, 0, []), (18, .ifCond .eq 6, 3, 0, 0, []), (21, .iload 6, 2, 0, 0, []), (23, .ireturn, 1, 0, 0, []), (24, .aload_n 0, 1, 0, 0, []), (25, .invokevirtual 277, 3, 13000, 302, [2075, 2077, 86, 143])]),
  (39, [(28, .aload_n 0, 1, 0, 0, []), (29, .iload_n 1, 1, 0, 0, []), (30, .iload_n 2, 1, 0, 0, []), (31, .iload_n 3, 1, 0, 0, []), (32, .iload 4, 2, 0, 0, []), (34, .invokevirtual 280, 3, 13004, 303, [2079, 2081, 87, 143]), (37, .iconst 0, 1, 0, 0, []), (38, .ireturn, 1, 0, 0, [])])]
theorem C_300_ok : codOk q_300.1.cls q_300.2.1 C_300 := codB_ok (by decide +kernel)
theorem h_300 : mQ 300 q_300 C_300 := ⟨mq_300, by decide +kernel, by decide, C_300_ok⟩
def C_301 : eCode := [(40, [(0, .iload_n 1, 1, 0, 0, []), (1, .lookupswitch 89 #[(0, 27), (1, 75)], 27, 0, 0, []), (28, .aload_n 0, 1, 0, 0, []), (29, .iload_n 2, 1, 0, 0, []), (30, .invokevirtual 263, 3, 13001, 297, [2055, 2057, 82, 143]), (33, .ifCond .eq 7, 3, 0, 0, []), (36, .iconst 1, 1, 0, 0, []), (37, .goto 38, 3, 0, 0, [])]),
  (54, [(40, .aload_n 0, 1, 0, 0, []), (41, .iload_n 3, 1, 0, 0, []), (42, .invokevirtual 254, 3, 13001, 292, [2035, 2037, 79, 143]), (45, .iconst (-1), 1, 0, 0, []), (46, .if_icmp .eq 7, 3, 0, 0, []), (49, .iconst 2, 1, 0, 0, []), (50, .goto 25, 3, 0, 0, []), (53, .aload_n 0, 1, 0, 0, [])]),
  (67, [(54, .iload_n 3, 1, 0, 0, []), (55, .invokevirtual 245, 3, 13001, 291, [2031, 2033, 78, 143]), (58, .aload_n 0, 1, 0, 0, []), (59, .getfield 98, 3, 13, 14, [1750]), (62, .bipush 48, 2, 0, 0, []), (64, .iload_n 2, 1, 0, 0, []), (65, .iadd, 1, 0, 0, []), (66, .iaload, 1, 0, 0, [])]),
  (76, [(67, .if_icmp .le 7, 3, 0, 0, []), (70, .iconst 3, 1, 0, 0, []), (71, .goto 4, 3, 0, 0, []), (74, .iconst 0, 1, 0, 0, []), (75, .ireturn, 1, 0, 0, [])])]
theorem C_301_ok : codOk q_301.1.cls q_301.2.1 C_301 := codB_ok (by decide +kernel)
theorem h_301 : mQ 301 q_301 C_301 := ⟨mq_301, by decide +kernel, by decide, C_301_ok⟩
def C_302 : eCode := [(15, [(0, .aload_n 0, 1, 0, 0, []), (1, .getfield 242, 3, 13, 24, [1760]), (4, .bipush 8, 2, 0, 0, []), (6, .if_icmp .ne 43, 3, 0, 0, []), (9, .iconst 0, 1, 0, 0, []), (10, .istore_n 1, 1, 0, 0, []), (11, .iload_n 1, 1, 0, 0, []), (12, .sipush 252, 3, 0, 0, [])]),
  (30, [(15, .if_icmp .ge 24, 3, 0, 0, []), (18, .aload_n 0, 1, 0, 0, []), (19, .getfield 107, 3, 13, 17, [1753]), (22, .iload_n 1, 1, 0, 0, []), (23, .aload_n 0, 1, 0, 0, []), (24, .getfield 107, 3, 13, 17, [1753]), (27, .iload_n 1, 1, 0, 0, []), (28, .bipush 36, 2, 0, 0, [])]),
  (44, [(30, .iadd, 1, 0, 0, []), (31, .iaload, 1, 0, 0, []), (32, .iastore, 1, 0, 0, []), (33, .iinc 1 1, 3, 0, 0, []), (36, .goto (-25), 3, 0, 0, []), (39, .aload_n 0, 1, 0, 0, []), (40, .dup, 1, 0, 0, []), (41, .getfield 242, 3, 13, 24, [1760])]),
  (57, [(44, .iconst 1, 1, 0, 0, []), (45, .isub, 1, 0, 0, []), (46, .putfield 242, 3, 13, 24, [1760]), (49, .iconst 0, 1, 0, 0, []), (50, .istore_n 1, 1, 0, 0, []), (51, .iload_n 1, 1, 0, 0, []), (52, .bipush 36, 2, 0, 0, []), (54, .if_icmp .ge 32, 3, 0, 0, [])]),
  (70, [(57, .aload_n 0, 1, 0, 0, []), (58, .getfield 107, 3, 13, 17, [1753]), (61, .bipush 36, 2, 0, 0, []), (63, .aload_n 0, 1, 0, 0, []), (64, .getfield 242, 3, 13, 24, [1760]), (67, .imul, 1, 0, 0, []), (68, .iload_n 1, 1, 0, 0, []), (69, .iadd, 1, 0, 0, [])]),
  (83, [(70, .aload_n 0, 1, 0, 0, []), (71, .getfield 98, 3, 13, 14, [1750]), (74, .bipush 72, 2, 0, 0, []), (76, .iload_n 1, 1, 0, 0, []), (77, .iadd, 1, 0, 0, []), (78, .iaload, 1, 0, 0, []), (79, .iastore, 1, 0, 0, []), (80, .iinc 1 1, 3, 0, 0, [])]),
  (97, [(83, .goto (-32), 3, 0, 0, []), (86, .aload_n 0, 1, 0, 0, []), (87, .dup, 1, 0, 0, []), (88, .getfield 242, 3, 13, 24, [1760]), (91, .iconst 1, 1, 0, 0, []), (92, .iadd, 1, 0, 0, []), (93, .putfield 242, 3, 13, 24, [1760]), (96, .return_, 1, 0, 0, [])])]
theorem C_302_ok : codOk q_302.1.cls q_302.2.1 C_302 := codB_ok (by decide +kernel)
theorem h_302 : mQ 302 q_302 C_302 := ⟨mq_302, by decide +kernel, by decide, C_302_ok⟩
def C_303 : eCode := [(37, [(0, .iload_n 1, 1, 0, 0, []), (1, .lookupswitch 55 #[(0, 27), (1, 49)], 27, 0, 0, []), (28, .aload_n 0, 1, 0, 0, []), (29, .getfield 98, 3, 13, 14, [1750]), (32, .bipush 82, 2, 0, 0, []), (34, .iload_n 2, 1, 0, 0, []), (35, .iadd, 1, 0, 0, []), (36, .iload_n 3, 1, 0, 0, [])]),
  (49, [(37, .iastore, 1, 0, 0, []), (38, .aload_n 0, 1, 0, 0, []), (39, .getfield 98, 3, 13, 14, [1750]), (42, .bipush 88, 2, 0, 0, []), (44, .iload_n 2, 1, 0, 0, []), (45, .iadd, 1, 0, 0, []), (46, .iload 4, 2, 0, 0, []), (48, .iastore, 1, 0, 0, [])]),
  (50, [(49, .return_, 1, 0, 0, [])])]
theorem C_303_ok : codOk q_303.1.cls q_303.2.1 C_303 := codB_ok (by decide +kernel)
theorem h_303 : mQ 303 q_303 C_303 := ⟨mq_303, by decide +kernel, by decide, C_303_ok⟩
def C_304 : eCode := [(11, [(0, .aload_n 0, 1, 0, 0, []), (1, .getfield 98, 3, 13, 14, [1750]), (4, .bipush 82, 2, 0, 0, []), (6, .iload_n 1, 1, 0, 0, []), (7, .iadd, 1, 0, 0, []), (8, .iconst (-1), 1, 0, 0, []), (9, .iastore, 1, 0, 0, []), (10, .aload_n 0, 1, 0, 0, [])]),
  (21, [(11, .getfield 98, 3, 13, 14, [1750]), (14, .bipush 88, 2, 0, 0, []), (16, .iload_n 1, 1, 0, 0, []), (17, .iadd, 1, 0, 0, []), (18, .iconst 0, 1, 0, 0, []), (19, .iastore, 1, 0, 0, []), (20, .return_, 1, 0, 0, [])])]
theorem C_304_ok : codOk q_304.1.cls q_304.2.1 C_304 := codB_ok (by decide +kernel)
theorem h_304 : mQ 304 q_304 C_304 := ⟨mq_304, by decide +kernel, by decide, C_304_ok⟩
def C_309 : eCode := [(15, [(0, .iload_n 1, 1, 0, 0, []), (1, .sipush 400, 3, 0, 0, []), (4, .aload_n 0, 1, 0, 0, []), (5, .getfield 98, 3, 13, 14, [1750]), (8, .bipush 72, 2, 0, 0, []), (10, .iaload, 1, 0, 0, []), (11, .isub, 1, 0, 0, []), (12, .invokestatic 288, 3, 2, 310, [2107, 2108, 143])]),
  (27, [(15, .istore_n 2, 1, 0, 0, []), (16, .iconst 0, 1, 0, 0, []), (17, .istore_n 3, 1, 0, 0, []), (18, .iload_n 3, 1, 0, 0, []), (19, .iload_n 2, 1, 0, 0, []), (20, .if_icmp .ge 13, 3, 0, 0, []), (23, .aload_n 0, 1, 0, 0, []), (24, .invokevirtual 297, 3, 13000, 311, [2110, 2112, 90, 143])]),
  (35, [(27, .iinc 3 1, 3, 0, 0, []), (30, .goto (-12), 3, 0, 0, []), (33, .iload_n 2, 1, 0, 0, []), (34, .ireturn, 1, 0, 0, [])])]
theorem C_309_ok : codOk q_309.1.cls q_309.2.1 C_309 := codB_ok (by decide +kernel)
theorem h_309 : mQ 309 q_309 C_309 := ⟨mq_309, by decide +kernel, by decide, C_309_ok⟩
def C_310 : eCode := [(11, [(0, .iload_n 0, 1, 0, 0, []), (1, .iload_n 1, 1, 0, 0, []), (2, .if_icmp .ge 7, 3, 0, 0, []), (5, .iload_n 0, 1, 0, 0, []), (6, .goto 4, 3, 0, 0, []), (9, .iload_n 1, 1, 0, 0, []), (10, .ireturn, 1, 0, 0, [])])]
theorem C_310_ok : codOk q_310.1.cls q_310.2.1 C_310 := codB_ok (by decide +kernel)
theorem h_310 : mQ 310 q_310 C_310 := ⟨mq_310, by decide +kernel, by decide, C_310_ok⟩
def C_311 : eCode := [(13, [(0, .aload_n 0, 1, 0, 0, []), (1, .getfield 98, 3, 13, 14, [1750]), (4, .bipush 73, 2, 0, 0, []), (6, .iaload, 1, 0, 0, []), (7, .aload_n 0, 1, 0, 0, []), (8, .getfield 98, 3, 13, 14, [1750]), (11, .iconst 5, 1, 0, 0, []), (12, .iaload, 1, 0, 0, [])]),
  (28, [(13, .if_icmp .lt 20, 3, 0, 0, []), (16, .aload_n 0, 1, 0, 0, []), (17, .getfield 98, 3, 13, 14, [1750]), (20, .bipush 75, 2, 0, 0, []), (22, .dup2, 1, 0, 0, []), (23, .iaload, 1, 0, 0, []), (24, .aload_n 0, 1, 0, 0, []), (25, .getfield 98, 3, 13, 14, [1750])]),
  (40, [(28, .bipush 74, 2, 0, 0, []), (30, .iaload, 1, 0, 0, []), (31, .iadd, 1, 0, 0, []), (32, .iastore, 1, 0, 0, []), (33, .aload_n 0, 1, 0, 0, []), (34, .getfield 98, 3, 13, 14, [1750]), (37, .bipush 73, 2, 0, 0, []), (39, .aload_n 0, 1, 0, 0, [])]),
  (54, [(40, .aload_n 0, 1, 0, 0, []), (41, .getfield 98, 3, 13, 14, [1750]), (44, .bipush 72, 2, 0, 0, []), (46, .iaload, 1, 0, 0, []), (47, .aload_n 0, 1, 0, 0, []), (48, .getfield 98, 3, 13, 14, [1750]), (51, .bipush 73, 2, 0, 0, []), (53, .iaload, 1, 0, 0, [])]),
  (67, [(54, .aload_n 0, 1, 0, 0, []), (55, .getfield 98, 3, 13, 14, [1750]), (58, .bipush 74, 2, 0, 0, []), (60, .iaload, 1, 0, 0, []), (61, .invokevirtual 291, 3, 13003, 312, [2114, 2116, 91, 143]), (64, .iastore, 1, 0, 0, []), (65, .iconst 0, 1, 0, 0, []), (66, .istore_n 1, 1, 0, 0, [])]),
  (79, [(67, .iload_n 1, 1, 0, 0, []), (68, .aload_n 0, 1, 0, 0, []), (69, .getfield 98, 3, 13, 14, [1750]), (72, .iconst 2, 1, 0, 0, []), (73, .iaload, 1, 0, 0, []), (74, .if_icmp .ge 22, 3, 0, 0, []), (77, .aload_n 0, 1, 0, 0, []), (78, .iload_n 1, 1, 0, 0, [])]),
  (97, [(79, .invokevirtual 263, 3, 13001, 297, [2055, 2057, 82, 143]), (82, .ifCond .eq 8, 3, 0, 0, []), (85, .aload_n 0, 1, 0, 0, []), (86, .iload_n 1, 1, 0, 0, []), (87, .invokevirtual 294, 3, 13001, 313, [2118, 2120, 92, 143]), (90, .iinc 1 1, 3, 0, 0, []), (93, .goto (-26), 3, 0, 0, []), (96, .aload_n 0, 1, 0, 0, [])]),
  (108, [(97, .getfield 98, 3, 13, 14, [1750]), (100, .bipush 72, 2, 0, 0, []), (102, .dup2, 1, 0, 0, []), (103, .iaload, 1, 0, 0, []), (104, .iconst 1, 1, 0, 0, []), (105, .iadd, 1, 0, 0, []), (106, .iastore, 1, 0, 0, []), (107, .return_, 1, 0, 0, [])])]
theorem C_311_ok : codOk q_311.1.cls q_311.2.1 C_311 := codB_ok (by decide +kernel)
theorem h_311 : mQ 311 q_311 C_311 := ⟨mq_311, by decide +kernel, by decide, C_311_ok⟩
def C_312 : eCode := [(10, [(0, .iload_n 2, 1, 0, 0, []), (1, .iload_n 3, 1, 0, 0, []), (2, .isub, 1, 0, 0, []), (3, .iload_n 1, 1, 0, 0, []), (4, .iconst 1, 1, 0, 0, []), (5, .iadd, 1, 0, 0, []), (6, .aload_n 0, 1, 0, 0, []), (7, .getfield 98, 3, 13, 14, [1750])]),
  (22, [(10, .iconst 3, 1, 0, 0, []), (11, .iaload, 1, 0, 0, []), (12, .irem, 1, 0, 0, []), (13, .ifCond .ne 12, 3, 0, 0, []), (16, .aload_n 0, 1, 0, 0, []), (17, .getfield 98, 3, 13, 14, [1750]), (20, .iconst 4, 1, 0, 0, []), (21, .iaload, 1, 0, 0, [])]),
  (38, [(22, .goto 4, 3, 0, 0, []), (25, .iconst 0, 1, 0, 0, []), (26, .iadd, 1, 0, 0, []), (27, .istore 4, 2, 0, 0, []), (29, .iload 4, 2, 0, 0, []), (31, .ifCond .ge 7, 3, 0, 0, []), (34, .iconst 0, 1, 0, 0, []), (35, .goto 10, 3, 0, 0, [])]),
  (46, [(38, .bipush 99, 2, 0, 0, []), (40, .iload 4, 2, 0, 0, []), (42, .invokestatic 288, 3, 2, 310, [2107, 2108, 143]), (45, .ireturn, 1, 0, 0, [])])]
theorem C_312_ok : codOk q_312.1.cls q_312.2.1 C_312 := codB_ok (by decide +kernel)
theorem h_312 : mQ 312 q_312 C_312 := ⟨mq_312, by decide +kernel, by decide, C_312_ok⟩
def C_313 : eCode := [(11, [(0, .aload_n 0, 1, 0, 0, []), (1, .getfield 98, 3, 13, 14, [1750]), (4, .bipush 82, 2, 0, 0, []), (6, .iload_n 1, 1, 0, 0, []), (7, .iadd, 1, 0, 0, []), (8, .iaload, 1, 0, 0, []), (9, .istore_n 2, 1, 0, 0, []), (10, .aload_n 0, 1, 0, 0, [])]),
  (24, [(11, .iload_n 2, 1, 0, 0, []), (12, .invokevirtual 245, 3, 13001, 291, [2031, 2033, 78, 143]), (15, .aload_n 0, 1, 0, 0, []), (16, .getfield 98, 3, 13, 14, [1750]), (19, .bipush 48, 2, 0, 0, []), (21, .iload_n 1, 1, 0, 0, []), (22, .iadd, 1, 0, 0, []), (23, .iaload, 1, 0, 0, [])]),
  (38, [(24, .if_icmp .le 9, 3, 0, 0, []), (27, .aload_n 0, 1, 0, 0, []), (28, .iload_n 1, 1, 0, 0, []), (29, .invokevirtual 270, 3, 13001, 304, [2083, 2085, 88, 143]), (32, .return_, 1, 0, 0, []), (33, .aload_n 0, 1, 0, 0, []), (34, .iload_n 2, 1, 0, 0, []), (35, .invokevirtual 245, 3, 13001, 291, [2031, 2033, 78, 143])]),
  (51, [(38, .ifCond .le 19, 3, 0, 0, []), (41, .aload_n 0, 1, 0, 0, []), (42, .getfield 98, 3, 13, 14, [1750]), (45, .bipush 94, 2, 0, 0, []), (47, .iload_n 1, 1, 0, 0, []), (48, .iadd, 1, 0, 0, []), (49, .dup2, 1, 0, 0, []), (50, .iaload, 1, 0, 0, [])]),
  (64, [(51, .iconst 1, 1, 0, 0, []), (52, .iadd, 1, 0, 0, []), (53, .iastore, 1, 0, 0, []), (54, .goto 72, 3, 0, 0, []), (57, .aload_n 0, 1, 0, 0, []), (58, .getfield 98, 3, 13, 14, [1750]), (61, .bipush 76, 2, 0, 0, []), (63, .iload_n 1, 1, 0, 0, [])]),
  (75, [(64, .iadd, 1, 0, 0, []), (65, .iaload, 1, 0, 0, []), (66, .aload_n 0, 1, 0, 0, []), (67, .getfield 98, 3, 13, 14, [1750]), (70, .bipush 34, 2, 0, 0, []), (72, .iload_n 2, 1, 0, 0, []), (73, .iadd, 1, 0, 0, []), (74, .iaload, 1, 0, 0, [])]),
  (90, [(75, .if_icmp .ge 9, 3, 0, 0, []), (78, .aload_n 0, 1, 0, 0, []), (79, .iload_n 1, 1, 0, 0, []), (80, .invokevirtual 270, 3, 13001, 304, [2083, 2085, 88, 143]), (83, .return_, 1, 0, 0, []), (84, .aload_n 0, 1, 0, 0, []), (85, .getfield 98, 3, 13, 14, [1750]), (88, .bipush 76, 2, 0, 0, [])]),
  (101, [(90, .iload_n 1, 1, 0, 0, []), (91, .iadd, 1, 0, 0, []), (92, .dup2, 1, 0, 0, []), (93, .iaload, 1, 0, 0, []), (94, .aload_n 0, 1, 0, 0, []), (95, .getfield 98, 3, 13, 14, [1750]), (98, .bipush 34, 2, 0, 0, []), (100, .iload_n 2, 1, 0, 0, [])]),
  (112, [(101, .iadd, 1, 0, 0, []), (102, .iaload, 1, 0, 0, []), (103, .isub, 1, 0, 0, []), (104, .iastore, 1, 0, 0, []), (105, .aload_n 0, 1, 0, 0, []), (106, .getfield 98, 3, 13, 14, [1750]), (109, .bipush 100, 2, 0, 0, []), (111, .iload_n 2, 1, 0, 0, [])]),
  (123, [(112, .iadd, 1, 0, 0, []), (113, .dup2, 1, 0, 0, []), (114, .iaload, 1, 0, 0, []), (115, .aload_n 0, 1, 0, 0, []), (116, .getfield 98, 3, 13, 14, [1750]), (119, .bipush 34, 2, 0, 0, []), (121, .iload_n 2, 1, 0, 0, []), (122, .iadd, 1, 0, 0, [])]),
  (134, [(123, .iaload, 1, 0, 0, []), (124, .iadd, 1, 0, 0, []), (125, .iastore, 1, 0, 0, []), (126, .aload_n 0, 1, 0, 0, []), (127, .getfield 98, 3, 13, 14, [1750]), (130, .bipush 88, 2, 0, 0, []), (132, .iload_n 1, 1, 0, 0, []), (133, .iadd, 1, 0, 0, [])]),
  (145, [(134, .dup2, 1, 0, 0, []), (135, .iaload, 1, 0, 0, []), (136, .iconst 1, 1, 0, 0, []), (137, .isub, 1, 0, 0, []), (138, .iastore, 1, 0, 0, []), (139, .aload_n 0, 1, 0, 0, []), (140, .getfield 98, 3, 13, 14, [1750]), (143, .bipush 88, 2, 0, 0, [])]),
  (157, [(145, .iload_n 1, 1, 0, 0, []), (146, .iadd, 1, 0, 0, []), (147, .iaload, 1, 0, 0, []), (148, .ifCond .ne 8, 3, 0, 0, []), (151, .aload_n 0, 1, 0, 0, []), (152, .iload_n 1, 1, 0, 0, []), (153, .invokevirtual 270, 3, 13001, 304, [2083, 2085, 88, 143]), (156, .return_, 1, 0, 0, [])])]
theorem C_313_ok : codOk q_313.1.cls q_313.2.1 C_313 := codB_ok (by decide +kernel)
theorem h_313 : mQ 313 q_313 C_313 := ⟨mq_313, by decide +kernel, by decide, C_313_ok⟩
def C_314 : eCode := [(15, [(0, .aload_n 0, 1, 0, 0, []), (1, .iconst 0, 1, 0, 0, []), (2, .putfield 1, 3, 13, 0, [1736]), (5, .iload_n 1, 1, 0, 0, []), (6, .iconst 0, 1, 0, 0, []), (7, .bipush 60, 2, 0, 0, []), (9, .invokestatic 75, 3, 3, 271, [1954, 1955, 143]), (12, .ifCond .eq 18, 3, 0, 0, [])]),
  (30, [(15, .aload_n 0, 1, 0, 0, []), (16, .getfield 98, 3, 13, 14, [1750]), (19, .bipush 72, 2, 0, 0, []), (21, .iaload, 1, 0, 0, []), (22, .iload_n 1, 1, 0, 0, []), (23, .iadd, 1, 0, 0, []), (24, .sipush 400, 3, 0, 0, []), (27, .if_icmp .le 5, 3, 0, 0, [])]),
  (42, [(30, .iconst (-1), 1, 0, 0, []), (31, .ireturn, 1, 0, 0, []), (32, .aload_n 0, 1, 0, 0, []), (33, .invokevirtual 303, 3, 13000, 315, [2126, 2128, 93, 143]), (36, .aload_n 0, 1, 0, 0, []), (37, .iload_n 1, 1, 0, 0, []), (38, .invokevirtual 300, 3, 13001, 309, [2103, 2105, 89, 143]), (41, .pop, 1, 0, 0, [])]),
  (55, [(42, .aload_n 0, 1, 0, 0, []), (43, .getfield 98, 3, 13, 14, [1750]), (46, .bipush 73, 2, 0, 0, []), (48, .iaload, 1, 0, 0, []), (49, .istore_n 2, 1, 0, 0, []), (50, .aload_n 0, 1, 0, 0, []), (51, .invokevirtual 306, 3, 13000, 316, [2130, 2132, 94, 143]), (54, .iload_n 2, 1, 0, 0, [])]),
  (56, [(55, .ireturn, 1, 0, 0, [])])]
theorem C_314_ok : codOk q_314.1.cls q_314.2.1 C_314 := codB_ok (by decide +kernel)
theorem h_314 : mQ 314 q_314 C_314 := ⟨mq_314, by decide +kernel, by decide, C_314_ok⟩
def C_315 : eCode := [(13, [(0, .iconst 0, 1, 0, 0, []), (1, .istore_n 1, 1, 0, 0, []), (2, .iload_n 1, 1, 0, 0, []), (3, .bipush 36, 2, 0, 0, []), (5, .if_icmp .ge 24, 3, 0, 0, []), (8, .aload_n 0, 1, 0, 0, []), (9, .getfield 110, 3, 13, 18, [1754]), (12, .iload_n 1, 1, 0, 0, [])]),
  (26, [(13, .aload_n 0, 1, 0, 0, []), (14, .getfield 98, 3, 13, 14, [1750]), (17, .bipush 72, 2, 0, 0, []), (19, .iload_n 1, 1, 0, 0, []), (20, .iadd, 1, 0, 0, []), (21, .iaload, 1, 0, 0, []), (22, .iastore, 1, 0, 0, []), (23, .iinc 1 1, 3, 0, 0, [])]),
  (30, [(26, .goto (-24), 3, 0, 0, []), (29, .return_, 1, 0, 0, [])])]
theorem C_315_ok : codOk q_315.1.cls q_315.2.1 C_315 := codB_ok (by decide +kernel)
theorem h_315 : mQ 315 q_315 C_315 := ⟨mq_315, by decide +kernel, by decide, C_315_ok⟩
def C_316 : eCode := [(14, [(0, .iconst 0, 1, 0, 0, []), (1, .istore_n 1, 1, 0, 0, []), (2, .iload_n 1, 1, 0, 0, []), (3, .bipush 36, 2, 0, 0, []), (5, .if_icmp .ge 24, 3, 0, 0, []), (8, .aload_n 0, 1, 0, 0, []), (9, .getfield 98, 3, 13, 14, [1750]), (12, .bipush 72, 2, 0, 0, [])]),
  (26, [(14, .iload_n 1, 1, 0, 0, []), (15, .iadd, 1, 0, 0, []), (16, .aload_n 0, 1, 0, 0, []), (17, .getfield 110, 3, 13, 18, [1754]), (20, .iload_n 1, 1, 0, 0, []), (21, .iaload, 1, 0, 0, []), (22, .iastore, 1, 0, 0, []), (23, .iinc 1 1, 3, 0, 0, [])]),
  (30, [(26, .goto (-24), 3, 0, 0, []), (29, .return_, 1, 0, 0, [])])]
theorem C_316_ok : codOk q_316.1.cls q_316.2.1 C_316 := codB_ok (by decide +kernel)
theorem h_316 : mQ 316 q_316 C_316 := ⟨mq_316, by decide +kernel, by decide, C_316_ok⟩
