def C_19 : eCode := [(16, [(0, .aload_n 0, 1, 0, 0, []), (1, .getfield 10, 3, 12, 0, [608]), (4, .invokevirtual 104, 3, 10000, 20, [661, 662, 663, 128]), (7, .ifCond .ne 5, 3, 0, 0, []), (10, .iconst (-1), 1, 0, 0, []), (11, .ireturn, 1, 0, 0, []), (12, .aload_n 0, 1, 0, 0, []), (13, .getfield 10, 3, 12, 0, [608])]),
  (32, [(16, .iload_n 1, 1, 0, 0, []), (17, .invokevirtual 108, 3, 10001, 21, [665, 666, 667, 128]), (20, .aload_n 0, 1, 0, 0, []), (21, .getfield 10, 3, 12, 0, [608]), (24, .iload_n 2, 1, 0, 0, []), (25, .invokevirtual 108, 3, 10001, 21, [665, 666, 667, 128]), (28, .aload_n 0, 1, 0, 0, []), (29, .getfield 10, 3, 12, 0, [608])]),
  (49, [(32, .iload_n 3, 1, 0, 0, []), (33, .invokevirtual 108, 3, 10001, 21, [665, 666, 667, 128]), (36, .aload_n 0, 1, 0, 0, []), (37, .getfield 10, 3, 12, 0, [608]), (40, .iload 4, 2, 0, 0, []), (42, .invokevirtual 108, 3, 10001, 21, [665, 666, 667, 128]), (45, .aload_n 0, 1, 0, 0, []), (46, .getfield 10, 3, 12, 0, [608])]),
  (62, [(49, .iload 5, 2, 0, 0, []), (51, .invokevirtual 108, 3, 10001, 21, [665, 666, 667, 128]), (54, .aload_n 0, 1, 0, 0, []), (55, .getfield 10, 3, 12, 0, [608]), (58, .invokevirtual 112, 3, 10000, 22, [669, 670, 671, 128]), (61, .ireturn, 1, 0, 0, [])])]
theorem C_19_ok : codOk q_19.1.cls q_19.2.1 C_19 := codB_ok (by decide +kernel)
theorem h_19 : mQ 19 q_19 C_19 := ⟨mq_19, by decide +kernel, by decide, C_19_ok⟩
def C_20 : eCode := [(17, [(0, .aload_n 0, 1, 0, 0, []), (1, .getfield 15, 3, 10, 1, [171]), (4, .bipush 20, 2, 0, 0, []), (6, .iadd, 1, 0, 0, []), (7, .sipush 940, 3, 0, 0, []), (10, .if_icmp .gt 7, 3, 0, 0, []), (13, .iconst 1, 1, 0, 0, []), (14, .goto 4, 3, 0, 0, [])]),
  (19, [(17, .iconst 0, 1, 0, 0, []), (18, .ireturn, 1, 0, 0, [])])]
theorem C_20_ok : codOk q_20.1.cls q_20.2.1 C_20 := codB_ok (by decide +kernel)
theorem h_20 : mQ 20 q_20 C_20 := ⟨mq_20, by decide +kernel, by decide, C_20_ok⟩
def C_21 : eCode := [(17, [(0, .bipush 24, 2, 0, 0, []), (2, .istore_n 2, 1, 0, 0, []), (3, .iload_n 2, 1, 0, 0, []), (4, .ifCond .lt 42, 3, 0, 0, []), (7, .aload_n 0, 1, 0, 0, []), (8, .getfield 15, 3, 10, 1, [171]), (11, .sipush 940, 3, 0, 0, []), (14, .if_icmp .ge 32, 3, 0, 0, [])]),
  (29, [(17, .aload_n 0, 1, 0, 0, []), (18, .getfield 11, 3, 10, 0, [170]), (21, .aload_n 0, 1, 0, 0, []), (22, .getfield 15, 3, 10, 1, [171]), (25, .iload_n 1, 1, 0, 0, []), (26, .iload_n 2, 1, 0, 0, []), (27, .iushr, 1, 0, 0, []), (28, .i2b, 1, 0, 0, [])]),
  (43, [(29, .bastore, 1, 0, 0, []), (30, .aload_n 0, 1, 0, 0, []), (31, .dup, 1, 0, 0, []), (32, .getfield 15, 3, 10, 1, [171]), (35, .iconst 1, 1, 0, 0, []), (36, .iadd, 1, 0, 0, []), (37, .putfield 15, 3, 10, 1, [171]), (40, .iinc 2 (-8), 3, 0, 0, [])]),
  (47, [(43, .goto (-40), 3, 0, 0, []), (46, .return_, 1, 0, 0, [])])]
theorem C_21_ok : codOk q_21.1.cls q_21.2.1 C_21 := codB_ok (by decide +kernel)
theorem h_21 : mQ 21 q_21 C_21 := ⟨mq_21, by decide +kernel, by decide, C_21_ok⟩
def C_22 : eCode := [(5, [(0, .aload_n 0, 1, 0, 0, []), (1, .getfield 15, 3, 10, 1, [171]), (4, .ireturn, 1, 0, 0, [])])]
theorem C_22_ok : codOk q_22.1.cls q_22.2.1 C_22 := codB_ok (by decide +kernel)
theorem h_22 : mQ 22 q_22 C_22 := ⟨mq_22, by decide +kernel, by decide, C_22_ok⟩
def C_23 : eCode := [(9, [(0, .aload_n 0, 1, 0, 0, []), (1, .getfield 10, 3, 12, 0, [608]), (4, .iload_n 1, 1, 0, 0, []), (5, .invokevirtual 116, 3, 10001, 24, [677, 678, 679, 128]), (8, .ireturn, 1, 0, 0, [])])]
theorem C_23_ok : codOk q_23.1.cls q_23.2.1 C_23 := codB_ok (by decide +kernel)
theorem h_23 : mQ 23 q_23 C_23 := ⟨mq_23, by decide +kernel, by decide, C_23_ok⟩
def C_24 : eCode := [(14, [(0, .iload_n 1, 1, 0, 0, []), (1, .ifCond .lt 11, 3, 0, 0, []), (4, .iload_n 1, 1, 0, 0, []), (5, .aload_n 0, 1, 0, 0, []), (6, .getfield 15, 3, 10, 1, [171]), (9, .if_icmp .le 5, 3, 0, 0, []), (12, .iconst 0, 1, 0, 0, []), (13, .ireturn, 1, 0, 0, [])]),
  (21, [(14, .aload_n 0, 1, 0, 0, []), (15, .iload_n 1, 1, 0, 0, []), (16, .putfield 15, 3, 10, 1, [171]), (19, .iconst 1, 1, 0, 0, []), (20, .ireturn, 1, 0, 0, [])])]
theorem C_24_ok : codOk q_24.1.cls q_24.2.1 C_24 := codB_ok (by decide +kernel)
theorem h_24 : mQ 24 q_24 C_24 := ⟨mq_24, by decide +kernel, by decide, C_24_ok⟩
def C_53 : eCode := [(14, [(0, .iload_n 0, 1, 0, 0, []), (1, .iload_n 1, 1, 0, 0, []), (2, .if_icmp .lt 12, 3, 0, 0, []), (5, .iload_n 0, 1, 0, 0, []), (6, .iload_n 2, 1, 0, 0, []), (7, .if_icmp .gt 7, 3, 0, 0, []), (10, .iconst 1, 1, 0, 0, []), (11, .goto 4, 3, 0, 0, [])]),
  (16, [(14, .iconst 0, 1, 0, 0, []), (15, .ireturn, 1, 0, 0, [])])]
theorem C_53_ok : codOk q_53.1.cls q_53.2.1 C_53 := codB_ok (by decide +kernel)
theorem h_53 : mQ 53 q_53 C_53 := ⟨mq_53, by decide +kernel, by decide, C_53_ok⟩
def C_78 : eCode := [(16, [(0, .aload_n 0, 1, 0, 0, []), (1, .aload_n 1, 1, 0, 0, []), (2, .getfield 49, 3, 11, 0, [215]), (5, .putfield 49, 3, 11, 0, [215]), (8, .aload_n 0, 1, 0, 0, []), (9, .aload_n 1, 1, 0, 0, []), (10, .getfield 53, 3, 11, 1, [217]), (13, .putfield 53, 3, 11, 1, [217])]),
  (32, [(16, .aload_n 0, 1, 0, 0, []), (17, .aload_n 1, 1, 0, 0, []), (18, .getfield 56, 3, 11, 2, [219]), (21, .putfield 56, 3, 11, 2, [219]), (24, .aload_n 0, 1, 0, 0, []), (25, .aload_n 1, 1, 0, 0, []), (26, .getfield 59, 3, 11, 3, [222]), (29, .putfield 59, 3, 11, 3, [222])]),
  (48, [(32, .aload_n 0, 1, 0, 0, []), (33, .aload_n 1, 1, 0, 0, []), (34, .getfield 62, 3, 11, 4, [225]), (37, .putfield 62, 3, 11, 4, [225]), (40, .aload_n 0, 1, 0, 0, []), (41, .aload_n 1, 1, 0, 0, []), (42, .getfield 65, 3, 11, 5, [228]), (45, .putfield 65, 3, 11, 5, [228])]),
  (64, [(48, .aload_n 0, 1, 0, 0, []), (49, .aload_n 1, 1, 0, 0, []), (50, .getfield 68, 3, 11, 6, [231]), (53, .putfield 68, 3, 11, 6, [231]), (56, .aload_n 0, 1, 0, 0, []), (57, .aload_n 1, 1, 0, 0, []), (58, .getfield 71, 3, 11, 7, [238]), (61, .putfield 71, 3, 11, 7, [238])]),
  (79, [(64, .aload_n 1, 1, 0, 0, []), (65, .getfield 11, 3, 11, 9, [242]), (68, .iconst 0, 1, 0, 0, []), (69, .aload_n 0, 1, 0, 0, []), (70, .getfield 11, 3, 11, 9, [242]), (73, .iconst 0, 1, 0, 0, []), (74, .bipush 19, 2, 0, 0, []), (76, .invokestatic 74, 3, 0, 100003, [898])]),
  (93, [(79, .aload_n 1, 1, 0, 0, []), (80, .getfield 15, 3, 11, 10, [244]), (83, .iconst 0, 1, 0, 0, []), (84, .aload_n 0, 1, 0, 0, []), (85, .getfield 15, 3, 11, 10, [244]), (88, .iconst 0, 1, 0, 0, []), (89, .iconst 5, 1, 0, 0, []), (90, .invokestatic 74, 3, 0, 100003, [898])]),
  (107, [(93, .aload_n 1, 1, 0, 0, []), (94, .getfield 19, 3, 11, 11, [246]), (97, .iconst 0, 1, 0, 0, []), (98, .aload_n 0, 1, 0, 0, []), (99, .getfield 19, 3, 11, 11, [246]), (102, .iconst 0, 1, 0, 0, []), (103, .iconst 5, 1, 0, 0, []), (104, .invokestatic 74, 3, 0, 100003, [898])]),
  (122, [(107, .aload_n 1, 1, 0, 0, []), (108, .getfield 22, 3, 11, 12, [248]), (111, .iconst 0, 1, 0, 0, []), (112, .aload_n 0, 1, 0, 0, []), (113, .getfield 22, 3, 11, 12, [248]), (116, .iconst 0, 1, 0, 0, []), (117, .bipush 8, 2, 0, 0, []), (119, .invokestatic 74, 3, 0, 100003, [898])]),
  (137, [(122, .aload_n 1, 1, 0, 0, []), (123, .getfield 25, 3, 11, 13, [252]), (126, .iconst 0, 1, 0, 0, []), (127, .aload_n 0, 1, 0, 0, []), (128, .getfield 25, 3, 11, 13, [252]), (131, .iconst 0, 1, 0, 0, []), (132, .bipush 8, 2, 0, 0, []), (134, .invokestatic 74, 3, 0, 100003, [898])]),
  (152, [(137, .aload_n 1, 1, 0, 0, []), (138, .getfield 28, 3, 11, 14, [258]), (141, .iconst 0, 1, 0, 0, []), (142, .aload_n 0, 1, 0, 0, []), (143, .getfield 28, 3, 11, 14, [258]), (146, .iconst 0, 1, 0, 0, []), (147, .bipush 8, 2, 0, 0, []), (149, .invokestatic 74, 3, 0, 100003, [898])]),
  (167, [(152, .aload_n 1, 1, 0, 0, []), (153, .getfield 31, 3, 11, 15, [262]), (156, .iconst 0, 1, 0, 0, []), (157, .aload_n 0, 1, 0, 0, []), (158, .getfield 31, 3, 11, 15, [262]), (161, .iconst 0, 1, 0, 0, []), (162, .bipush 6, 2, 0, 0, []), (164, .invokestatic 74, 3, 0, 100003, [898])]),
  (182, [(167, .aload_n 1, 1, 0, 0, []), (168, .getfield 34, 3, 11, 16, [264]), (171, .iconst 0, 1, 0, 0, []), (172, .aload_n 0, 1, 0, 0, []), (173, .getfield 34, 3, 11, 16, [264]), (176, .iconst 0, 1, 0, 0, []), (177, .bipush 6, 2, 0, 0, []), (179, .invokestatic 74, 3, 0, 100003, [898])]),
  (197, [(182, .aload_n 1, 1, 0, 0, []), (183, .getfield 37, 3, 11, 17, [267]), (186, .iconst 0, 1, 0, 0, []), (187, .aload_n 0, 1, 0, 0, []), (188, .getfield 37, 3, 11, 17, [267]), (191, .iconst 0, 1, 0, 0, []), (192, .bipush 6, 2, 0, 0, []), (194, .invokestatic 74, 3, 0, 100003, [898])]),
  (212, [(197, .aload_n 1, 1, 0, 0, []), (198, .getfield 40, 3, 11, 18, [269]), (201, .iconst 0, 1, 0, 0, []), (202, .aload_n 0, 1, 0, 0, []), (203, .getfield 40, 3, 11, 18, [269]), (206, .iconst 0, 1, 0, 0, []), (207, .bipush 6, 2, 0, 0, []), (209, .invokestatic 74, 3, 0, 100003, [898])]),
  (227, [(212, .aload_n 1, 1, 0, 0, []), (213, .getfield 43, 3, 11, 19, [271]), (216, .iconst 0, 1, 0, 0, []), (217, .aload_n 0, 1, 0, 0, []), (218, .getfield 43, 3, 11, 19, [271]), (221, .iconst 0, 1, 0, 0, []), (222, .bipush 6, 2, 0, 0, []), (224, .invokestatic 74, 3, 0, 100003, [898])]),
  (228, [(227, .return_, 1, 0, 0, [])])]
theorem C_78_ok : codOk q_78.1.cls q_78.2.1 C_78 := codB_ok (by decide +kernel)
theorem h_78 : mQ 78 q_78 C_78 := ⟨mq_78, by decide +kernel, by decide, C_78_ok⟩
def C_80 : eCode := [(6, [(0, .aload_n 0, 1, 0, 0, []), (1, .iconst 0, 1, 0, 0, []), (2, .putfield 28, 3, 3, 2, [391]), (5, .return_, 1, 0, 0, [])])]
theorem C_80_ok : codOk q_80.1.cls q_80.2.1 C_80 := codB_ok (by decide +kernel)
theorem h_80 : mQ 80 q_80 C_80 := ⟨mq_80, by decide +kernel, by decide, C_80_ok⟩
def C_82 : eCode := [(56, [(0, .iload_n 1, 1, 0, 0, []), (1, .tableswitch 99 0 6 #[43, 51, 59, 67, 75, 83, 91], 43, 0, 0, []), (44, .aload_n 0, 1, 0, 0, []), (45, .getfield 31, 3, 12, 3, [611]), (48, .getfield 201, 3, 5, 1, [334]), (51, .ireturn, 1, 0, 0, []), (52, .aload_n 0, 1, 0, 0, []), (53, .getfield 31, 3, 12, 3, [611])]),
  (72, [(56, .getfield 204, 3, 5, 2, [339]), (59, .ireturn, 1, 0, 0, []), (60, .aload_n 0, 1, 0, 0, []), (61, .getfield 31, 3, 12, 3, [611]), (64, .getfield 207, 3, 5, 3, [342]), (67, .ireturn, 1, 0, 0, []), (68, .aload_n 0, 1, 0, 0, []), (69, .getfield 31, 3, 12, 3, [611])]),
  (88, [(72, .getfield 210, 3, 5, 4, [345]), (75, .ireturn, 1, 0, 0, []), (76, .aload_n 0, 1, 0, 0, []), (77, .getfield 31, 3, 12, 3, [611]), (80, .invokevirtual 213, 3, 5000, 83, [918, 919, 920, 130]), (83, .ireturn, 1, 0, 0, []), (84, .aload_n 0, 1, 0, 0, []), (85, .getfield 31, 3, 12, 3, [611])]),
  (102, [(88, .invokevirtual 216, 3, 5000, 86, [930, 931, 932, 130]), (91, .ireturn, 1, 0, 0, []), (92, .aload_n 0, 1, 0, 0, []), (93, .getfield 31, 3, 12, 3, [611]), (96, .invokevirtual 219, 3, 5000, 88, [938, 939, 940, 130]), (99, .ireturn, 1, 0, 0, []), (100, .iconst (-1), 1, 0, 0, []), (101, .ireturn, 1, 0, 0, [])])]
theorem C_82_ok : codOk q_82.1.cls q_82.2.1 C_82 := codB_ok (by decide +kernel)
theorem h_82 : mQ 82 q_82 C_82 := ⟨mq_82, by decide +kernel, by decide, C_82_ok⟩
def C_83 : eCode := [(18, [(0, .aload_n 0, 1, 0, 0, []), (1, .getfield 29, 3, 5, 0, [326]), (4, .invokevirtual 76, 3, 11000, 84, [922, 923, 924, 129]), (7, .aload_n 0, 1, 0, 0, []), (8, .getfield 29, 3, 5, 0, [326]), (11, .aload_n 0, 1, 0, 0, []), (12, .getfield 43, 3, 5, 2, [335]), (15, .invokevirtual 80, 3, 11001, 85, [926, 927, 928, 129])]),
  (22, [(18, .iconst (-1), 1, 0, 0, []), (19, .ixor, 1, 0, 0, []), (20, .iand, 1, 0, 0, []), (21, .ireturn, 1, 0, 0, [])])]
theorem C_83_ok : codOk q_83.1.cls q_83.2.1 C_83 := codB_ok (by decide +kernel)
theorem h_83 : mQ 83 q_83 C_83 := ⟨mq_83, by decide +kernel, by decide, C_83_ok⟩
def C_84 : eCode := [(9, [(0, .iconst 1, 1, 0, 0, []), (1, .aload_n 0, 1, 0, 0, []), (2, .getfield 68, 3, 11, 6, [231]), (5, .ishl, 1, 0, 0, []), (6, .iconst 1, 1, 0, 0, []), (7, .isub, 1, 0, 0, []), (8, .ireturn, 1, 0, 0, [])])]
theorem C_84_ok : codOk q_84.1.cls q_84.2.1 C_84 := codB_ok (by decide +kernel)
theorem h_84 : mQ 84 q_84 C_84 := ⟨mq_84, by decide +kernel, by decide, C_84_ok⟩
def C_85 : eCode := [(12, [(0, .iconst 0, 1, 0, 0, []), (1, .istore_n 2, 1, 0, 0, []), (2, .iconst 0, 1, 0, 0, []), (3, .istore_n 3, 1, 0, 0, []), (4, .iload_n 3, 1, 0, 0, []), (5, .aload_n 0, 1, 0, 0, []), (6, .getfield 68, 3, 11, 6, [231]), (9, .if_icmp .ge 25, 3, 0, 0, [])]),
  (24, [(12, .iload_n 1, 1, 0, 0, []), (13, .aload_n 0, 1, 0, 0, []), (14, .getfield 25, 3, 11, 13, [252]), (17, .iload_n 3, 1, 0, 0, []), (18, .iaload, 1, 0, 0, []), (19, .if_icmp .gt 9, 3, 0, 0, []), (22, .iload_n 2, 1, 0, 0, []), (23, .iconst 1, 1, 0, 0, [])]),
  (36, [(24, .iload_n 3, 1, 0, 0, []), (25, .ishl, 1, 0, 0, []), (26, .ior, 1, 0, 0, []), (27, .istore_n 2, 1, 0, 0, []), (28, .iinc 3 1, 3, 0, 0, []), (31, .goto (-27), 3, 0, 0, []), (34, .iload_n 2, 1, 0, 0, []), (35, .ireturn, 1, 0, 0, [])])]
theorem C_85_ok : codOk q_85.1.cls q_85.2.1 C_85 := codB_ok (by decide +kernel)
theorem h_85 : mQ 85 q_85 C_85 := ⟨mq_85, by decide +kernel, by decide, C_85_ok⟩
def C_86 : eCode := [(12, [(0, .iconst 0, 1, 0, 0, []), (1, .istore_n 1, 1, 0, 0, []), (2, .iconst 0, 1, 0, 0, []), (3, .istore_n 2, 1, 0, 0, []), (4, .iload_n 2, 1, 0, 0, []), (5, .aload_n 0, 1, 0, 0, []), (6, .getfield 29, 3, 5, 0, [326]), (9, .getfield 84, 3, 11, 7, [239])]),
  (26, [(12, .if_icmp .ge 17, 3, 0, 0, []), (15, .iload_n 1, 1, 0, 0, []), (16, .aload_n 0, 1, 0, 0, []), (17, .iload_n 2, 1, 0, 0, []), (18, .invokevirtual 87, 3, 5001, 87, [934, 935, 936, 130]), (21, .ior, 1, 0, 0, []), (22, .istore_n 1, 1, 0, 0, []), (23, .iinc 2 1, 3, 0, 0, [])]),
  (31, [(26, .goto (-22), 3, 0, 0, []), (29, .iload_n 1, 1, 0, 0, []), (30, .ireturn, 1, 0, 0, [])])]
theorem C_86_ok : codOk q_86.1.cls q_86.2.1 C_86 := codB_ok (by decide +kernel)
theorem h_86 : mQ 86 q_86 C_86 := ⟨mq_86, by decide +kernel, by decide, C_86_ok⟩
def C_87 : eCode := [(14, [(0, .aload_n 0, 1, 0, 0, []), (1, .getfield 11, 3, 5, 5, [346]), (4, .iload_n 1, 1, 0, 0, []), (5, .iaload, 1, 0, 0, []), (6, .iconst (-1), 1, 0, 0, []), (7, .if_icmp .ne 7, 3, 0, 0, []), (10, .iconst 0, 1, 0, 0, []), (11, .goto 11, 3, 0, 0, [])]),
  (23, [(14, .iconst 1, 1, 0, 0, []), (15, .aload_n 0, 1, 0, 0, []), (16, .getfield 11, 3, 5, 5, [346]), (19, .iload_n 1, 1, 0, 0, []), (20, .iaload, 1, 0, 0, []), (21, .ishl, 1, 0, 0, []), (22, .ireturn, 1, 0, 0, [])])]
theorem C_87_ok : codOk q_87.1.cls q_87.2.1 C_87 := codB_ok (by decide +kernel)
theorem h_87 : mQ 87 q_87 C_87 := ⟨mq_87, by decide +kernel, by decide, C_87_ok⟩
def C_88 : eCode := [(12, [(0, .iconst 0, 1, 0, 0, []), (1, .istore_n 1, 1, 0, 0, []), (2, .iconst 0, 1, 0, 0, []), (3, .istore_n 2, 1, 0, 0, []), (4, .iload_n 2, 1, 0, 0, []), (5, .aload_n 0, 1, 0, 0, []), (6, .getfield 29, 3, 5, 0, [326]), (9, .getfield 93, 3, 11, 6, [234])]),
  (24, [(12, .if_icmp .ge 18, 3, 0, 0, []), (15, .iload_n 1, 1, 0, 0, []), (16, .aload_n 0, 1, 0, 0, []), (17, .getfield 26, 3, 5, 9, [354]), (20, .iload_n 2, 1, 0, 0, []), (21, .iaload, 1, 0, 0, []), (22, .iadd, 1, 0, 0, []), (23, .istore_n 1, 1, 0, 0, [])]),
  (32, [(24, .iinc 2 1, 3, 0, 0, []), (27, .goto (-23), 3, 0, 0, []), (30, .iload_n 1, 1, 0, 0, []), (31, .ireturn, 1, 0, 0, [])])]
theorem C_88_ok : codOk q_88.1.cls q_88.2.1 C_88 := codB_ok (by decide +kernel)
theorem h_88 : mQ 88 q_88 C_88 := ⟨mq_88, by decide +kernel, by decide, C_88_ok⟩
def C_89 : eCode := [(16, [(0, .aload_n 0, 1, 0, 0, []), (1, .iload_n 1, 1, 0, 0, []), (2, .invokevirtual 176, 3, 12001, 90, [946, 948, 18, 127]), (5, .ifCond .eq 21, 3, 0, 0, []), (8, .aload_n 0, 1, 0, 0, []), (9, .iload_n 2, 1, 0, 0, []), (10, .invokevirtual 144, 3, 12001, 91, [950, 952, 19, 127]), (13, .ifCond .eq 13, 3, 0, 0, [])]),
  (29, [(16, .iload_n 3, 1, 0, 0, []), (17, .iconst 1, 1, 0, 0, []), (18, .bipush 30, 2, 0, 0, []), (20, .invokestatic 222, 3, 3, 53, [954, 796, 127]), (23, .ifCond .ne 5, 3, 0, 0, []), (26, .iconst (-1), 1, 0, 0, []), (27, .ireturn, 1, 0, 0, []), (28, .aload_n 0, 1, 0, 0, [])]),
  (45, [(29, .getfield 31, 3, 12, 3, [611]), (32, .iload_n 1, 1, 0, 0, []), (33, .iload_n 2, 1, 0, 0, []), (34, .invokevirtual 226, 3, 5002, 92, [955, 956, 957, 130]), (37, .istore 4, 2, 0, 0, []), (39, .iload 4, 2, 0, 0, []), (41, .ifCond .ne 24, 3, 0, 0, []), (44, .aload_n 0, 1, 0, 0, [])]),
  (61, [(45, .getfield 41, 3, 12, 5, [613]), (48, .aload_n 0, 1, 0, 0, []), (49, .getfield 31, 3, 12, 3, [611]), (52, .invokevirtual 230, 3, 3001, 96, [970, 971, 972, 131]), (55, .aload_n 0, 1, 0, 0, []), (56, .getfield 31, 3, 12, 3, [611]), (59, .iload_n 1, 1, 0, 0, []), (60, .iload_n 2, 1, 0, 0, [])]),
  (68, [(61, .iload_n 3, 1, 0, 0, []), (62, .invokevirtual 234, 3, 5003, 99, [982, 983, 984, 130]), (65, .iload 4, 2, 0, 0, []), (67, .ireturn, 1, 0, 0, [])])]
theorem C_89_ok : codOk q_89.1.cls q_89.2.1 C_89 := codB_ok (by decide +kernel)
theorem h_89 : mQ 89 q_89 C_89 := ⟨mq_89, by decide +kernel, by decide, C_89_ok⟩
def C_90 : eCode := [(16, [(0, .iload_n 1, 1, 0, 0, []), (1, .ifCond .lt 18, 3, 0, 0, []), (4, .iload_n 1, 1, 0, 0, []), (5, .aload_n 0, 1, 0, 0, []), (6, .getfield 19, 3, 12, 1, [609]), (9, .getfield 391, 3, 11, 7, [240]), (12, .if_icmp .ge 7, 3, 0, 0, []), (15, .iconst 1, 1, 0, 0, [])]),
  (21, [(16, .goto 4, 3, 0, 0, []), (19, .iconst 0, 1, 0, 0, []), (20, .ireturn, 1, 0, 0, [])])]
theorem C_90_ok : codOk q_90.1.cls q_90.2.1 C_90 := codB_ok (by decide +kernel)
theorem h_90 : mQ 90 q_90 C_90 := ⟨mq_90, by decide +kernel, by decide, C_90_ok⟩
def C_91 : eCode := [(16, [(0, .iload_n 1, 1, 0, 0, []), (1, .ifCond .lt 18, 3, 0, 0, []), (4, .iload_n 1, 1, 0, 0, []), (5, .aload_n 0, 1, 0, 0, []), (6, .getfield 19, 3, 12, 1, [609]), (9, .getfield 388, 3, 11, 6, [236]), (12, .if_icmp .ge 7, 3, 779, 0, []), (15, .iconst 1, 1, 0, 0, [])]),
  (21, [(16, .goto 4, 3, 0, 0, []), (19, .iconst 0, 1, 0, 0, []), (20, .ireturn, 1, 0, 0, [])])]
theorem C_91_ok : codOk q_91.1.cls q_91.2.1 C_91 := codB_ok (by decide +kernel)
theorem h_91 : mQ 91 q_91 C_91 := ⟨mq_91, by decide +kernel, by decide, C_91_ok⟩
def C_92 : eCode := [(12, [(0, .aload_n 0, 1, 0, 0, []), (1, .getfield 11, 3, 5, 5, [346]), (4, .iload_n 1, 1, 0, 0, []), (5, .iaload, 1, 0, 0, []), (6, .iconst (-1), 1, 0, 0, []), (7, .if_icmp .eq 5, 3, 0, 0, []), (10, .iconst 1, 1, 0, 0, []), (11, .ireturn, 1, 0, 0, [])]),
  (24, [(12, .aload_n 0, 1, 0, 0, []), (13, .iload_n 2, 1, 0, 0, []), (14, .invokevirtual 96, 3, 5001, 93, [959, 960, 961, 130]), (17, .iconst (-1), 1, 0, 0, []), (18, .if_icmp .eq 5, 3, 0, 0, []), (21, .iconst 2, 1, 0, 0, []), (22, .ireturn, 1, 0, 0, []), (23, .aload_n 0, 1, 0, 0, [])]),
  (40, [(24, .iload_n 2, 1, 0, 0, []), (25, .invokevirtual 99, 3, 5001, 94, [963, 964, 965, 130]), (28, .aload_n 0, 1, 0, 0, []), (29, .getfield 29, 3, 5, 0, [326]), (32, .getfield 102, 3, 11, 16, [266]), (35, .iload_n 1, 1, 0, 0, []), (36, .iaload, 1, 0, 0, []), (37, .if_icmp .le 7, 3, 0, 0, [])]),
  (46, [(40, .iconst 3, 1, 0, 0, []), (41, .goto 4, 3, 0, 0, []), (44, .iconst 0, 1, 0, 0, []), (45, .ireturn, 1, 0, 0, [])])]
theorem C_92_ok : codOk q_92.1.cls q_92.2.1 C_92 := codB_ok (by decide +kernel)
theorem h_92 : mQ 92 q_92 C_92 := ⟨mq_92, by decide +kernel, by decide, C_92_ok⟩
def C_93 : eCode := [(14, [(0, .iconst 0, 1, 0, 0, []), (1, .istore_n 2, 1, 0, 0, []), (2, .iload_n 2, 1, 0, 0, []), (3, .aload_n 0, 1, 0, 0, []), (4, .getfield 29, 3, 5, 0, [326]), (7, .getfield 84, 3, 11, 7, [239]), (10, .if_icmp .ge 21, 3, 0, 0, []), (13, .aload_n 0, 1, 0, 0, [])]),
  (28, [(14, .getfield 11, 3, 5, 5, [346]), (17, .iload_n 2, 1, 0, 0, []), (18, .iaload, 1, 0, 0, []), (19, .iload_n 1, 1, 0, 0, []), (20, .if_icmp .ne 5, 3, 0, 0, []), (23, .iload_n 2, 1, 0, 0, []), (24, .ireturn, 1, 0, 0, []), (25, .iinc 2 1, 3, 0, 0, [])]),
  (33, [(28, .goto (-26), 3, 0, 0, []), (31, .iconst (-1), 1, 0, 0, []), (32, .ireturn, 1, 0, 0, [])])]
theorem C_93_ok : codOk q_93.1.cls q_93.2.1 C_93 := codB_ok (by decide +kernel)
theorem h_93 : mQ 93 q_93 C_93 := ⟨mq_93, by decide +kernel, by decide, C_93_ok⟩
def C_94 : eCode := [(14, [(0, .iconst 0, 1, 0, 0, []), (1, .aload_n 0, 1, 0, 0, []), (2, .getfield 43, 3, 5, 2, [335]), (5, .aload_n 0, 1, 0, 0, []), (6, .getfield 29, 3, 5, 0, [326]), (9, .getfield 67, 3, 11, 13, [255]), (12, .iload_n 1, 1, 0, 0, []), (13, .iaload, 1, 0, 0, [])]),
  (19, [(14, .isub, 1, 0, 0, []), (15, .invokestatic 70, 3, 0, 100000, [967]), (18, .ireturn, 1, 0, 0, [])])]
theorem C_94_ok : codOk q_94.1.cls q_94.2.1 C_94 := codB_ok (by decide +kernel)
theorem h_94 : mQ 94 q_94 C_94 := ⟨mq_94, by decide +kernel, by decide, C_94_ok⟩
def C_96 : eCode := [(14, [(0, .aload_n 0, 1, 0, 0, []), (1, .getfield 13, 3, 3, 0, [389]), (4, .aload_n 0, 1, 0, 0, []), (5, .getfield 20, 3, 3, 1, [390]), (8, .aaload, 1, 0, 0, []), (9, .aload_n 1, 1, 0, 0, []), (10, .invokevirtual 24, 3, 5001, 97, [974, 975, 976, 130]), (13, .aload_n 0, 1, 0, 0, [])]),
  (27, [(14, .aload_n 0, 1, 0, 0, []), (15, .getfield 20, 3, 3, 1, [390]), (18, .iconst 1, 1, 0, 0, []), (19, .iadd, 1, 0, 0, []), (20, .bipush 8, 2, 0, 0, []), (22, .irem, 1, 0, 0, []), (23, .putfield 20, 3, 3, 1, [390]), (26, .aload_n 0, 1, 0, 0, [])]),
  (42, [(27, .bipush 8, 2, 0, 0, []), (29, .aload_n 0, 1, 0, 0, []), (30, .getfield 28, 3, 3, 2, [391]), (33, .iconst 1, 1, 0, 0, []), (34, .iadd, 1, 0, 0, []), (35, .invokestatic 31, 3, 0, 100001, [979]), (38, .putfield 28, 3, 3, 2, [391]), (41, .return_, 1, 0, 0, [])])]
theorem C_96_ok : codOk q_96.1.cls q_96.2.1 C_96 := codB_ok (by decide +kernel)
theorem h_96 : mQ 96 q_96 C_96 := ⟨mq_96, by decide +kernel, by decide, C_96_ok⟩
def C_97 : eCode := [(16, [(0, .aload_n 0, 1, 0, 0, []), (1, .aload_n 1, 1, 0, 0, []), (2, .getfield 36, 3, 5, 1, [330]), (5, .putfield 36, 3, 5, 1, [330]), (8, .aload_n 0, 1, 0, 0, []), (9, .aload_n 1, 1, 0, 0, []), (10, .getfield 43, 3, 5, 2, [335]), (13, .putfield 43, 3, 5, 2, [335])]),
  (32, [(16, .aload_n 0, 1, 0, 0, []), (17, .aload_n 1, 1, 0, 0, []), (18, .getfield 46, 3, 5, 3, [340]), (21, .putfield 46, 3, 5, 3, [340]), (24, .aload_n 0, 1, 0, 0, []), (25, .aload_n 1, 1, 0, 0, []), (26, .getfield 49, 3, 5, 4, [344]), (29, .putfield 49, 3, 5, 4, [344])]),
  (47, [(32, .aload_n 1, 1, 0, 0, []), (33, .getfield 11, 3, 5, 5, [346]), (36, .iconst 0, 1, 0, 0, []), (37, .aload_n 0, 1, 0, 0, []), (38, .getfield 11, 3, 5, 5, [346]), (41, .iconst 0, 1, 0, 0, []), (42, .bipush 6, 2, 0, 0, []), (44, .invokestatic 61, 3, 0, 100003, [978])]),
  (62, [(47, .aload_n 1, 1, 0, 0, []), (48, .getfield 17, 3, 5, 6, [348]), (51, .iconst 0, 1, 0, 0, []), (52, .aload_n 0, 1, 0, 0, []), (53, .getfield 17, 3, 5, 6, [348]), (56, .iconst 0, 1, 0, 0, []), (57, .bipush 6, 2, 0, 0, []), (59, .invokestatic 61, 3, 0, 100003, [978])]),
  (77, [(62, .aload_n 1, 1, 0, 0, []), (63, .getfield 20, 3, 5, 7, [350]), (66, .iconst 0, 1, 0, 0, []), (67, .aload_n 0, 1, 0, 0, []), (68, .getfield 20, 3, 5, 7, [350]), (71, .iconst 0, 1, 0, 0, []), (72, .bipush 6, 2, 0, 0, []), (74, .invokestatic 61, 3, 0, 100003, [978])]),
  (92, [(77, .aload_n 1, 1, 0, 0, []), (78, .getfield 23, 3, 5, 8, [352]), (81, .iconst 0, 1, 0, 0, []), (82, .aload_n 0, 1, 0, 0, []), (83, .getfield 23, 3, 5, 8, [352]), (86, .iconst 0, 1, 0, 0, []), (87, .bipush 6, 2, 0, 0, []), (89, .invokestatic 61, 3, 0, 100003, [978])]),
  (107, [(92, .aload_n 1, 1, 0, 0, []), (93, .getfield 26, 3, 5, 9, [354]), (96, .iconst 0, 1, 0, 0, []), (97, .aload_n 0, 1, 0, 0, []), (98, .getfield 26, 3, 5, 9, [354]), (101, .iconst 0, 1, 0, 0, []), (102, .bipush 8, 2, 0, 0, []), (104, .invokestatic 61, 3, 0, 100003, [978])]),
  (108, [(107, .return_, 1, 0, 0, [])])]
theorem C_97_ok : codOk q_97.1.cls q_97.2.1 C_97 := codB_ok (by decide +kernel)
theorem h_97 : mQ 97 q_97 C_97 := ⟨mq_97, by decide +kernel, by decide, C_97_ok⟩
def C_99 : eCode := [(12, [(0, .aload_n 0, 1, 0, 0, []), (1, .getfield 11, 3, 5, 5, [346]), (4, .iload_n 1, 1, 0, 0, []), (5, .iload_n 2, 1, 0, 0, []), (6, .iastore, 1, 0, 0, []), (7, .aload_n 0, 1, 0, 0, []), (8, .getfield 17, 3, 5, 6, [348]), (11, .iload_n 1, 1, 0, 0, [])]),
  (15, [(12, .iload_n 3, 1, 0, 0, []), (13, .iastore, 1, 0, 0, []), (14, .return_, 1, 0, 0, [])])]
theorem C_99_ok : codOk q_99.1.cls q_99.2.1 C_99 := codB_ok (by decide +kernel)
theorem h_99 : mQ 99 q_99 C_99 := ⟨mq_99, by decide +kernel, by decide, C_99_ok⟩
def C_100 : eCode := [(14, [(0, .aload_n 0, 1, 0, 0, []), (1, .iload_n 1, 1, 0, 0, []), (2, .invokevirtual 176, 3, 12001, 90, [946, 948, 18, 127]), (5, .ifCond .ne 5, 3, 0, 0, []), (8, .iconst (-1), 1, 0, 0, []), (9, .ireturn, 1, 0, 0, []), (10, .aload_n 0, 1, 0, 0, []), (11, .getfield 31, 3, 12, 3, [611])]),
  (28, [(14, .iload_n 1, 1, 0, 0, []), (15, .invokevirtual 238, 3, 5001, 101, [990, 991, 992, 130]), (18, .istore_n 2, 1, 0, 0, []), (19, .iload_n 2, 1, 0, 0, []), (20, .ifCond .ne 22, 3, 0, 0, []), (23, .aload_n 0, 1, 0, 0, []), (24, .getfield 41, 3, 12, 5, [613]), (27, .aload_n 0, 1, 0, 0, [])]),
  (44, [(28, .getfield 31, 3, 12, 3, [611]), (31, .invokevirtual 230, 3, 3001, 96, [970, 971, 972, 131]), (34, .aload_n 0, 1, 0, 0, []), (35, .getfield 31, 3, 12, 3, [611]), (38, .iload_n 1, 1, 0, 0, []), (39, .invokevirtual 241, 3, 5001, 102, [994, 995, 996, 130]), (42, .iload_n 2, 1, 0, 0, []), (43, .ireturn, 1, 0, 0, [])])]
theorem C_100_ok : codOk q_100.1.cls q_100.2.1 C_100 := codB_ok (by decide +kernel)
theorem h_100 : mQ 100 q_100 C_100 := ⟨mq_100, by decide +kernel, by decide, C_100_ok⟩
def C_101 : eCode := [(14, [(0, .aload_n 0, 1, 0, 0, []), (1, .getfield 11, 3, 5, 5, [346]), (4, .iload_n 1, 1, 0, 0, []), (5, .iaload, 1, 0, 0, []), (6, .iconst (-1), 1, 0, 0, []), (7, .if_icmp .ne 7, 3, 0, 0, []), (10, .iconst 1, 1, 0, 0, []), (11, .goto 4, 3, 0, 0, [])]),
  (16, [(14, .iconst 0, 1, 0, 0, []), (15, .ireturn, 1, 0, 0, [])])]
theorem C_101_ok : codOk q_101.1.cls q_101.2.1 C_101 := codB_ok (by decide +kernel)
theorem h_101 : mQ 101 q_101 C_101 := ⟨mq_101, by decide +kernel, by decide, C_101_ok⟩
def C_102 : eCode := [(12, [(0, .aload_n 0, 1, 0, 0, []), (1, .getfield 11, 3, 5, 5, [346]), (4, .iload_n 1, 1, 0, 0, []), (5, .iconst (-1), 1, 0, 0, []), (6, .iastore, 1, 0, 0, []), (7, .aload_n 0, 1, 0, 0, []), (8, .getfield 17, 3, 5, 6, [348]), (11, .iload_n 1, 1, 0, 0, [])]),
  (15, [(12, .iconst 0, 1, 0, 0, []), (13, .iastore, 1, 0, 0, []), (14, .return_, 1, 0, 0, [])])]
theorem C_102_ok : codOk q_102.1.cls q_102.2.1 C_102 := codB_ok (by decide +kernel)
theorem h_102 : mQ 102 q_102 C_102 := ⟨mq_102, by decide +kernel, by decide, C_102_ok⟩
def C_105 : eCode := [(13, [(0, .iload_n 1, 1, 0, 0, []), (1, .iconst 1, 1, 0, 0, []), (2, .bipush 60, 2, 0, 0, []), (4, .invokestatic 222, 3, 3, 53, [954, 796, 127]), (7, .ifCond .ne 5, 3, 0, 0, []), (10, .iconst (-1), 1, 0, 0, []), (11, .ireturn, 1, 0, 0, []), (12, .aload_n 0, 1, 0, 0, [])]),
  (33, [(13, .getfield 31, 3, 12, 3, [611]), (16, .invokevirtual 247, 3, 5000, 106, [1010, 1011, 1012, 130]), (19, .ifCond .le 14, 3, 0, 0, []), (22, .aload_n 0, 1, 0, 0, []), (23, .getfield 41, 3, 12, 5, [613]), (26, .aload_n 0, 1, 0, 0, []), (27, .getfield 31, 3, 12, 3, [611]), (30, .invokevirtual 230, 3, 3001, 96, [970, 971, 972, 131])]),
  (42, [(33, .aload_n 0, 1, 0, 0, []), (34, .getfield 31, 3, 12, 3, [611]), (37, .iload_n 1, 1, 0, 0, []), (38, .invokevirtual 250, 3, 5001, 107, [1014, 1015, 1016, 130]), (41, .ireturn, 1, 0, 0, [])])]
theorem C_105_ok : codOk q_105.1.cls q_105.2.1 C_105 := codB_ok (by decide +kernel)
theorem h_105 : mQ 105 q_105 C_105 := ⟨mq_105, by decide +kernel, by decide, C_105_ok⟩
def C_106 : eCode := [(9, [(0, .sipush 400, 3, 0, 0, []), (3, .aload_n 0, 1, 0, 0, []), (4, .getfield 36, 3, 5, 1, [330]), (7, .isub, 1, 0, 0, []), (8, .ireturn, 1, 0, 0, [])])]
theorem C_106_ok : codOk q_106.1.cls q_106.2.1 C_106 := codB_ok (by decide +kernel)
theorem h_106 : mQ 106 q_106 C_106 := ⟨mq_106, by decide +kernel, by decide, C_106_ok⟩
def C_107 : eCode := [(12, [(0, .iload_n 1, 1, 0, 0, []), (1, .aload_n 0, 1, 0, 0, []), (2, .invokevirtual 105, 3, 5000, 106, [1018, 1011, 1012, 130]), (5, .invokestatic 108, 3, 0, 100001, [1019]), (8, .istore_n 2, 1, 0, 0, []), (9, .iconst 0, 1, 0, 0, []), (10, .istore_n 3, 1, 0, 0, []), (11, .iload_n 3, 1, 0, 0, [])]),
  (28, [(12, .iload_n 2, 1, 0, 0, []), (13, .if_icmp .ge 13, 3, 0, 0, []), (16, .aload_n 0, 1, 0, 0, []), (17, .invokevirtual 111, 3, 5000, 108, [1020, 1022, 20, 130]), (20, .iinc 3 1, 3, 0, 0, []), (23, .goto (-12), 3, 0, 0, []), (26, .iload_n 2, 1, 0, 0, []), (27, .ireturn, 1, 0, 0, [])])]
theorem C_107_ok : codOk q_107.1.cls q_107.2.1 C_107 := codB_ok (by decide +kernel)
theorem h_107 : mQ 107 q_107 C_107 := ⟨mq_107, by decide +kernel, by decide, C_107_ok⟩
def C_108 : eCode := [(14, [(0, .aload_n 0, 1, 0, 0, []), (1, .dup, 1, 0, 0, []), (2, .getfield 49, 3, 5, 4, [344]), (5, .aload_n 0, 1, 0, 0, []), (6, .getfield 29, 3, 5, 0, [326]), (9, .aload_n 0, 1, 0, 0, []), (10, .getfield 43, 3, 5, 2, [335]), (13, .aload_n 0, 1, 0, 0, [])]),
  (30, [(14, .getfield 46, 3, 5, 3, [340]), (17, .invokevirtual 137, 3, 11002, 109, [1024, 1025, 1026, 129]), (20, .iadd, 1, 0, 0, []), (21, .putfield 49, 3, 5, 4, [344]), (24, .aload_n 0, 1, 0, 0, []), (25, .aload_n 0, 1, 0, 0, []), (26, .getfield 29, 3, 5, 0, [326]), (29, .aload_n 0, 1, 0, 0, [])]),
  (48, [(30, .getfield 36, 3, 5, 1, [330]), (33, .aload_n 0, 1, 0, 0, []), (34, .getfield 43, 3, 5, 2, [335]), (37, .aload_n 0, 1, 0, 0, []), (38, .getfield 46, 3, 5, 3, [340]), (41, .invokevirtual 140, 3, 11003, 110, [1028, 1029, 1030, 129]), (44, .putfield 43, 3, 5, 2, [335]), (47, .iconst 0, 1, 0, 0, [])]),
  (64, [(48, .istore_n 1, 1, 0, 0, []), (49, .iload_n 1, 1, 0, 0, []), (50, .aload_n 0, 1, 0, 0, []), (51, .getfield 29, 3, 5, 0, [326]), (54, .getfield 84, 3, 11, 7, [239]), (57, .if_icmp .ge 30, 3, 0, 0, []), (60, .aload_n 0, 1, 0, 0, []), (61, .getfield 11, 3, 5, 5, [346])]),
  (76, [(64, .iload_n 1, 1, 0, 0, []), (65, .iaload, 1, 0, 0, []), (66, .iconst (-1), 1, 0, 0, []), (67, .if_icmp .eq 14, 3, 0, 0, []), (70, .aload_n 0, 1, 0, 0, []), (71, .iload_n 1, 1, 0, 0, []), (72, .aload_n 0, 1, 0, 0, []), (73, .getfield 11, 3, 5, 5, [346])]),
  (92, [(76, .iload_n 1, 1, 0, 0, []), (77, .iaload, 1, 0, 0, []), (78, .invokevirtual 144, 3, 5002, 111, [1034, 1036, 21, 130]), (81, .iinc 1 1, 3, 0, 0, []), (84, .goto (-35), 3, 0, 0, []), (87, .aload_n 0, 1, 0, 0, []), (88, .dup, 1, 0, 0, []), (89, .getfield 36, 3, 5, 1, [330])]),
  (98, [(92, .iconst 1, 1, 0, 0, []), (93, .iadd, 1, 0, 0, []), (94, .putfield 36, 3, 5, 1, [330]), (97, .return_, 1, 0, 0, [])])]
theorem C_108_ok : codOk q_108.1.cls q_108.2.1 C_108 := codB_ok (by decide +kernel)
theorem h_108 : mQ 108 q_108 C_108 := ⟨mq_108, by decide +kernel, by decide, C_108_ok⟩
def C_109 : eCode := [(14, [(0, .iload_n 1, 1, 0, 0, []), (1, .aload_n 0, 1, 0, 0, []), (2, .getfield 59, 3, 11, 3, [222]), (5, .if_icmp .lt 7, 3, 0, 0, []), (8, .iload_n 2, 1, 0, 0, []), (9, .goto 4, 3, 0, 0, []), (12, .iconst 0, 1, 0, 0, []), (13, .ireturn, 1, 0, 0, [])])]
theorem C_109_ok : codOk q_109.1.cls q_109.2.1 C_109 := codB_ok (by decide +kernel)
theorem h_109 : mQ 109 q_109 C_109 := ⟨mq_109, by decide +kernel, by decide, C_109_ok⟩
def C_110 : eCode := [(13, [(0, .iload_n 2, 1, 0, 0, []), (1, .iload_n 3, 1, 0, 0, []), (2, .isub, 1, 0, 0, []), (3, .istore 4, 2, 0, 0, []), (5, .aload_n 0, 1, 0, 0, []), (6, .getfield 53, 3, 11, 1, [217]), (9, .ifCond .le 23, 3, 0, 0, []), (12, .iload_n 1, 1, 0, 0, [])]),
  (26, [(13, .iconst 1, 1, 0, 0, []), (14, .iadd, 1, 0, 0, []), (15, .aload_n 0, 1, 0, 0, []), (16, .getfield 53, 3, 11, 1, [217]), (19, .irem, 1, 0, 0, []), (20, .ifCond .ne 12, 3, 0, 0, []), (23, .iload 4, 2, 0, 0, []), (25, .aload_n 0, 1, 0, 0, [])]),
  (43, [(26, .getfield 56, 3, 11, 2, [219]), (29, .iadd, 1, 0, 0, []), (30, .istore 4, 2, 0, 0, []), (32, .iconst 0, 1, 0, 0, []), (33, .bipush 99, 2, 0, 0, []), (35, .iload 4, 2, 0, 0, []), (37, .invokestatic 101, 3, 0, 100001, [1032]), (40, .invokestatic 107, 3, 0, 100000, [1033])]),
  (44, [(43, .ireturn, 1, 0, 0, [])])]
theorem C_110_ok : codOk q_110.1.cls q_110.2.1 C_110 := codB_ok (by decide +kernel)
theorem h_110 : mQ 110 q_110 C_110 := ⟨mq_110, by decide +kernel, by decide, C_110_ok⟩
def C_111 : eCode := [(14, [(0, .aload_n 0, 1, 0, 0, []), (1, .iload_n 2, 1, 0, 0, []), (2, .invokevirtual 99, 3, 5001, 94, [963, 964, 965, 130]), (5, .istore_n 3, 1, 0, 0, []), (6, .aload_n 0, 1, 0, 0, []), (7, .getfield 29, 3, 5, 0, [326]), (10, .getfield 148, 3, 11, 14, [261]), (13, .iload_n 2, 1, 0, 0, [])]),
  (27, [(14, .iaload, 1, 0, 0, []), (15, .istore 4, 2, 0, 0, []), (17, .iload_n 3, 1, 0, 0, []), (18, .aload_n 0, 1, 0, 0, []), (19, .getfield 29, 3, 5, 0, [326]), (22, .getfield 102, 3, 11, 16, [266]), (25, .iload_n 1, 1, 0, 0, []), (26, .iaload, 1, 0, 0, [])]),
  (42, [(27, .if_icmp .gt 18, 3, 0, 0, []), (30, .iload_n 3, 1, 0, 0, []), (31, .ifCond .ne 20, 3, 0, 0, []), (34, .aload_n 0, 1, 0, 0, []), (35, .getfield 20, 3, 5, 7, [350]), (38, .iload_n 1, 1, 0, 0, []), (39, .iaload, 1, 0, 0, []), (40, .iload 4, 2, 0, 0, [])]),
  (56, [(42, .if_icmp .ge 9, 3, 0, 0, []), (45, .aload_n 0, 1, 0, 0, []), (46, .iload_n 1, 1, 0, 0, []), (47, .invokevirtual 151, 3, 5001, 102, [1038, 995, 996, 130]), (50, .return_, 1, 0, 0, []), (51, .iload_n 3, 1, 0, 0, []), (52, .ifCond .le 16, 3, 0, 0, []), (55, .aload_n 0, 1, 0, 0, [])]),
  (68, [(56, .getfield 23, 3, 5, 8, [352]), (59, .iload_n 1, 1, 0, 0, []), (60, .dup2, 1, 0, 0, []), (61, .iaload, 1, 0, 0, []), (62, .iconst 1, 1, 0, 0, []), (63, .iadd, 1, 0, 0, []), (64, .iastore, 1, 0, 0, []), (65, .goto 25, 3, 0, 0, [])]),
  (79, [(68, .aload_n 0, 1, 0, 0, []), (69, .getfield 20, 3, 5, 7, [350]), (72, .iload_n 1, 1, 0, 0, []), (73, .dup2, 1, 0, 0, []), (74, .iaload, 1, 0, 0, []), (75, .iload 4, 2, 0, 0, []), (77, .isub, 1, 0, 0, []), (78, .iastore, 1, 0, 0, [])]),
  (90, [(79, .aload_n 0, 1, 0, 0, []), (80, .getfield 26, 3, 5, 9, [354]), (83, .iload_n 2, 1, 0, 0, []), (84, .dup2, 1, 0, 0, []), (85, .iaload, 1, 0, 0, []), (86, .iload 4, 2, 0, 0, []), (88, .iadd, 1, 0, 0, []), (89, .iastore, 1, 0, 0, [])]),
  (100, [(90, .aload_n 0, 1, 0, 0, []), (91, .getfield 17, 3, 5, 6, [348]), (94, .iload_n 1, 1, 0, 0, []), (95, .dup2, 1, 0, 0, []), (96, .iaload, 1, 0, 0, []), (97, .iconst 1, 1, 0, 0, []), (98, .isub, 1, 0, 0, []), (99, .iastore, 1, 0, 0, [])]),
  (114, [(100, .aload_n 0, 1, 0, 0, []), (101, .getfield 17, 3, 5, 6, [348]), (104, .iload_n 1, 1, 0, 0, []), (105, .iaload, 1, 0, 0, []), (106, .ifCond .gt 8, 3, 0, 0, []), (109, .aload_n 0, 1, 0, 0, []), (110, .iload_n 1, 1, 0, 0, []), (111, .invokevirtual 151, 3, 5001, 102, [1038, 995, 996, 130])]),
  (115, [(114, .return_, 1, 0, 0, [])])]
theorem C_111_ok : codOk q_111.1.cls q_111.2.1 C_111 := codB_ok (by decide +kernel)
theorem h_111 : mQ 111 q_111 C_111 := ⟨mq_111, by decide +kernel, by decide, C_111_ok⟩
def C_112 : eCode := [(12, [(0, .aload_n 0, 1, 0, 0, []), (1, .getfield 41, 3, 12, 5, [613]), (4, .aload_n 0, 1, 0, 0, []), (5, .getfield 31, 3, 12, 3, [611]), (8, .invokevirtual 253, 3, 3001, 113, [1043, 1044, 1045, 131]), (11, .ireturn, 1, 0, 0, [])])]
theorem C_112_ok : codOk q_112.1.cls q_112.2.1 C_112 := codB_ok (by decide +kernel)
theorem h_112 : mQ 112 q_112 C_112 := ⟨mq_112, by decide +kernel, by decide, C_112_ok⟩
def C_113 : eCode := [(14, [(0, .aload_n 0, 1, 0, 0, []), (1, .getfield 28, 3, 3, 2, [391]), (4, .ifCond .ne 5, 3, 0, 0, []), (7, .iconst (-1), 1, 0, 0, []), (8, .ireturn, 1, 0, 0, []), (9, .aload_n 0, 1, 0, 0, []), (10, .aload_n 0, 1, 0, 0, []), (11, .getfield 20, 3, 3, 1, [390])]),
  (26, [(14, .bipush 8, 2, 0, 0, []), (16, .iadd, 1, 0, 0, []), (17, .iconst 1, 1, 0, 0, []), (18, .isub, 1, 0, 0, []), (19, .bipush 8, 2, 0, 0, []), (21, .irem, 1, 0, 0, []), (22, .putfield 20, 3, 3, 1, [390]), (25, .aload_n 0, 1, 0, 0, [])]),
  (40, [(26, .dup, 1, 0, 0, []), (27, .getfield 28, 3, 3, 2, [391]), (30, .iconst 1, 1, 0, 0, []), (31, .isub, 1, 0, 0, []), (32, .putfield 28, 3, 3, 2, [391]), (35, .aload_n 1, 1, 0, 0, []), (36, .aload_n 0, 1, 0, 0, []), (37, .getfield 13, 3, 3, 0, [389])]),
  (53, [(40, .aload_n 0, 1, 0, 0, []), (41, .getfield 20, 3, 3, 1, [390]), (44, .aaload, 1, 0, 0, []), (45, .invokevirtual 24, 3, 5001, 97, [974, 975, 976, 130]), (48, .aload_n 0, 1, 0, 0, []), (49, .getfield 28, 3, 3, 2, [391]), (52, .ireturn, 1, 0, 0, [])])]
theorem C_113_ok : codOk q_113.1.cls q_113.2.1 C_113 := codB_ok (by decide +kernel)
theorem h_113 : mQ 113 q_113 C_113 := ⟨mq_113, by decide +kernel, by decide, C_113_ok⟩
def C_132 : eCode := [(18, [(0, .aload_n 0, 1, 0, 0, []), (1, .getfield 79, 3, 12, 11, [619]), (4, .aload_n 0, 1, 0, 0, []), (5, .getfield 19, 3, 12, 1, [609]), (8, .aload_n 0, 1, 0, 0, []), (9, .getfield 31, 3, 12, 3, [611]), (12, .invokevirtual 278, 3, 5000, 133, [1135, 1136, 1137, 130]), (15, .invokevirtual 281, 3, 1002, 134, [1139, 1140, 1141, 136])]),
  (19, [(18, .ireturn, 1, 0, 0, [])])]
theorem C_132_ok : codOk q_132.1.cls q_132.2.1 C_132 := codB_ok (by decide +kernel)
theorem h_132 : mQ 132 q_132 C_132 := ⟨mq_132, by decide +kernel, by decide, C_132_ok⟩
def C_133 : eCode := [(12, [(0, .iconst 0, 1, 0, 0, []), (1, .istore_n 1, 1, 0, 0, []), (2, .iconst 0, 1, 0, 0, []), (3, .istore_n 2, 1, 0, 0, []), (4, .iload_n 2, 1, 0, 0, []), (5, .aload_n 0, 1, 0, 0, []), (6, .getfield 29, 3, 5, 0, [326]), (9, .getfield 84, 3, 11, 7, [239])]),
  (26, [(12, .if_icmp .ge 38, 3, 0, 0, []), (15, .aload_n 0, 1, 0, 0, []), (16, .getfield 11, 3, 5, 5, [346]), (19, .iload_n 2, 1, 0, 0, []), (20, .iaload, 1, 0, 0, []), (21, .iconst (-1), 1, 0, 0, []), (22, .if_icmp .eq 22, 3, 0, 0, []), (25, .iload_n 1, 1, 0, 0, [])]),
  (40, [(26, .iconst 1, 1, 0, 0, []), (27, .aload_n 0, 1, 0, 0, []), (28, .getfield 29, 3, 5, 0, [326]), (31, .getfield 90, 3, 11, 12, [250]), (34, .aload_n 0, 1, 0, 0, []), (35, .getfield 11, 3, 5, 5, [346]), (38, .iload_n 2, 1, 0, 0, []), (39, .iaload, 1, 0, 0, [])]),
  (52, [(40, .iaload, 1, 0, 0, []), (41, .ishl, 1, 0, 0, []), (42, .ior, 1, 0, 0, []), (43, .istore_n 1, 1, 0, 0, []), (44, .iinc 2 1, 3, 0, 0, []), (47, .goto (-43), 3, 0, 0, []), (50, .iload_n 1, 1, 0, 0, []), (51, .ireturn, 1, 0, 0, [])])]
theorem C_133_ok : codOk q_133.1.cls q_133.2.1 C_133 := codB_ok (by decide +kernel)
theorem h_133 : mQ 133 q_133 C_133 := ⟨mq_133, by decide +kernel, by decide, C_133_ok⟩
def C_134 : eCode := [(16, [(0, .aload_n 0, 1, 0, 0, []), (1, .iload_n 2, 1, 0, 0, []), (2, .invokestatic 20, 3, 1, 135, [1143, 1144, 153]), (5, .putfield 26, 3, 1, 2, [520]), (8, .aload_n 0, 1, 0, 0, []), (9, .sipush 1000, 3, 0, 0, []), (12, .putfield 30, 3, 1, 3, [521]), (15, .aload_n 0, 1, 0, 0, [])]),
  (28, [(16, .aload_n 1, 1, 0, 0, []), (17, .iload_n 2, 1, 0, 0, []), (18, .iconst 0, 1, 0, 0, []), (19, .iconst (-1), 1, 0, 0, []), (20, .iconst 0, 1, 0, 0, []), (21, .invokevirtual 33, 3, 1005, 136, [1149, 1151, 27, 136]), (24, .aload_n 0, 1, 0, 0, []), (25, .getfield 30, 3, 1, 3, [521])]),
  (29, [(28, .ireturn, 1, 0, 0, [])])]
theorem C_134_ok : codOk q_134.1.cls q_134.2.1 C_134 := codB_ok (by decide +kernel)
theorem h_134 : mQ 134 q_134 C_134 := ⟨mq_134, by decide +kernel, by decide, C_134_ok⟩
def C_135 : eCode := [(10, [(0, .iload_n 0, 1, 0, 0, []), (1, .iload_n 0, 1, 0, 0, []), (2, .iconst 1, 1, 0, 0, []), (3, .iushr, 1, 0, 0, []), (4, .ldc_w 265, 3, 1431655765, 0, [1146]), (7, .iand, 1, 0, 0, []), (8, .isub, 1, 0, 0, []), (9, .istore_n 0, 1, 0, 0, [])]),
  (22, [(10, .iload_n 0, 1, 0, 0, []), (11, .ldc_w 266, 3, 858993459, 0, [1147]), (14, .iand, 1, 0, 0, []), (15, .iload_n 0, 1, 0, 0, []), (16, .iconst 2, 1, 0, 0, []), (17, .iushr, 1, 0, 0, []), (18, .ldc_w 266, 3, 858993459, 0, [1147]), (21, .iand, 1, 0, 0, [])]),
  (32, [(22, .iadd, 1, 0, 0, []), (23, .istore_n 0, 1, 0, 0, []), (24, .iload_n 0, 1, 0, 0, []), (25, .iload_n 0, 1, 0, 0, []), (26, .iconst 4, 1, 0, 0, []), (27, .iushr, 1, 0, 0, []), (28, .iadd, 1, 0, 0, []), (29, .ldc_w 267, 3, 252645135, 0, [1148])]),
  (41, [(32, .iand, 1, 0, 0, []), (33, .istore_n 0, 1, 0, 0, []), (34, .iload_n 0, 1, 0, 0, []), (35, .iload_n 0, 1, 0, 0, []), (36, .bipush 8, 2, 0, 0, []), (38, .iushr, 1, 0, 0, []), (39, .iadd, 1, 0, 0, []), (40, .istore_n 0, 1, 0, 0, [])]),
  (51, [(41, .iload_n 0, 1, 0, 0, []), (42, .iload_n 0, 1, 0, 0, []), (43, .bipush 16, 2, 0, 0, []), (45, .iushr, 1, 0, 0, []), (46, .iadd, 1, 0, 0, []), (47, .istore_n 0, 1, 0, 0, []), (48, .iload_n 0, 1, 0, 0, []), (49, .bipush 63, 2, 0, 0, [])]),
  (53, [(51, .iand, 1, 0, 0, []), (52, .ireturn, 1, 0, 0, [])])]
theorem C_135_ok : codOk q_135.1.cls q_135.2.1 C_135 := codB_ok (by decide +kernel)
theorem h_135 : mQ 135 q_135 C_135 := ⟨mq_135, by decide +kernel, by decide, C_135_ok⟩
def C_136 : eCode := [(14, [(0, .iload_n 3, 1, 0, 0, []), (1, .aload_n 0, 1, 0, 0, []), (2, .getfield 26, 3, 1, 2, [520]), (5, .if_icmp .lt 48, 3, 0, 0, []), (8, .iload 5, 2, 0, 0, []), (10, .aload_n 1, 1, 0, 0, []), (11, .iload 4, 2, 0, 0, []), (13, .iconst (-1), 1, 0, 0, [])]),
  (30, [(14, .invokestatic 37, 3, 3, 137, [1153, 1154, 136]), (17, .iadd, 1, 0, 0, []), (18, .istore 6, 2, 0, 0, []), (20, .iload 6, 2, 0, 0, []), (22, .aload_n 0, 1, 0, 0, []), (23, .getfield 30, 3, 1, 3, [521]), (26, .if_icmp .ge 26, 3, 0, 0, []), (29, .aload_n 0, 1, 0, 0, [])]),
  (45, [(30, .iload 6, 2, 0, 0, []), (32, .putfield 30, 3, 1, 3, [521]), (35, .aload_n 0, 1, 0, 0, []), (36, .getfield 11, 3, 1, 0, [518]), (39, .iconst 0, 1, 0, 0, []), (40, .aload_n 0, 1, 0, 0, []), (41, .getfield 17, 3, 1, 1, [519]), (44, .iconst 0, 1, 0, 0, [])]),
  (59, [(45, .aload_n 0, 1, 0, 0, []), (46, .getfield 26, 3, 1, 2, [520]), (49, .invokestatic 41, 3, 0, 100003, [1165]), (52, .return_, 1, 0, 0, []), (53, .iconst 0, 1, 0, 0, []), (54, .istore 6, 2, 0, 0, []), (56, .iload 6, 2, 0, 0, []), (58, .aload_n 1, 1, 0, 0, [])]),
  (72, [(59, .getfield 47, 3, 11, 5, [229]), (62, .if_icmp .ge 56, 3, 0, 0, []), (65, .iload_n 2, 1, 0, 0, []), (66, .iload 6, 2, 0, 0, []), (68, .ishr, 1, 0, 0, []), (69, .iconst 1, 1, 0, 0, []), (70, .iand, 1, 0, 0, []), (71, .iconst 1, 1, 0, 0, [])]),
  (85, [(72, .if_icmp .ne 40, 3, 0, 0, []), (75, .aload_n 0, 1, 0, 0, []), (76, .getfield 11, 3, 1, 0, [518]), (79, .iload_n 3, 1, 0, 0, []), (80, .iload 6, 2, 0, 0, []), (82, .iastore, 1, 0, 0, []), (83, .aload_n 0, 1, 0, 0, []), (84, .aload_n 1, 1, 0, 0, [])]),
  (94, [(85, .iload_n 2, 1, 0, 0, []), (86, .iconst 1, 1, 0, 0, []), (87, .iload 6, 2, 0, 0, []), (89, .ishl, 1, 0, 0, []), (90, .iconst (-1), 1, 0, 0, []), (91, .ixor, 1, 0, 0, []), (92, .iand, 1, 0, 0, []), (93, .iload_n 3, 1, 0, 0, [])]),
  (108, [(94, .iconst 1, 1, 0, 0, []), (95, .iadd, 1, 0, 0, []), (96, .iload 6, 2, 0, 0, []), (98, .iload 5, 2, 0, 0, []), (100, .aload_n 1, 1, 0, 0, []), (101, .iload 4, 2, 0, 0, []), (103, .iload 6, 2, 0, 0, []), (105, .invokestatic 37, 3, 3, 137, [1153, 1154, 136])]),
  (119, [(108, .iadd, 1, 0, 0, []), (109, .invokevirtual 33, 3, 1005, 136, [1149, 1151, 27, 136]), (112, .iinc 6 1, 3, 0, 0, []), (115, .goto (-59), 3, 0, 0, []), (118, .return_, 1, 0, 0, [])])]
theorem C_136_ok : codOk q_136.1.cls q_136.2.1 C_136 := codB_ok (by decide +kernel)
theorem h_136 : mQ 136 q_136 C_136 := ⟨mq_136, by decide +kernel, by decide, C_136_ok⟩
def C_137 : eCode := [(14, [(0, .aload_n 0, 1, 0, 0, []), (1, .iload_n 1, 1, 0, 0, []), (2, .invokestatic 48, 3, 2, 138, [1156, 1157, 136]), (5, .aload_n 0, 1, 0, 0, []), (6, .iload_n 2, 1, 0, 0, []), (7, .invokestatic 48, 3, 2, 138, [1156, 1157, 136]), (10, .isub, 1, 0, 0, []), (11, .invokestatic 52, 3, 0, 100002, [1159])]),
  (28, [(14, .aload_n 0, 1, 0, 0, []), (15, .iload_n 1, 1, 0, 0, []), (16, .invokestatic 57, 3, 2, 140, [1162, 1163, 136]), (19, .aload_n 0, 1, 0, 0, []), (20, .iload_n 2, 1, 0, 0, []), (21, .invokestatic 57, 3, 2, 140, [1162, 1163, 136]), (24, .isub, 1, 0, 0, []), (25, .invokestatic 52, 3, 0, 100002, [1159])]),
  (30, [(28, .iadd, 1, 0, 0, []), (29, .ireturn, 1, 0, 0, [])])]
theorem C_137_ok : codOk q_137.1.cls q_137.2.1 C_137 := codB_ok (by decide +kernel)
theorem h_137 : mQ 137 q_137 C_137 := ⟨mq_137, by decide +kernel, by decide, C_137_ok⟩
def C_138 : eCode := [(14, [(0, .iload_n 1, 1, 0, 0, []), (1, .iconst (-1), 1, 0, 0, []), (2, .if_icmp .ne 7, 3, 0, 0, []), (5, .iconst 0, 1, 0, 0, []), (6, .goto 9, 3, 0, 0, []), (9, .aload_n 0, 1, 0, 0, []), (10, .getfield 60, 3, 11, 10, [245]), (13, .iload_n 1, 1, 0, 0, [])]),
  (16, [(14, .iaload, 1, 0, 0, []), (15, .ireturn, 1, 0, 0, [])])]
theorem C_138_ok : codOk q_138.1.cls q_138.2.1 C_138 := codB_ok (by decide +kernel)
theorem h_138 : mQ 138 q_138 C_138 := ⟨mq_138, by decide +kernel, by decide, C_138_ok⟩
def C_140 : eCode := [(14, [(0, .iload_n 1, 1, 0, 0, []), (1, .iconst (-1), 1, 0, 0, []), (2, .if_icmp .ne 7, 3, 0, 0, []), (5, .iconst 0, 1, 0, 0, []), (6, .goto 9, 3, 0, 0, []), (9, .aload_n 0, 1, 0, 0, []), (10, .getfield 63, 3, 11, 11, [247]), (13, .iload_n 1, 1, 0, 0, [])]),
  (16, [(14, .iaload, 1, 0, 0, []), (15, .ireturn, 1, 0, 0, [])])]
theorem C_140_ok : codOk q_140.1.cls q_140.2.1 C_140 := codB_ok (by decide +kernel)
theorem h_140 : mQ 140 q_140 C_140 := ⟨mq_140, by decide +kernel, by decide, C_140_ok⟩
def C_141 : eCode := [(9, [(0, .aload_n 0, 1, 0, 0, []), (1, .getfield 79, 3, 12, 11, [619]), (4, .iload_n 1, 1, 0, 0, []), (5, .invokevirtual 284, 3, 1001, 142, [1170, 1171, 1172, 136]), (8, .ireturn, 1, 0, 0, [])])]
theorem C_141_ok : codOk q_141.1.cls q_141.2.1 C_141 := codB_ok (by decide +kernel)
theorem h_141 : mQ 141 q_141 C_141 := ⟨mq_141, by decide +kernel, by decide, C_141_ok⟩
def C_142 : eCode := [(16, [(0, .iload_n 1, 1, 0, 0, []), (1, .ifCond .lt 20, 3, 0, 0, []), (4, .iload_n 1, 1, 0, 0, []), (5, .aload_n 0, 1, 0, 0, []), (6, .getfield 26, 3, 1, 2, [520]), (9, .if_icmp .ge 12, 3, 0, 0, []), (12, .aload_n 0, 1, 0, 0, []), (13, .getfield 17, 3, 1, 1, [519])]),
  (23, [(16, .iload_n 1, 1, 0, 0, []), (17, .iaload, 1, 0, 0, []), (18, .goto 4, 3, 0, 0, []), (21, .iconst (-1), 1, 0, 0, []), (22, .ireturn, 1, 0, 0, [])])]
theorem C_142_ok : codOk q_142.1.cls q_142.2.1 C_142 := codB_ok (by decide +kernel)
theorem h_142 : mQ 142 q_142 C_142 := ⟨mq_142, by decide +kernel, by decide, C_142_ok⟩
def C_230 : eCode := [(16, [(0, .aload_n 0, 1, 0, 0, []), (1, .aload_n 1, 1, 0, 0, []), (2, .getfield 28, 3, 8, 0, [405]), (5, .putfield 28, 3, 8, 0, [405]), (8, .aload_n 0, 1, 0, 0, []), (9, .aload_n 1, 1, 0, 0, []), (10, .getfield 24, 3, 8, 1, [407]), (13, .putfield 24, 3, 8, 1, [407])]),
  (31, [(16, .aload_n 1, 1, 0, 0, []), (17, .getfield 11, 3, 8, 2, [408]), (20, .iconst 0, 1, 0, 0, []), (21, .aload_n 0, 1, 0, 0, []), (22, .getfield 11, 3, 8, 2, [408]), (25, .iconst 0, 1, 0, 0, []), (26, .bipush 40, 2, 0, 0, []), (28, .invokestatic 31, 3, 0, 100003, [1565])]),
  (46, [(31, .aload_n 1, 1, 0, 0, []), (32, .getfield 15, 3, 8, 3, [409]), (35, .iconst 0, 1, 0, 0, []), (36, .aload_n 0, 1, 0, 0, []), (37, .getfield 15, 3, 8, 3, [409]), (40, .iconst 0, 1, 0, 0, []), (41, .bipush 40, 2, 0, 0, []), (43, .invokestatic 31, 3, 0, 100003, [1565])]),
  (61, [(46, .aload_n 1, 1, 0, 0, []), (47, .getfield 18, 3, 8, 4, [410]), (50, .iconst 0, 1, 0, 0, []), (51, .aload_n 0, 1, 0, 0, []), (52, .getfield 18, 3, 8, 4, [410]), (55, .iconst 0, 1, 0, 0, []), (56, .bipush 40, 2, 0, 0, []), (58, .invokestatic 31, 3, 0, 100003, [1565])]),
  (62, [(61, .return_, 1, 0, 0, [])])]
theorem C_230_ok : codOk q_230.1.cls q_230.2.1 C_230 := codB_ok (by decide +kernel)
theorem h_230 : mQ 230 q_230 C_230 := ⟨mq_230, by decide +kernel, by decide, C_230_ok⟩
def C_239 : eCode := [(12, [(0, .iload_n 1, 1, 0, 0, []), (1, .iconst 0, 1, 0, 0, []), (2, .iconst 1, 1, 0, 0, []), (3, .invokestatic 222, 3, 3, 53, [954, 796, 127]), (6, .ifCond .ne 5, 3, 0, 0, []), (9, .iconst 0, 1, 0, 0, []), (10, .ireturn, 1, 0, 0, []), (11, .aload_n 0, 1, 0, 0, [])]),
  (26, [(12, .getfield 92, 3, 12, 13, [621]), (15, .iload_n 1, 1, 0, 0, []), (16, .aaload, 1, 0, 0, []), (17, .aload_n 0, 1, 0, 0, []), (18, .getfield 19, 3, 12, 1, [609]), (21, .aload_n 0, 1, 0, 0, []), (22, .getfield 31, 3, 12, 3, [611]), (25, .aload_n 0, 1, 0, 0, [])]),
  (34, [(26, .getfield 48, 3, 12, 6, [614]), (29, .invokevirtual 376, 3, 4003, 240, [1607, 1608, 1609, 138]), (32, .iconst 1, 1, 0, 0, []), (33, .ireturn, 1, 0, 0, [])])]
theorem C_239_ok : codOk q_239.1.cls q_239.2.1 C_239 := codB_ok (by decide +kernel)
theorem h_239 : mQ 239 q_239 C_239 := ⟨mq_239, by decide +kernel, by decide, C_239_ok⟩
def C_240 : eCode := [(16, [(0, .aload_n 0, 1, 0, 0, []), (1, .getfield 10, 3, 4, 0, [563]), (4, .aload_n 1, 1, 0, 0, []), (5, .invokevirtual 32, 3, 11001, 78, [1611, 895, 896, 129]), (8, .aload_n 0, 1, 0, 0, []), (9, .getfield 21, 3, 4, 1, [564]), (12, .aload_n 2, 1, 0, 0, []), (13, .invokevirtual 35, 3, 5001, 97, [1612, 975, 976, 130])]),
  (30, [(16, .aload_n 0, 1, 0, 0, []), (17, .getfield 28, 3, 4, 2, [565]), (20, .aload_n 3, 1, 0, 0, []), (21, .invokevirtual 38, 3, 8001, 230, [1613, 1562, 1563, 132]), (24, .aload_n 0, 1, 0, 0, []), (25, .iconst 1, 1, 0, 0, []), (26, .putfield 41, 3, 4, 3, [566]), (29, .return_, 1, 0, 0, [])])]
theorem C_240_ok : codOk q_240.1.cls q_240.2.1 C_240 := codB_ok (by decide +kernel)
theorem h_240 : mQ 240 q_240 C_240 := ⟨mq_240, by decide +kernel, by decide, C_240_ok⟩
def C_241 : eCode := [(14, [(0, .iload_n 1, 1, 0, 0, []), (1, .iconst 0, 1, 0, 0, []), (2, .iconst 1, 1, 0, 0, []), (3, .invokestatic 222, 3, 3, 53, [954, 796, 127]), (6, .ifCond .eq 15, 3, 0, 0, []), (9, .aload_n 0, 1, 0, 0, []), (10, .getfield 92, 3, 12, 13, [621]), (13, .iload_n 1, 1, 0, 0, [])]),
  (28, [(14, .aaload, 1, 0, 0, []), (15, .getfield 379, 3, 4, 3, [567]), (18, .ifCond .ne 5, 3, 0, 0, []), (21, .iconst 0, 1, 0, 0, []), (22, .ireturn, 1, 0, 0, []), (23, .aload_n 0, 1, 0, 0, []), (24, .getfield 92, 3, 12, 13, [621]), (27, .iload_n 1, 1, 0, 0, [])]),
  (44, [(28, .aaload, 1, 0, 0, []), (29, .aload_n 0, 1, 0, 0, []), (30, .getfield 19, 3, 12, 1, [609]), (33, .aload_n 0, 1, 0, 0, []), (34, .getfield 31, 3, 12, 3, [611]), (37, .aload_n 0, 1, 0, 0, []), (38, .getfield 48, 3, 12, 6, [614]), (41, .invokevirtual 383, 3, 4003, 242, [1618, 1619, 1620, 138])]),
  (53, [(44, .aload_n 0, 1, 0, 0, []), (45, .getfield 41, 3, 12, 5, [613]), (48, .invokevirtual 143, 3, 3000, 80, [906, 907, 908, 131]), (51, .iconst 1, 1, 0, 0, []), (52, .ireturn, 1, 0, 0, [])])]
theorem C_241_ok : codOk q_241.1.cls q_241.2.1 C_241 := codB_ok (by decide +kernel)
theorem h_241 : mQ 241 q_241 C_241 := ⟨mq_241, by decide +kernel, by decide, C_241_ok⟩
def C_242 : eCode := [(16, [(0, .aload_n 1, 1, 0, 0, []), (1, .aload_n 0, 1, 0, 0, []), (2, .getfield 10, 3, 4, 0, [563]), (5, .invokevirtual 32, 3, 11001, 78, [1611, 895, 896, 129]), (8, .aload_n 2, 1, 0, 0, []), (9, .aload_n 0, 1, 0, 0, []), (10, .getfield 21, 3, 4, 1, [564]), (13, .invokevirtual 35, 3, 5001, 97, [1612, 975, 976, 130])]),
  (25, [(16, .aload_n 3, 1, 0, 0, []), (17, .aload_n 0, 1, 0, 0, []), (18, .getfield 28, 3, 4, 2, [565]), (21, .invokevirtual 38, 3, 8001, 230, [1613, 1562, 1563, 132]), (24, .return_, 1, 0, 0, [])])]
theorem C_242_ok : codOk q_242.1.cls q_242.2.1 C_242 := codB_ok (by decide +kernel)
theorem h_242 : mQ 242 q_242 C_242 := ⟨mq_242, by decide +kernel, by decide, C_242_ok⟩
