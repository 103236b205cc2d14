/-! rows of code -/
noncomputable def C_121 : eCode := [(12, [(0, .iconst 0, 1, 0, 0, []), (1, .istore_n 2, 1, 0, 0, []), (2, .iconst 0, 1, 0, 0, []), (3, .istore_n 3, 1, 0, 0, []), (4, .iload_n 3, 1, 0, 0, []), (5, .aload_n 0, 1, 0, 0, []), (6, .getfield 47, 3, 9, 5, [473]), (9, .if_icmp .ge 81, 3, 0, 0, [])]),
  (24, [(12, .aload_n 0, 1, 0, 0, []), (13, .getfield 11, 3, 9, 0, [468]), (16, .iload_n 3, 1, 0, 0, []), (17, .iaload, 1, 0, 0, []), (18, .aload_n 0, 1, 0, 0, []), (19, .getfield 15, 3, 9, 1, [469]), (22, .iload_n 3, 1, 0, 0, []), (23, .iaload, 1, 0, 0, [])]),
  (39, [(24, .iadd, 1, 0, 0, []), (25, .aload_n 1, 1, 0, 0, []), (26, .invokevirtual 70, 3, 5000, 106, [1082, 1011, 1012, 130]), (29, .if_icmp .gt 7, 3, 0, 0, []), (32, .iconst 1, 1, 0, 0, []), (33, .goto 4, 3, 0, 0, []), (36, .iconst 0, 1, 0, 0, []), (37, .istore 4, 2, 0, 0, [])]),
  (56, [(39, .aload_n 0, 1, 0, 0, []), (40, .getfield 18, 3, 9, 2, [470]), (43, .iload_n 3, 1, 0, 0, []), (44, .iload 4, 2, 0, 0, []), (46, .ifCond .eq 13, 3, 0, 0, []), (49, .aload_n 1, 1, 0, 0, []), (50, .getfield 57, 3, 5, 0, [327]), (53, .invokevirtual 73, 3, 11000, 84, [1083, 923, 924, 129])]),
  (71, [(56, .goto 4, 3, 0, 0, []), (59, .iconst 0, 1, 0, 0, []), (60, .iastore, 1, 0, 0, []), (61, .iload 4, 2, 0, 0, []), (63, .ifCond .eq 21, 3, 0, 0, []), (66, .iload_n 2, 1, 0, 0, []), (67, .aload_n 0, 1, 0, 0, []), (68, .getfield 11, 3, 9, 0, [468])]),
  (83, [(71, .iload_n 3, 1, 0, 0, []), (72, .iaload, 1, 0, 0, []), (73, .aload_n 0, 1, 0, 0, []), (74, .getfield 15, 3, 9, 1, [469]), (77, .iload_n 3, 1, 0, 0, []), (78, .iaload, 1, 0, 0, []), (79, .iadd, 1, 0, 0, []), (80, .invokestatic 76, 3, 0, 100000, [1084])]),
  (98, [(83, .istore_n 2, 1, 0, 0, []), (84, .iinc 3 1, 3, 0, 0, []), (87, .goto (-83), 3, 0, 0, []), (90, .aload_n 1, 1, 0, 0, []), (91, .getfield 82, 3, 5, 2, [338]), (94, .istore_n 3, 1, 0, 0, []), (95, .iconst 0, 1, 0, 0, []), (96, .istore 4, 2, 0, 0, [])]),
  (114, [(98, .iload 4, 2, 0, 0, []), (100, .iload_n 2, 1, 0, 0, []), (101, .if_icmp .ge 101, 3, 0, 0, []), (104, .aload_n 1, 1, 0, 0, []), (105, .getfield 57, 3, 5, 0, [327]), (108, .aload_n 1, 1, 0, 0, []), (109, .getfield 85, 3, 5, 1, [333]), (112, .iload 4, 2, 0, 0, [])]),
  (128, [(114, .iadd, 1, 0, 0, []), (115, .iload_n 3, 1, 0, 0, []), (116, .aload_n 1, 1, 0, 0, []), (117, .getfield 88, 3, 5, 3, [341]), (120, .invokevirtual 91, 3, 11003, 110, [1085, 1029, 1030, 129]), (123, .istore_n 3, 1, 0, 0, []), (124, .aload_n 1, 1, 0, 0, []), (125, .getfield 57, 3, 5, 0, [327])]),
  (143, [(128, .iload_n 3, 1, 0, 0, []), (129, .invokevirtual 95, 3, 11001, 85, [1086, 927, 928, 129]), (132, .istore 5, 2, 0, 0, []), (134, .iconst 0, 1, 0, 0, []), (135, .istore 6, 2, 0, 0, []), (137, .iload 6, 2, 0, 0, []), (139, .aload_n 0, 1, 0, 0, []), (140, .getfield 47, 3, 9, 5, [473])]),
  (160, [(143, .if_icmp .ge 53, 3, 0, 0, []), (146, .iload 4, 2, 0, 0, []), (148, .aload_n 0, 1, 0, 0, []), (149, .getfield 11, 3, 9, 0, [468]), (152, .iload 6, 2, 0, 0, []), (154, .iaload, 1, 0, 0, []), (155, .if_icmp .lt 35, 3, 0, 0, []), (158, .iload 4, 2, 0, 0, [])]),
  (174, [(160, .aload_n 0, 1, 0, 0, []), (161, .getfield 11, 3, 9, 0, [468]), (164, .iload 6, 2, 0, 0, []), (166, .iaload, 1, 0, 0, []), (167, .aload_n 0, 1, 0, 0, []), (168, .getfield 15, 3, 9, 1, [469]), (171, .iload 6, 2, 0, 0, []), (173, .iaload, 1, 0, 0, [])]),
  (188, [(174, .iadd, 1, 0, 0, []), (175, .if_icmp .ge 15, 3, 0, 0, []), (178, .aload_n 0, 1, 0, 0, []), (179, .getfield 18, 3, 9, 2, [470]), (182, .iload 6, 2, 0, 0, []), (184, .dup2, 1, 0, 0, []), (185, .iaload, 1, 0, 0, []), (186, .iload 5, 2, 0, 0, [])]),
  (203, [(188, .iand, 1, 0, 0, []), (189, .iastore, 1, 0, 0, []), (190, .iinc 6 1, 3, 0, 0, []), (193, .goto (-56), 3, 0, 0, []), (196, .iinc 4 1, 3, 0, 0, []), (199, .goto (-101), 3, 0, 0, []), (202, .return_, 1, 0, 0, [])])]
theorem C_121_ok : codOk q_121.1.cls q_121.2.1 C_121 := codB_ok (by decide +kernel)
theorem h_121 : mQ 121 q_121 C_121 := ⟨mq_121, by decide +kernel, by decide, C_121_ok⟩
noncomputable def C_122 : eCode := [(12, [(0, .iload_n 2, 1, 0, 0, []), (1, .aload_n 0, 1, 0, 0, []), (2, .getfield 47, 3, 9, 5, [473]), (5, .iadd, 1, 0, 0, []), (6, .iload_n 1, 1, 0, 0, []), (7, .isub, 1, 0, 0, []), (8, .aload_n 0, 1, 0, 0, []), (9, .getfield 54, 3, 9, 6, [474])]),
  (26, [(12, .if_icmp .gt 4, 3, 0, 0, []), (15, .return_, 1, 0, 0, []), (16, .iload_n 1, 1, 0, 0, []), (17, .aload_n 0, 1, 0, 0, []), (18, .getfield 47, 3, 9, 5, [473]), (21, .if_icmp .lt 26, 3, 0, 0, []), (24, .aload_n 0, 1, 0, 0, []), (25, .iload_n 2, 1, 0, 0, [])]),
  (40, [(26, .putfield 54, 3, 9, 6, [474]), (29, .aload_n 0, 1, 0, 0, []), (30, .getfield 21, 3, 9, 3, [471]), (33, .iconst 0, 1, 0, 0, []), (34, .aload_n 0, 1, 0, 0, []), (35, .getfield 24, 3, 9, 4, [472]), (38, .iconst 0, 1, 0, 0, []), (39, .aload_n 0, 1, 0, 0, [])]),
  (56, [(40, .getfield 47, 3, 9, 5, [473]), (43, .invokestatic 98, 3, 0, 100003, [1091]), (46, .return_, 1, 0, 0, []), (47, .iconst 0, 1, 0, 0, []), (48, .istore 4, 2, 0, 0, []), (50, .iload 4, 2, 0, 0, []), (52, .iload_n 3, 1, 0, 0, []), (53, .if_icmp .ge 53, 3, 0, 0, [])]),
  (67, [(56, .aload_n 0, 1, 0, 0, []), (57, .getfield 18, 3, 9, 2, [470]), (60, .iload_n 1, 1, 0, 0, []), (61, .iaload, 1, 0, 0, []), (62, .iload 4, 2, 0, 0, []), (64, .ishr, 1, 0, 0, []), (65, .iconst 1, 1, 0, 0, []), (66, .iand, 1, 0, 0, [])]),
  (82, [(67, .iconst 1, 1, 0, 0, []), (68, .if_icmp .ne 32, 3, 0, 0, []), (71, .aload_n 0, 1, 0, 0, []), (72, .iload_n 1, 1, 0, 0, []), (73, .iload 4, 2, 0, 0, []), (75, .invokevirtual 104, 3, 9002, 123, [1092, 1094, 24, 134]), (78, .ifCond .eq 22, 3, 0, 0, []), (81, .aload_n 0, 1, 0, 0, [])]),
  (93, [(82, .getfield 21, 3, 9, 3, [471]), (85, .iload_n 1, 1, 0, 0, []), (86, .iload 4, 2, 0, 0, []), (88, .iastore, 1, 0, 0, []), (89, .aload_n 0, 1, 0, 0, []), (90, .iload_n 1, 1, 0, 0, []), (91, .iconst 1, 1, 0, 0, []), (92, .iadd, 1, 0, 0, [])]),
  (107, [(93, .iload_n 2, 1, 0, 0, []), (94, .iconst 1, 1, 0, 0, []), (95, .iadd, 1, 0, 0, []), (96, .iload_n 3, 1, 0, 0, []), (97, .invokevirtual 66, 3, 9003, 122, [1087, 1089, 23, 134]), (100, .iinc 4 1, 3, 0, 0, []), (103, .goto (-53), 3, 0, 0, []), (106, .aload_n 0, 1, 0, 0, [])]),
  (117, [(107, .getfield 21, 3, 9, 3, [471]), (110, .iload_n 1, 1, 0, 0, []), (111, .iconst (-1), 1, 0, 0, []), (112, .iastore, 1, 0, 0, []), (113, .aload_n 0, 1, 0, 0, []), (114, .iload_n 1, 1, 0, 0, []), (115, .iconst 1, 1, 0, 0, []), (116, .iadd, 1, 0, 0, [])]),
  (123, [(117, .iload_n 2, 1, 0, 0, []), (118, .iload_n 3, 1, 0, 0, []), (119, .invokevirtual 66, 3, 9003, 122, [1087, 1089, 23, 134]), (122, .return_, 1, 0, 0, [])])]
theorem C_122_ok : codOk q_122.1.cls q_122.2.1 C_122 := codB_ok (by decide +kernel)
theorem h_122 : mQ 122 q_122 C_122 := ⟨mq_122, by decide +kernel, by decide, C_122_ok⟩
noncomputable def C_123 : eCode := [(12, [(0, .iconst 0, 1, 0, 0, []), (1, .istore_n 3, 1, 0, 0, []), (2, .iload_n 3, 1, 0, 0, []), (3, .iload_n 1, 1, 0, 0, []), (4, .if_icmp .ge 65, 3, 0, 0, []), (7, .aload_n 0, 1, 0, 0, []), (8, .getfield 21, 3, 9, 3, [471]), (11, .iload_n 3, 1, 0, 0, [])]),
  (24, [(12, .iaload, 1, 0, 0, []), (13, .iload_n 2, 1, 0, 0, []), (14, .if_icmp .ne 49, 3, 0, 0, []), (17, .aload_n 0, 1, 0, 0, []), (18, .getfield 11, 3, 9, 0, [468]), (21, .iload_n 3, 1, 0, 0, []), (22, .iaload, 1, 0, 0, []), (23, .aload_n 0, 1, 0, 0, [])]),
  (36, [(24, .getfield 11, 3, 9, 0, [468]), (27, .iload_n 1, 1, 0, 0, []), (28, .iaload, 1, 0, 0, []), (29, .aload_n 0, 1, 0, 0, []), (30, .getfield 15, 3, 9, 1, [469]), (33, .iload_n 1, 1, 0, 0, []), (34, .iaload, 1, 0, 0, []), (35, .iadd, 1, 0, 0, [])]),
  (50, [(36, .if_icmp .ge 27, 3, 0, 0, []), (39, .aload_n 0, 1, 0, 0, []), (40, .getfield 11, 3, 9, 0, [468]), (43, .iload_n 1, 1, 0, 0, []), (44, .iaload, 1, 0, 0, []), (45, .aload_n 0, 1, 0, 0, []), (46, .getfield 11, 3, 9, 0, [468]), (49, .iload_n 3, 1, 0, 0, [])]),
  (62, [(50, .iaload, 1, 0, 0, []), (51, .aload_n 0, 1, 0, 0, []), (52, .getfield 15, 3, 9, 1, [469]), (55, .iload_n 3, 1, 0, 0, []), (56, .iaload, 1, 0, 0, []), (57, .iadd, 1, 0, 0, []), (58, .if_icmp .ge 5, 3, 0, 0, []), (61, .iconst 0, 1, 0, 0, [])]),
  (71, [(62, .ireturn, 1, 0, 0, []), (63, .iinc 3 1, 3, 0, 0, []), (66, .goto (-64), 3, 0, 0, []), (69, .iconst 1, 1, 0, 0, []), (70, .ireturn, 1, 0, 0, [])])]
theorem C_123_ok : codOk q_123.1.cls q_123.2.1 C_123 := codB_ok (by decide +kernel)
theorem h_123 : mQ 123 q_123 C_123 := ⟨mq_123, by decide +kernel, by decide, C_123_ok⟩
noncomputable def C_124 : eCode := [(9, [(0, .aload_n 0, 1, 0, 0, []), (1, .getfield 65, 3, 12, 9, [617]), (4, .iload_n 1, 1, 0, 0, []), (5, .invokevirtual 270, 3, 9001, 125, [1100, 1101, 1102, 134]), (8, .ireturn, 1, 0, 0, [])])]
theorem C_124_ok : codOk q_124.1.cls q_124.2.1 C_124 := codB_ok (by decide +kernel)
theorem h_124 : mQ 124 q_124 C_124 := ⟨mq_124, by decide +kernel, by decide, C_124_ok⟩
noncomputable def C_125 : eCode := [(16, [(0, .iload_n 1, 1, 0, 0, []), (1, .ifCond .lt 20, 3, 0, 0, []), (4, .iload_n 1, 1, 0, 0, []), (5, .aload_n 0, 1, 0, 0, []), (6, .getfield 47, 3, 9, 5, [473]), (9, .if_icmp .ge 12, 3, 0, 0, []), (12, .aload_n 0, 1, 0, 0, []), (13, .getfield 24, 3, 9, 4, [472])]),
  (23, [(16, .iload_n 1, 1, 0, 0, []), (17, .iaload, 1, 0, 0, []), (18, .goto 4, 3, 0, 0, []), (21, .iconst (-1), 1, 0, 0, []), (22, .ireturn, 1, 0, 0, [])])]
theorem C_125_ok : codOk q_125.1.cls q_125.2.1 C_125 := codB_ok (by decide +kernel)
theorem h_125 : mQ 125 q_125 C_125 := ⟨mq_125, by decide +kernel, by decide, C_125_ok⟩
noncomputable def C_126 : eCode := [(14, [(0, .aload_n 0, 1, 0, 0, []), (1, .iload_n 1, 1, 0, 0, []), (2, .invokevirtual 144, 3, 12001, 91, [950, 952, 19, 127]), (5, .ifCond .eq 23, 3, 0, 0, []), (8, .iload_n 2, 1, 0, 0, []), (9, .iconst 1, 1, 0, 0, []), (10, .iconst 5, 1, 0, 0, []), (11, .invokestatic 222, 3, 3, 53, [954, 796, 127])]),
  (30, [(14, .ifCond .eq 14, 3, 0, 0, []), (17, .iload_n 2, 1, 0, 0, []), (18, .aload_n 0, 1, 0, 0, []), (19, .getfield 31, 3, 12, 3, [611]), (22, .invokevirtual 247, 3, 5000, 106, [1010, 1011, 1012, 130]), (25, .if_icmp .le 5, 3, 0, 0, []), (28, .iconst (-1), 1, 0, 0, []), (29, .ireturn, 1, 0, 0, [])]),
  (44, [(30, .aload_n 0, 1, 0, 0, []), (31, .getfield 72, 3, 12, 10, [618]), (34, .aload_n 0, 1, 0, 0, []), (35, .getfield 31, 3, 12, 3, [611]), (38, .iload_n 1, 1, 0, 0, []), (39, .iload_n 2, 1, 0, 0, []), (40, .invokevirtual 272, 3, 7003, 127, [1108, 1109, 1110, 135]), (43, .ireturn, 1, 0, 0, [])])]
theorem C_126_ok : codOk q_126.1.cls q_126.2.1 C_126 := codB_ok (by decide +kernel)
theorem h_126 : mQ 126 q_126 C_126 := ⟨mq_126, by decide +kernel, by decide, C_126_ok⟩
noncomputable def C_127 : eCode := [(12, [(0, .aload_n 0, 1, 0, 0, []), (1, .iload_n 3, 1, 0, 0, []), (2, .putfield 18, 3, 7, 3, [499]), (5, .aload_n 0, 1, 0, 0, []), (6, .iconst (-1), 1, 0, 0, []), (7, .putfield 22, 3, 7, 4, [500]), (10, .aload_n 0, 1, 0, 0, []), (11, .aload_n 1, 1, 0, 0, [])]),
  (26, [(12, .iload_n 2, 1, 0, 0, []), (13, .iconst 0, 1, 0, 0, []), (14, .aload_n 1, 1, 0, 0, []), (15, .getfield 25, 3, 5, 2, [336]), (18, .iconst 0, 1, 0, 0, []), (19, .invokevirtual 30, 3, 7005, 128, [1112, 1114, 25, 135]), (22, .aload_n 0, 1, 0, 0, []), (23, .getfield 22, 3, 7, 4, [500])]),
  (40, [(26, .iconst (-1), 1, 0, 0, []), (27, .if_icmp .eq 8, 3, 0, 0, []), (30, .aload_n 0, 1, 0, 0, []), (31, .iload_n 3, 1, 0, 0, []), (32, .putfield 34, 3, 7, 2, [498]), (35, .aload_n 0, 1, 0, 0, []), (36, .getfield 22, 3, 7, 4, [500]), (39, .ireturn, 1, 0, 0, [])])]
theorem C_127_ok : codOk q_127.1.cls q_127.2.1 C_127 := codB_ok (by decide +kernel)
theorem h_127 : mQ 127 q_127 C_127 := ⟨mq_127, by decide +kernel, by decide, C_127_ok⟩
noncomputable def C_128 : eCode := [(14, [(0, .iload 5, 2, 0, 0, []), (2, .aload_n 0, 1, 0, 0, []), (3, .aload_n 1, 1, 0, 0, []), (4, .getfield 37, 3, 5, 0, [328]), (7, .iload_n 3, 1, 0, 0, []), (8, .iload 4, 2, 0, 0, []), (10, .invokevirtual 41, 3, 7003, 129, [1116, 1118, 26, 135]), (13, .iadd, 1, 0, 0, [])]),
  (30, [(14, .aload_n 0, 1, 0, 0, []), (15, .getfield 22, 3, 7, 4, [500]), (18, .if_icmp .gt 4, 3, 0, 0, []), (21, .return_, 1, 0, 0, []), (22, .iload_n 3, 1, 0, 0, []), (23, .aload_n 0, 1, 0, 0, []), (24, .getfield 18, 3, 7, 3, [499]), (27, .if_icmp .lt 27, 3, 0, 0, [])]),
  (45, [(30, .aload_n 0, 1, 0, 0, []), (31, .iload 5, 2, 0, 0, []), (33, .putfield 22, 3, 7, 4, [500]), (36, .aload_n 0, 1, 0, 0, []), (37, .getfield 11, 3, 7, 0, [496]), (40, .iconst 0, 1, 0, 0, []), (41, .aload_n 0, 1, 0, 0, []), (42, .getfield 15, 3, 7, 1, [497])]),
  (59, [(45, .iconst 0, 1, 0, 0, []), (46, .aload_n 0, 1, 0, 0, []), (47, .getfield 18, 3, 7, 3, [499]), (50, .invokestatic 45, 3, 0, 100003, [1120]), (53, .return_, 1, 0, 0, []), (54, .iconst 0, 1, 0, 0, []), (55, .istore 6, 2, 0, 0, []), (57, .iload 6, 2, 0, 0, [])]),
  (73, [(59, .iconst 5, 1, 0, 0, []), (60, .if_icmp .gt 75, 3, 0, 0, []), (63, .aload_n 1, 1, 0, 0, []), (64, .getfield 37, 3, 5, 0, [328]), (67, .aload_n 1, 1, 0, 0, []), (68, .getfield 51, 3, 5, 1, [331]), (71, .iload_n 3, 1, 0, 0, []), (72, .iadd, 1, 0, 0, [])]),
  (91, [(73, .iload 4, 2, 0, 0, []), (75, .iload 6, 2, 0, 0, []), (77, .invokevirtual 54, 3, 11003, 110, [1121, 1029, 1030, 129]), (80, .istore 7, 2, 0, 0, []), (82, .iload 7, 2, 0, 0, []), (84, .aload_n 1, 1, 0, 0, []), (85, .getfield 37, 3, 5, 0, [328]), (88, .getfield 60, 3, 11, 13, [254])]),
  (104, [(91, .iload_n 2, 1, 0, 0, []), (92, .iaload, 1, 0, 0, []), (93, .if_icmp .gt 36, 3, 0, 0, []), (96, .aload_n 0, 1, 0, 0, []), (97, .getfield 11, 3, 7, 0, [496]), (100, .iload_n 3, 1, 0, 0, []), (101, .iload 6, 2, 0, 0, []), (103, .iastore, 1, 0, 0, [])]),
  (114, [(104, .aload_n 0, 1, 0, 0, []), (105, .aload_n 1, 1, 0, 0, []), (106, .iload_n 2, 1, 0, 0, []), (107, .iload_n 3, 1, 0, 0, []), (108, .iconst 1, 1, 0, 0, []), (109, .iadd, 1, 0, 0, []), (110, .iload 7, 2, 0, 0, []), (112, .iload 5, 2, 0, 0, [])]),
  (132, [(114, .aload_n 1, 1, 0, 0, []), (115, .getfield 37, 3, 5, 0, [328]), (118, .iload 4, 2, 0, 0, []), (120, .iload 6, 2, 0, 0, []), (122, .invokevirtual 63, 3, 11002, 109, [1122, 1025, 1026, 129]), (125, .iadd, 1, 0, 0, []), (126, .invokevirtual 30, 3, 7005, 128, [1112, 1114, 25, 135]), (129, .iinc 6 1, 3, 0, 0, [])]),
  (136, [(132, .goto (-75), 3, 0, 0, []), (135, .return_, 1, 0, 0, [])])]
theorem C_128_ok : codOk q_128.1.cls q_128.2.1 C_128 := codB_ok (by decide +kernel)
theorem h_128 : mQ 128 q_128 C_128 := ⟨mq_128, by decide +kernel, by decide, C_128_ok⟩
noncomputable def C_129 : eCode := [(13, [(0, .aload_n 0, 1, 0, 0, []), (1, .getfield 18, 3, 7, 3, [499]), (4, .iload_n 2, 1, 0, 0, []), (5, .isub, 1, 0, 0, []), (6, .istore 4, 2, 0, 0, []), (8, .iload_n 3, 1, 0, 0, []), (9, .aload_n 1, 1, 0, 0, []), (10, .getfield 67, 3, 11, 2, [220])]),
  (26, [(13, .iload 4, 2, 0, 0, []), (15, .iconst 1, 1, 0, 0, []), (16, .isub, 1, 0, 0, []), (17, .imul, 1, 0, 0, []), (18, .iadd, 1, 0, 0, []), (19, .aload_n 1, 1, 0, 0, []), (20, .getfield 70, 3, 11, 3, [223]), (23, .if_icmp .lt 7, 3, 0, 0, [])]),
  (41, [(26, .iconst 1, 1, 0, 0, []), (27, .goto 4, 3, 0, 0, []), (30, .iconst 0, 1, 0, 0, []), (31, .istore 5, 2, 0, 0, []), (33, .iload 5, 2, 0, 0, []), (35, .ifCond .eq 10, 3, 0, 0, []), (38, .iconst 5, 1, 0, 0, []), (39, .iload 4, 2, 0, 0, [])]),
  (47, [(41, .imul, 1, 0, 0, []), (42, .goto 4, 3, 0, 0, []), (45, .iconst 0, 1, 0, 0, []), (46, .ireturn, 1, 0, 0, [])])]
theorem C_129_ok : codOk q_129.1.cls q_129.2.1 C_129 := codB_ok (by decide +kernel)
theorem h_129 : mQ 129 q_129 C_129 := ⟨mq_129, by decide +kernel, by decide, C_129_ok⟩
noncomputable def C_130 : eCode := [(9, [(0, .aload_n 0, 1, 0, 0, []), (1, .getfield 72, 3, 12, 10, [618]), (4, .iload_n 1, 1, 0, 0, []), (5, .invokevirtual 275, 3, 7001, 131, [1127, 1128, 1129, 135]), (8, .ireturn, 1, 0, 0, [])])]
theorem C_130_ok : codOk q_130.1.cls q_130.2.1 C_130 := codB_ok (by decide +kernel)
theorem h_130 : mQ 130 q_130 C_130 := ⟨mq_130, by decide +kernel, by decide, C_130_ok⟩
noncomputable def C_131 : eCode := [(16, [(0, .iload_n 1, 1, 0, 0, []), (1, .ifCond .lt 20, 3, 0, 0, []), (4, .iload_n 1, 1, 0, 0, []), (5, .aload_n 0, 1, 0, 0, []), (6, .getfield 34, 3, 7, 2, [498]), (9, .if_icmp .ge 12, 3, 0, 0, []), (12, .aload_n 0, 1, 0, 0, []), (13, .getfield 15, 3, 7, 1, [497])]),
  (23, [(16, .iload_n 1, 1, 0, 0, []), (17, .iaload, 1, 0, 0, []), (18, .goto 4, 3, 0, 0, []), (21, .iconst (-1), 1, 0, 0, []), (22, .ireturn, 1, 0, 0, [])])]
theorem C_131_ok : codOk q_131.1.cls q_131.2.1 C_131 := codB_ok (by decide +kernel)
theorem h_131 : mQ 131 q_131 C_131 := ⟨mq_131, by decide +kernel, by decide, C_131_ok⟩
noncomputable def C_132 : eCode := [(18, [(0, .aload_n 0, 1, 0, 0, []), (1, .getfield 79, 3, 12, 11, [619]), (4, .aload_n 0, 1, 0, 0, []), (5, .getfield 19, 3, 12, 1, [609]), (8, .aload_n 0, 1, 0, 0, []), (9, .getfield 31, 3, 12, 3, [611]), (12, .invokevirtual 278, 3, 5000, 133, [1135, 1136, 1137, 130]), (15, .invokevirtual 281, 3, 1002, 134, [1139, 1140, 1141, 136])]),
  (19, [(18, .ireturn, 1, 0, 0, [])])]
theorem C_132_ok : codOk q_132.1.cls q_132.2.1 C_132 := codB_ok (by decide +kernel)
theorem h_132 : mQ 132 q_132 C_132 := ⟨mq_132, by decide +kernel, by decide, C_132_ok⟩
noncomputable def C_133 : eCode := [(12, [(0, .iconst 0, 1, 0, 0, []), (1, .istore_n 1, 1, 0, 0, []), (2, .iconst 0, 1, 0, 0, []), (3, .istore_n 2, 1, 0, 0, []), (4, .iload_n 2, 1, 0, 0, []), (5, .aload_n 0, 1, 0, 0, []), (6, .getfield 29, 3, 5, 0, [326]), (9, .getfield 84, 3, 11, 7, [239])]),
  (26, [(12, .if_icmp .ge 38, 3, 0, 0, []), (15, .aload_n 0, 1, 0, 0, []), (16, .getfield 11, 3, 5, 5, [346]), (19, .iload_n 2, 1, 0, 0, []), (20, .iaload, 1, 0, 0, []), (21, .iconst (-1), 1, 0, 0, []), (22, .if_icmp .eq 22, 3, 0, 0, []), (25, .iload_n 1, 1, 0, 0, [])]),
  (40, [(26, .iconst 1, 1, 0, 0, []), (27, .aload_n 0, 1, 0, 0, []), (28, .getfield 29, 3, 5, 0, [326]), (31, .getfield 90, 3, 11, 12, [250]), (34, .aload_n 0, 1, 0, 0, []), (35, .getfield 11, 3, 5, 5, [346]), (38, .iload_n 2, 1, 0, 0, []), (39, .iaload, 1, 0, 0, [])]),
  (52, [(40, .iaload, 1, 0, 0, []), (41, .ishl, 1, 0, 0, []), (42, .ior, 1, 0, 0, []), (43, .istore_n 1, 1, 0, 0, []), (44, .iinc 2 1, 3, 0, 0, []), (47, .goto (-43), 3, 0, 0, []), (50, .iload_n 1, 1, 0, 0, []), (51, .ireturn, 1, 0, 0, [])])]
theorem C_133_ok : codOk q_133.1.cls q_133.2.1 C_133 := codB_ok (by decide +kernel)
theorem h_133 : mQ 133 q_133 C_133 := ⟨mq_133, by decide +kernel, by decide, C_133_ok⟩
noncomputable def C_134 : eCode := [(16, [(0, .aload_n 0, 1, 0, 0, []), (1, .iload_n 2, 1, 0, 0, []), (2, .invokestatic 20, 3, 1, 135, [1143, 1144, 153]), (5, .putfield 26, 3, 1, 2, [520]), (8, .aload_n 0, 1, 0, 0, []), (9, .sipush 1000, 3, 0, 0, []), (12, .putfield 30, 3, 1, 3, [521]), (15, .aload_n 0, 1, 0, 0, [])]),
  (28, [(16, .aload_n 1, 1, 0, 0, []), (17, .iload_n 2, 1, 0, 0, []), (18, .iconst 0, 1, 0, 0, []), (19, .iconst (-1), 1, 0, 0, []), (20, .iconst 0, 1, 0, 0, []), (21, .invokevirtual 33, 3, 1005, 136, [1149, 1151, 27, 136]), (24, .aload_n 0, 1, 0, 0, []), (25, .getfield 30, 3, 1, 3, [521])]),
  (29, [(28, .ireturn, 1, 0, 0, [])])]
theorem C_134_ok : codOk q_134.1.cls q_134.2.1 C_134 := codB_ok (by decide +kernel)
theorem h_134 : mQ 134 q_134 C_134 := ⟨mq_134, by decide +kernel, by decide, C_134_ok⟩
noncomputable def C_135 : eCode := [(10, [(0, .iload_n 0, 1, 0, 0, []), (1, .iload_n 0, 1, 0, 0, []), (2, .iconst 1, 1, 0, 0, []), (3, .iushr, 1, 0, 0, []), (4, .ldc_w 265, 3, 1431655765, 0, [1146]), (7, .iand, 1, 0, 0, []), (8, .isub, 1, 0, 0, []), (9, .istore_n 0, 1, 0, 0, [])]),
  (22, [(10, .iload_n 0, 1, 0, 0, []), (11, .ldc_w 266, 3, 858993459, 0, [1147]), (14, .iand, 1, 0, 0, []), (15, .iload_n 0, 1, 0, 0, []), (16, .iconst 2, 1, 0, 0, []), (17, .iushr, 1, 0, 0, []), (18, .ldc_w 266, 3, 858993459, 0, [1147]), (21, .iand, 1, 0, 0, [])]),
  (32, [(22, .iadd, 1, 0, 0, []), (23, .istore_n 0, 1, 0, 0, []), (24, .iload_n 0, 1, 0, 0, []), (25, .iload_n 0, 1, 0, 0, []), (26, .iconst 4, 1, 0, 0, []), (27, .iushr, 1, 0, 0, []), (28, .iadd, 1, 0, 0, []), (29, .ldc_w 267, 3, 252645135, 0, [1148])]),
  (41, [(32, .iand, 1, 0, 0, []), (33, .istore_n 0, 1, 0, 0, []), (34, .iload_n 0, 1, 0, 0, []), (35, .iload_n 0, 1, 0, 0, []), (36, .bipush 8, 2, 0, 0, []), (38, .iushr, 1, 0, 0, []), (39, .iadd, 1, 0, 0, []), (40, .istore_n 0, 1, 0, 0, [])]),
  (51, [(41, .iload_n 0, 1, 0, 0, []), (42, .iload_n 0, 1, 0, 0, []), (43, .bipush 16, 2, 0, 0, []), (45, .iushr, 1, 0, 0, []), (46, .iadd, 1, 0, 0, []), (47, .istore_n 0, 1, 0, 0, []), (48, .iload_n 0, 1, 0, 0, []), (49, .bipush 63, 2, 0, 0, [])]),
  (53, [(51, .iand, 1, 0, 0, []), (52, .ireturn, 1, 0, 0, [])])]
theorem C_135_ok : codOk q_135.1.cls q_135.2.1 C_135 := codB_ok (by decide +kernel)
theorem h_135 : mQ 135 q_135 C_135 := ⟨mq_135, by decide +kernel, by decide, C_135_ok⟩
noncomputable def C_136 : eCode := [(14, [(0, .iload_n 3, 1, 0, 0, []), (1, .aload_n 0, 1, 0, 0, []), (2, .getfield 26, 3, 1, 2, [520]), (5, .if_icmp .lt 48, 3, 0, 0, []), (8, .iload 5, 2, 0, 0, []), (10, .aload_n 1, 1, 0, 0, []), (11, .iload 4, 2, 0, 0, []), (13, .iconst (-1), 1, 0, 0, [])]),
  (30, [(14, .invokestatic 37, 3, 3, 137, [1153, 1154, 136]), (17, .iadd, 1, 0, 0, []), (18, .istore 6, 2, 0, 0, []), (20, .iload 6, 2, 0, 0, []), (22, .aload_n 0, 1, 0, 0, []), (23, .getfield 30, 3, 1, 3, [521]), (26, .if_icmp .ge 26, 3, 0, 0, []), (29, .aload_n 0, 1, 0, 0, [])]),
  (45, [(30, .iload 6, 2, 0, 0, []), (32, .putfield 30, 3, 1, 3, [521]), (35, .aload_n 0, 1, 0, 0, []), (36, .getfield 11, 3, 1, 0, [518]), (39, .iconst 0, 1, 0, 0, []), (40, .aload_n 0, 1, 0, 0, []), (41, .getfield 17, 3, 1, 1, [519]), (44, .iconst 0, 1, 0, 0, [])]),
  (59, [(45, .aload_n 0, 1, 0, 0, []), (46, .getfield 26, 3, 1, 2, [520]), (49, .invokestatic 41, 3, 0, 100003, [1165]), (52, .return_, 1, 0, 0, []), (53, .iconst 0, 1, 0, 0, []), (54, .istore 6, 2, 0, 0, []), (56, .iload 6, 2, 0, 0, []), (58, .aload_n 1, 1, 0, 0, [])]),
  (72, [(59, .getfield 47, 3, 11, 5, [229]), (62, .if_icmp .ge 56, 3, 0, 0, []), (65, .iload_n 2, 1, 0, 0, []), (66, .iload 6, 2, 0, 0, []), (68, .ishr, 1, 0, 0, []), (69, .iconst 1, 1, 0, 0, []), (70, .iand, 1, 0, 0, []), (71, .iconst 1, 1, 0, 0, [])]),
  (85, [(72, .if_icmp .ne 40, 3, 0, 0, []), (75, .aload_n 0, 1, 0, 0, []), (76, .getfield 11, 3, 1, 0, [518]), (79, .iload_n 3, 1, 0, 0, []), (80, .iload 6, 2, 0, 0, []), (82, .iastore, 1, 0, 0, []), (83, .aload_n 0, 1, 0, 0, []), (84, .aload_n 1, 1, 0, 0, [])]),
  (94, [(85, .iload_n 2, 1, 0, 0, []), (86, .iconst 1, 1, 0, 0, []), (87, .iload 6, 2, 0, 0, []), (89, .ishl, 1, 0, 0, []), (90, .iconst (-1), 1, 0, 0, []), (91, .ixor, 1, 0, 0, []), (92, .iand, 1, 0, 0, []), (93, .iload_n 3, 1, 0, 0, [])]),
  (108, [(94, .iconst 1, 1, 0, 0, []), (95, .iadd, 1, 0, 0, []), (96, .iload 6, 2, 0, 0, []), (98, .iload 5, 2, 0, 0, []), (100, .aload_n 1, 1, 0, 0, []), (101, .iload 4, 2, 0, 0, []), (103, .iload 6, 2, 0, 0, []), (105, .invokestatic 37, 3, 3, 137, [1153, 1154, 136])]),
  (119, [(108, .iadd, 1, 0, 0, []), (109, .invokevirtual 33, 3, 1005, 136, [1149, 1151, 27, 136]), (112, .iinc 6 1, 3, 0, 0, []), (115, .goto (-59), 3, 0, 0, []), (118, .return_, 1, 0, 0, [])])]
theorem C_136_ok : codOk q_136.1.cls q_136.2.1 C_136 := codB_ok (by decide +kernel)
theorem h_136 : mQ 136 q_136 C_136 := ⟨mq_136, by decide +kernel, by decide, C_136_ok⟩
noncomputable def C_137 : eCode := [(14, [(0, .aload_n 0, 1, 0, 0, []), (1, .iload_n 1, 1, 0, 0, []), (2, .invokestatic 48, 3, 2, 138, [1156, 1157, 136]), (5, .aload_n 0, 1, 0, 0, []), (6, .iload_n 2, 1, 0, 0, []), (7, .invokestatic 48, 3, 2, 138, [1156, 1157, 136]), (10, .isub, 1, 0, 0, []), (11, .invokestatic 52, 3, 0, 100002, [1159])]),
  (28, [(14, .aload_n 0, 1, 0, 0, []), (15, .iload_n 1, 1, 0, 0, []), (16, .invokestatic 57, 3, 2, 140, [1162, 1163, 136]), (19, .aload_n 0, 1, 0, 0, []), (20, .iload_n 2, 1, 0, 0, []), (21, .invokestatic 57, 3, 2, 140, [1162, 1163, 136]), (24, .isub, 1, 0, 0, []), (25, .invokestatic 52, 3, 0, 100002, [1159])]),
  (30, [(28, .iadd, 1, 0, 0, []), (29, .ireturn, 1, 0, 0, [])])]
theorem C_137_ok : codOk q_137.1.cls q_137.2.1 C_137 := codB_ok (by decide +kernel)
theorem h_137 : mQ 137 q_137 C_137 := ⟨mq_137, by decide +kernel, by decide, C_137_ok⟩
noncomputable def C_138 : eCode := [(14, [(0, .iload_n 1, 1, 0, 0, []), (1, .iconst (-1), 1, 0, 0, []), (2, .if_icmp .ne 7, 3, 0, 0, []), (5, .iconst 0, 1, 0, 0, []), (6, .goto 9, 3, 0, 0, []), (9, .aload_n 0, 1, 0, 0, []), (10, .getfield 60, 3, 11, 10, [245]), (13, .iload_n 1, 1, 0, 0, [])]),
  (16, [(14, .iaload, 1, 0, 0, []), (15, .ireturn, 1, 0, 0, [])])]
theorem C_138_ok : codOk q_138.1.cls q_138.2.1 C_138 := codB_ok (by decide +kernel)
theorem h_138 : mQ 138 q_138 C_138 := ⟨mq_138, by decide +kernel, by decide, C_138_ok⟩
noncomputable def C_140 : eCode := [(14, [(0, .iload_n 1, 1, 0, 0, []), (1, .iconst (-1), 1, 0, 0, []), (2, .if_icmp .ne 7, 3, 0, 0, []), (5, .iconst 0, 1, 0, 0, []), (6, .goto 9, 3, 0, 0, []), (9, .aload_n 0, 1, 0, 0, []), (10, .getfield 63, 3, 11, 11, [247]), (13, .iload_n 1, 1, 0, 0, [])]),
  (16, [(14, .iaload, 1, 0, 0, []), (15, .ireturn, 1, 0, 0, [])])]
theorem C_140_ok : codOk q_140.1.cls q_140.2.1 C_140 := codB_ok (by decide +kernel)
theorem h_140 : mQ 140 q_140 C_140 := ⟨mq_140, by decide +kernel, by decide, C_140_ok⟩
noncomputable def C_141 : eCode := [(9, [(0, .aload_n 0, 1, 0, 0, []), (1, .getfield 79, 3, 12, 11, [619]), (4, .iload_n 1, 1, 0, 0, []), (5, .invokevirtual 284, 3, 1001, 142, [1170, 1171, 1172, 136]), (8, .ireturn, 1, 0, 0, [])])]
theorem C_141_ok : codOk q_141.1.cls q_141.2.1 C_141 := codB_ok (by decide +kernel)
theorem h_141 : mQ 141 q_141 C_141 := ⟨mq_141, by decide +kernel, by decide, C_141_ok⟩
noncomputable def C_142 : eCode := [(16, [(0, .iload_n 1, 1, 0, 0, []), (1, .ifCond .lt 20, 3, 0, 0, []), (4, .iload_n 1, 1, 0, 0, []), (5, .aload_n 0, 1, 0, 0, []), (6, .getfield 26, 3, 1, 2, [520]), (9, .if_icmp .ge 12, 3, 0, 0, []), (12, .aload_n 0, 1, 0, 0, []), (13, .getfield 17, 3, 1, 1, [519])]),
  (23, [(16, .iload_n 1, 1, 0, 0, []), (17, .iaload, 1, 0, 0, []), (18, .goto 4, 3, 0, 0, []), (21, .iconst (-1), 1, 0, 0, []), (22, .ireturn, 1, 0, 0, [])])]
theorem C_142_ok : codOk q_142.1.cls q_142.2.1 C_142 := codB_ok (by decide +kernel)
theorem h_142 : mQ 142 q_142 C_142 := ⟨mq_142, by decide +kernel, by decide, C_142_ok⟩
noncomputable def C_143 : eCode := [(16, [(0, .aload_n 0, 1, 0, 0, []), (1, .getfield 86, 3, 12, 12, [620]), (4, .aload_n 0, 1, 0, 0, []), (5, .getfield 10, 3, 12, 0, [608]), (8, .aload_n 0, 1, 0, 0, []), (9, .getfield 19, 3, 12, 1, [609]), (12, .invokevirtual 287, 3, 6002, 144, [1178, 1179, 1180, 137]), (15, .istore_n 1, 1, 0, 0, [])]),
  (25, [(16, .aload_n 0, 1, 0, 0, []), (17, .getfield 10, 3, 12, 0, [608]), (20, .invokevirtual 264, 3, 10000, 76, [886, 887, 888, 128]), (23, .iload_n 1, 1, 0, 0, []), (24, .ireturn, 1, 0, 0, [])])]
theorem C_143_ok : codOk q_143.1.cls q_143.2.1 C_143 := codB_ok (by decide +kernel)
theorem h_143 : mQ 143 q_143 C_143 := ⟨mq_143, by decide +kernel, by decide, C_143_ok⟩
noncomputable def C_144 : eCode := [(12, [(0, .aload_n 1, 1, 0, 0, []), (1, .invokevirtual 21, 3, 10000, 22, [1182, 670, 671, 128]), (4, .iconst 2, 1, 0, 0, []), (5, .idiv, 1, 0, 0, []), (6, .istore_n 3, 1, 0, 0, []), (7, .aload_n 1, 1, 0, 0, []), (8, .invokevirtual 21, 3, 10000, 22, [1182, 670, 671, 128]), (11, .iconst 2, 1, 0, 0, [])]),
  (27, [(12, .irem, 1, 0, 0, []), (13, .ifCond .ne 13, 3, 0, 0, []), (16, .iload_n 3, 1, 0, 0, []), (17, .iconst 1, 1, 0, 0, []), (18, .bipush 8, 2, 0, 0, []), (20, .invokestatic 27, 3, 3, 53, [1183, 796, 127]), (23, .ifCond .ne 5, 3, 0, 0, []), (26, .iconst (-1), 1, 0, 0, [])]),
  (40, [(27, .ireturn, 1, 0, 0, []), (28, .iconst 0, 1, 0, 0, []), (29, .istore 4, 2, 0, 0, []), (31, .bipush 99, 2, 0, 0, []), (33, .istore 5, 2, 0, 0, []), (35, .iconst 0, 1, 0, 0, []), (36, .istore 6, 2, 0, 0, []), (38, .iload 6, 2, 0, 0, [])]),
  (54, [(40, .iload_n 3, 1, 0, 0, []), (41, .if_icmp .ge 97, 3, 0, 0, []), (44, .aload_n 1, 1, 0, 0, []), (45, .iconst 2, 1, 0, 0, []), (46, .iload 6, 2, 0, 0, []), (48, .imul, 1, 0, 0, []), (49, .invokevirtual 31, 3, 10001, 119, [1184, 1071, 1072, 128]), (52, .istore 7, 2, 0, 0, [])]),
  (66, [(54, .aload_n 1, 1, 0, 0, []), (55, .iconst 2, 1, 0, 0, []), (56, .iload 6, 2, 0, 0, []), (58, .imul, 1, 0, 0, []), (59, .iconst 1, 1, 0, 0, []), (60, .iadd, 1, 0, 0, []), (61, .invokevirtual 31, 3, 10001, 119, [1184, 1071, 1072, 128]), (64, .istore 8, 2, 0, 0, [])]),
  (81, [(66, .iload 7, 2, 0, 0, []), (68, .iconst 0, 1, 0, 0, []), (69, .aload_n 2, 1, 0, 0, []), (70, .getfield 35, 3, 11, 6, [232]), (73, .iconst 1, 1, 0, 0, []), (74, .isub, 1, 0, 0, []), (75, .invokestatic 27, 3, 3, 53, [1183, 796, 127]), (78, .ifCond .eq 13, 3, 0, 0, [])]),
  (95, [(81, .iload 8, 2, 0, 0, []), (83, .iconst 0, 1, 0, 0, []), (84, .iconst 1, 1, 0, 0, []), (85, .invokestatic 27, 3, 3, 53, [1183, 796, 127]), (88, .ifCond .ne 5, 3, 0, 0, []), (91, .iconst (-1), 1, 0, 0, []), (92, .ireturn, 1, 0, 0, []), (93, .iload 8, 2, 0, 0, [])]),
  (109, [(95, .iconst 1, 1, 0, 0, []), (96, .if_icmp .ne 22, 3, 0, 0, []), (99, .iload 4, 2, 0, 0, []), (101, .aload_n 2, 1, 0, 0, []), (102, .getfield 40, 3, 11, 13, [253]), (105, .iload 7, 2, 0, 0, []), (107, .iaload, 1, 0, 0, []), (108, .iconst 1, 1, 0, 0, [])]),
  (126, [(109, .iadd, 1, 0, 0, []), (110, .invokestatic 44, 3, 0, 100000, [1185]), (113, .istore 4, 2, 0, 0, []), (115, .goto 17, 3, 0, 0, []), (118, .iload 5, 2, 0, 0, []), (120, .aload_n 2, 1, 0, 0, []), (121, .getfield 40, 3, 11, 13, [253]), (124, .iload 7, 2, 0, 0, [])]),
  (145, [(126, .iaload, 1, 0, 0, []), (127, .invokestatic 50, 3, 0, 100001, [1186]), (130, .istore 5, 2, 0, 0, []), (132, .iinc 6 1, 3, 0, 0, []), (135, .goto (-97), 3, 0, 0, []), (138, .iload 4, 2, 0, 0, []), (140, .iload 5, 2, 0, 0, []), (142, .if_icmp .le 5, 3, 0, 0, [])]),
  (159, [(145, .iconst 0, 1, 0, 0, []), (146, .ireturn, 1, 0, 0, []), (147, .aload_n 0, 1, 0, 0, []), (148, .iload 4, 2, 0, 0, []), (150, .putfield 9, 3, 6, 0, [537]), (153, .aload_n 0, 1, 0, 0, []), (154, .iload 5, 2, 0, 0, []), (156, .putfield 15, 3, 6, 1, [539])]),
  (173, [(159, .aload_n 0, 1, 0, 0, []), (160, .aload_n 0, 1, 0, 0, []), (161, .aload_n 2, 1, 0, 0, []), (162, .invokevirtual 53, 3, 6001, 145, [1187, 1189, 28, 137]), (165, .putfield 18, 3, 6, 2, [541]), (168, .iload 5, 2, 0, 0, []), (170, .iload 4, 2, 0, 0, []), (172, .isub, 1, 0, 0, [])]),
  (176, [(173, .iconst 1, 1, 0, 0, []), (174, .iadd, 1, 0, 0, []), (175, .ireturn, 1, 0, 0, [])])]
theorem C_144_ok : codOk q_144.1.cls q_144.2.1 C_144 := codB_ok (by decide +kernel)
theorem h_144 : mQ 144 q_144 C_144 := ⟨mq_144, by decide +kernel, by decide, C_144_ok⟩
noncomputable def C_145 : eCode := [(11, [(0, .iconst (-1), 1, 0, 0, []), (1, .istore_n 2, 1, 0, 0, []), (2, .bipush 101, 2, 0, 0, []), (4, .istore_n 3, 1, 0, 0, []), (5, .iconst 0, 1, 0, 0, []), (6, .istore 4, 2, 0, 0, []), (8, .iload 4, 2, 0, 0, []), (10, .aload_n 1, 1, 0, 0, [])]),
  (27, [(11, .getfield 35, 3, 11, 6, [232]), (14, .if_icmp .ge 74, 3, 0, 0, []), (17, .iconst 0, 1, 0, 0, []), (18, .aload_n 0, 1, 0, 0, []), (19, .getfield 15, 3, 6, 1, [539]), (22, .aload_n 0, 1, 0, 0, []), (23, .getfield 9, 3, 6, 0, [537]), (26, .iconst 1, 1, 0, 0, [])]),
  (42, [(27, .isub, 1, 0, 0, []), (28, .aload_n 1, 1, 0, 0, []), (29, .getfield 40, 3, 11, 13, [253]), (32, .iload 4, 2, 0, 0, []), (34, .iaload, 1, 0, 0, []), (35, .invokestatic 44, 3, 0, 100000, [1185]), (38, .isub, 1, 0, 0, []), (39, .invokestatic 44, 3, 0, 100000, [1185])]),
  (55, [(42, .istore 5, 2, 0, 0, []), (44, .aload_n 0, 1, 0, 0, []), (45, .getfield 15, 3, 6, 1, [539]), (48, .aload_n 0, 1, 0, 0, []), (49, .getfield 9, 3, 6, 0, [537]), (52, .isub, 1, 0, 0, []), (53, .iconst 1, 1, 0, 0, []), (54, .iadd, 1, 0, 0, [])]),
  (71, [(55, .iload 5, 2, 0, 0, []), (57, .isub, 1, 0, 0, []), (58, .istore 6, 2, 0, 0, []), (60, .iload 5, 2, 0, 0, []), (62, .iload 6, 2, 0, 0, []), (64, .invokestatic 44, 3, 0, 100000, [1185]), (67, .iload_n 3, 1, 0, 0, []), (68, .if_icmp .ge 14, 3, 0, 0, [])]),
  (88, [(71, .iload 5, 2, 0, 0, []), (73, .iload 6, 2, 0, 0, []), (75, .invokestatic 44, 3, 0, 100000, [1185]), (78, .istore_n 3, 1, 0, 0, []), (79, .iload 4, 2, 0, 0, []), (81, .istore_n 2, 1, 0, 0, []), (82, .iinc 4 1, 3, 0, 0, []), (85, .goto (-77), 3, 0, 0, [])]),
  (90, [(88, .iload_n 2, 1, 0, 0, []), (89, .ireturn, 1, 0, 0, [])])]
theorem C_145_ok : codOk q_145.1.cls q_145.2.1 C_145 := codB_ok (by decide +kernel)
theorem h_145 : mQ 145 q_145 C_145 := ⟨mq_145, by decide +kernel, by decide, C_145_ok⟩
noncomputable def C_146 : eCode := [(8, [(0, .aload_n 0, 1, 0, 0, []), (1, .getfield 86, 3, 12, 12, [620]), (4, .getfield 290, 3, 6, 0, [538]), (7, .ireturn, 1, 0, 0, [])])]
theorem C_146_ok : codOk q_146.1.cls q_146.2.1 C_146 := codB_ok (by decide +kernel)
theorem h_146 : mQ 146 q_146 C_146 := ⟨mq_146, by decide +kernel, by decide, C_146_ok⟩
noncomputable def C_147 : eCode := [(8, [(0, .aload_n 0, 1, 0, 0, []), (1, .getfield 86, 3, 12, 12, [620]), (4, .getfield 293, 3, 6, 1, [540]), (7, .ireturn, 1, 0, 0, [])])]
theorem C_147_ok : codOk q_147.1.cls q_147.2.1 C_147 := codB_ok (by decide +kernel)
theorem h_147 : mQ 147 q_147 C_147 := ⟨mq_147, by decide +kernel, by decide, C_147_ok⟩
noncomputable def C_148 : eCode := [(8, [(0, .aload_n 0, 1, 0, 0, []), (1, .getfield 86, 3, 12, 12, [620]), (4, .getfield 296, 3, 6, 2, [542]), (7, .ireturn, 1, 0, 0, [])])]
theorem C_148_ok : codOk q_148.1.cls q_148.2.1 C_148 := codB_ok (by decide +kernel)
theorem h_148 : mQ 148 q_148 C_148 := ⟨mq_148, by decide +kernel, by decide, C_148_ok⟩
noncomputable def C_149 : eCode := [(16, [(0, .aload_n 0, 1, 0, 0, []), (1, .iload_n 1, 1, 0, 0, []), (2, .invokevirtual 176, 3, 12001, 90, [946, 948, 18, 127]), (5, .ifCond .eq 14, 3, 0, 0, []), (8, .aload_n 0, 1, 0, 0, []), (9, .getfield 31, 3, 12, 3, [611]), (12, .iload_n 1, 1, 0, 0, []), (13, .invokevirtual 299, 3, 5001, 150, [1207, 1208, 1209, 130])]),
  (21, [(16, .goto 4, 3, 0, 0, []), (19, .iconst (-1), 1, 0, 0, []), (20, .ireturn, 1, 0, 0, [])])]
theorem C_149_ok : codOk q_149.1.cls q_149.2.1 C_149 := codB_ok (by decide +kernel)
theorem h_149 : mQ 149 q_149 C_149 := ⟨mq_149, by decide +kernel, by decide, C_149_ok⟩
noncomputable def C_150 : eCode := [(12, [(0, .iconst 0, 1, 0, 0, []), (1, .istore_n 2, 1, 0, 0, []), (2, .iconst 0, 1, 0, 0, []), (3, .istore_n 3, 1, 0, 0, []), (4, .iload_n 3, 1, 0, 0, []), (5, .aload_n 0, 1, 0, 0, []), (6, .getfield 29, 3, 5, 0, [326]), (9, .getfield 84, 3, 11, 7, [239])]),
  (25, [(12, .if_icmp .ge 52, 3, 0, 0, []), (15, .aload_n 0, 1, 0, 0, []), (16, .getfield 11, 3, 5, 5, [346]), (19, .iload_n 3, 1, 0, 0, []), (20, .iaload, 1, 0, 0, []), (21, .istore 4, 2, 0, 0, []), (23, .iload_n 3, 1, 0, 0, []), (24, .iload_n 1, 1, 0, 0, [])]),
  (41, [(25, .if_icmp .eq 33, 3, 0, 0, []), (28, .iload 4, 2, 0, 0, []), (30, .iconst (-1), 1, 0, 0, []), (31, .if_icmp .eq 27, 3, 0, 0, []), (34, .aload_n 0, 1, 0, 0, []), (35, .iload 4, 2, 0, 0, []), (37, .invokevirtual 99, 3, 5001, 94, [963, 964, 965, 130]), (40, .aload_n 0, 1, 0, 0, [])]),
  (55, [(41, .getfield 29, 3, 5, 0, [326]), (44, .getfield 102, 3, 11, 16, [266]), (47, .iload_n 1, 1, 0, 0, []), (48, .iaload, 1, 0, 0, []), (49, .if_icmp .gt 9, 3, 0, 0, []), (52, .iload_n 2, 1, 0, 0, []), (53, .iconst 1, 1, 0, 0, []), (54, .iload_n 3, 1, 0, 0, [])]),
  (66, [(55, .ishl, 1, 0, 0, []), (56, .ior, 1, 0, 0, []), (57, .istore_n 2, 1, 0, 0, []), (58, .iinc 3 1, 3, 0, 0, []), (61, .goto (-57), 3, 0, 0, []), (64, .iload_n 2, 1, 0, 0, []), (65, .ireturn, 1, 0, 0, [])])]
theorem C_150_ok : codOk q_150.1.cls q_150.2.1 C_150 := codB_ok (by decide +kernel)
theorem h_150 : mQ 150 q_150 C_150 := ⟨mq_150, by decide +kernel, by decide, C_150_ok⟩
noncomputable def C_151 : eCode := [(16, [(0, .aload_n 0, 1, 0, 0, []), (1, .iload_n 1, 1, 0, 0, []), (2, .invokevirtual 176, 3, 12001, 90, [946, 948, 18, 127]), (5, .ifCond .eq 14, 3, 0, 0, []), (8, .aload_n 0, 1, 0, 0, []), (9, .getfield 31, 3, 12, 3, [611]), (12, .iload_n 1, 1, 0, 0, []), (13, .invokevirtual 302, 3, 5001, 152, [1215, 1216, 1217, 130])]),
  (21, [(16, .goto 4, 3, 0, 0, []), (19, .iconst (-1), 1, 0, 0, []), (20, .ireturn, 1, 0, 0, [])])]
theorem C_151_ok : codOk q_151.1.cls q_151.2.1 C_151 := codB_ok (by decide +kernel)
theorem h_151 : mQ 151 q_151 C_151 := ⟨mq_151, by decide +kernel, by decide, C_151_ok⟩
noncomputable def C_152 : eCode := [(12, [(0, .iconst 0, 1, 0, 0, []), (1, .istore_n 2, 1, 0, 0, []), (2, .iconst 0, 1, 0, 0, []), (3, .istore_n 3, 1, 0, 0, []), (4, .iload_n 3, 1, 0, 0, []), (5, .aload_n 0, 1, 0, 0, []), (6, .getfield 29, 3, 5, 0, [326]), (9, .getfield 93, 3, 11, 6, [234])]),
  (28, [(12, .if_icmp .ge 80, 3, 0, 0, []), (15, .aload_n 0, 1, 0, 0, []), (16, .iload_n 3, 1, 0, 0, []), (17, .invokevirtual 96, 3, 5001, 93, [959, 960, 961, 130]), (20, .istore 4, 2, 0, 0, []), (22, .iload 4, 2, 0, 0, []), (24, .iconst (-1), 1, 0, 0, []), (25, .if_icmp .eq 9, 3, 0, 0, [])]),
  (43, [(28, .iload 4, 2, 0, 0, []), (30, .iload_n 1, 1, 0, 0, []), (31, .if_icmp .ne 7, 3, 0, 0, []), (34, .iconst 1, 1, 0, 0, []), (35, .goto 4, 3, 0, 0, []), (38, .iconst 0, 1, 0, 0, []), (39, .istore 5, 2, 0, 0, []), (41, .iload 5, 2, 0, 0, [])]),
  (59, [(43, .ifCond .eq 43, 3, 0, 0, []), (46, .aload_n 0, 1, 0, 0, []), (47, .iload_n 3, 1, 0, 0, []), (48, .invokevirtual 99, 3, 5001, 94, [963, 964, 965, 130]), (51, .aload_n 0, 1, 0, 0, []), (52, .getfield 29, 3, 5, 0, [326]), (55, .getfield 102, 3, 11, 16, [266]), (58, .iload_n 1, 1, 0, 0, [])]),
  (73, [(59, .iaload, 1, 0, 0, []), (60, .if_icmp .gt 26, 3, 0, 0, []), (63, .aload_n 0, 1, 0, 0, []), (64, .aload_n 0, 1, 0, 0, []), (65, .getfield 29, 3, 5, 0, [326]), (68, .getfield 90, 3, 11, 12, [250]), (71, .iload_n 3, 1, 0, 0, []), (72, .iaload, 1, 0, 0, [])]),
  (85, [(73, .iload_n 1, 1, 0, 0, []), (74, .invokevirtual 127, 3, 5002, 153, [1219, 1221, 29, 130]), (77, .ifCond .ne 9, 3, 0, 0, []), (80, .iload_n 2, 1, 0, 0, []), (81, .iconst 1, 1, 0, 0, []), (82, .iload_n 3, 1, 0, 0, []), (83, .ishl, 1, 0, 0, []), (84, .ior, 1, 0, 0, [])]),
  (94, [(85, .istore_n 2, 1, 0, 0, []), (86, .iinc 3 1, 3, 0, 0, []), (89, .goto (-85), 3, 0, 0, []), (92, .iload_n 2, 1, 0, 0, []), (93, .ireturn, 1, 0, 0, [])])]
theorem C_152_ok : codOk q_152.1.cls q_152.2.1 C_152 := codB_ok (by decide +kernel)
theorem h_152 : mQ 152 q_152 C_152 := ⟨mq_152, by decide +kernel, by decide, C_152_ok⟩
noncomputable def C_153 : eCode := [(14, [(0, .iconst 0, 1, 0, 0, []), (1, .istore_n 3, 1, 0, 0, []), (2, .iload_n 3, 1, 0, 0, []), (3, .aload_n 0, 1, 0, 0, []), (4, .getfield 29, 3, 5, 0, [326]), (7, .getfield 84, 3, 11, 7, [239]), (10, .if_icmp .ge 51, 3, 0, 0, []), (13, .aload_n 0, 1, 0, 0, [])]),
  (28, [(14, .getfield 11, 3, 5, 5, [346]), (17, .iload_n 3, 1, 0, 0, []), (18, .iaload, 1, 0, 0, []), (19, .istore 4, 2, 0, 0, []), (21, .iload 4, 2, 0, 0, []), (23, .iconst (-1), 1, 0, 0, []), (24, .if_icmp .eq 31, 3, 0, 0, []), (27, .aload_n 0, 1, 0, 0, [])]),
  (45, [(28, .getfield 29, 3, 5, 0, [326]), (31, .getfield 90, 3, 11, 12, [250]), (34, .iload 4, 2, 0, 0, []), (36, .iaload, 1, 0, 0, []), (37, .iload_n 1, 1, 0, 0, []), (38, .if_icmp .ne 17, 3, 0, 0, []), (41, .aload_n 0, 1, 0, 0, []), (42, .getfield 29, 3, 5, 0, [326])]),
  (61, [(45, .iload_n 2, 1, 0, 0, []), (46, .iload_n 3, 1, 0, 0, []), (47, .invokevirtual 131, 3, 11002, 68, [1223, 855, 856, 129]), (50, .ifCond .eq 5, 3, 0, 0, []), (53, .iconst 1, 1, 0, 0, []), (54, .ireturn, 1, 0, 0, []), (55, .iinc 3 1, 3, 0, 0, []), (58, .goto (-56), 3, 0, 0, [])]),
  (63, [(61, .iconst 0, 1, 0, 0, []), (62, .ireturn, 1, 0, 0, [])])]
theorem C_153_ok : codOk q_153.1.cls q_153.2.1 C_153 := codB_ok (by decide +kernel)
theorem h_153 : mQ 153 q_153 C_153 := ⟨mq_153, by decide +kernel, by decide, C_153_ok⟩
noncomputable def C_154 : eCode := [(8, [(0, .aload_n 0, 1, 0, 0, []), (1, .getfield 31, 3, 12, 3, [611]), (4, .invokevirtual 305, 3, 5000, 155, [1228, 1229, 1230, 130]), (7, .ireturn, 1, 0, 0, [])])]
theorem C_154_ok : codOk q_154.1.cls q_154.2.1 C_154 := codB_ok (by decide +kernel)
theorem h_154 : mQ 154 q_154 C_154 := ⟨mq_154, by decide +kernel, by decide, C_154_ok⟩
