/-! rows of code -/
noncomputable def C_78 : eCode := [(16, [(0, .aload_n 0, 1, 0, 0, []), (1, .aload_n 1, 1, 0, 0, []), (2, .getfield 49, 3, 11, 0, [67]), (5, .putfield 49, 3, 11, 0, [15]), (8, .aload_n 0, 1, 0, 0, []), (9, .aload_n 1, 1, 0, 0, []), (10, .getfield 53, 3, 11, 1, [68]), (13, .putfield 53, 3, 11, 1, [16])]),
  (32, [(16, .aload_n 0, 1, 0, 0, []), (17, .aload_n 1, 1, 0, 0, []), (18, .getfield 56, 3, 11, 2, [69]), (21, .putfield 56, 3, 11, 2, [17]), (24, .aload_n 0, 1, 0, 0, []), (25, .aload_n 1, 1, 0, 0, []), (26, .getfield 59, 3, 11, 3, [70]), (29, .putfield 59, 3, 11, 3, [18])]),
  (48, [(32, .aload_n 0, 1, 0, 0, []), (33, .aload_n 1, 1, 0, 0, []), (34, .getfield 62, 3, 11, 4, [71]), (37, .putfield 62, 3, 11, 4, [19]), (40, .aload_n 0, 1, 0, 0, []), (41, .aload_n 1, 1, 0, 0, []), (42, .getfield 65, 3, 11, 5, [48]), (45, .putfield 65, 3, 11, 5, [20])]),
  (64, [(48, .aload_n 0, 1, 0, 0, []), (49, .aload_n 1, 1, 0, 0, []), (50, .getfield 68, 3, 11, 6, [54]), (53, .putfield 68, 3, 11, 6, [21]), (56, .aload_n 0, 1, 0, 0, []), (57, .aload_n 1, 1, 0, 0, []), (58, .getfield 71, 3, 11, 7, [60]), (61, .putfield 71, 3, 11, 7, [22])]),
  (79, [(64, .aload_n 1, 1, 0, 0, []), (65, .getfield 11, 3, 11, 9, [24]), (68, .iconst 0, 1, 0, 0, []), (69, .aload_n 0, 1, 0, 0, []), (70, .getfield 11, 3, 11, 9, [24]), (73, .iconst 0, 1, 0, 0, []), (74, .bipush 19, 2, 0, 0, []), (76, .invokestatic 74, 3, 0, 100003, [72])]),
  (93, [(79, .aload_n 1, 1, 0, 0, []), (80, .getfield 15, 3, 11, 10, [50]), (83, .iconst 0, 1, 0, 0, []), (84, .aload_n 0, 1, 0, 0, []), (85, .getfield 15, 3, 11, 10, [50]), (88, .iconst 0, 1, 0, 0, []), (89, .iconst 5, 1, 0, 0, []), (90, .invokestatic 74, 3, 0, 100003, [72])]),
  (107, [(93, .aload_n 1, 1, 0, 0, []), (94, .getfield 19, 3, 11, 11, [51]), (97, .iconst 0, 1, 0, 0, []), (98, .aload_n 0, 1, 0, 0, []), (99, .getfield 19, 3, 11, 11, [51]), (102, .iconst 0, 1, 0, 0, []), (103, .iconst 5, 1, 0, 0, []), (104, .invokestatic 74, 3, 0, 100003, [72])]),
  (122, [(107, .aload_n 1, 1, 0, 0, []), (108, .getfield 22, 3, 11, 12, [55]), (111, .iconst 0, 1, 0, 0, []), (112, .aload_n 0, 1, 0, 0, []), (113, .getfield 22, 3, 11, 12, [55]), (116, .iconst 0, 1, 0, 0, []), (117, .bipush 8, 2, 0, 0, []), (119, .invokestatic 74, 3, 0, 100003, [72])]),
  (137, [(122, .aload_n 1, 1, 0, 0, []), (123, .getfield 25, 3, 11, 13, [57]), (126, .iconst 0, 1, 0, 0, []), (127, .aload_n 0, 1, 0, 0, []), (128, .getfield 25, 3, 11, 13, [57]), (131, .iconst 0, 1, 0, 0, []), (132, .bipush 8, 2, 0, 0, []), (134, .invokestatic 74, 3, 0, 100003, [72])]),
  (152, [(137, .aload_n 1, 1, 0, 0, []), (138, .getfield 28, 3, 11, 14, [58]), (141, .iconst 0, 1, 0, 0, []), (142, .aload_n 0, 1, 0, 0, []), (143, .getfield 28, 3, 11, 14, [58]), (146, .iconst 0, 1, 0, 0, []), (147, .bipush 8, 2, 0, 0, []), (149, .invokestatic 74, 3, 0, 100003, [72])]),
  (167, [(152, .aload_n 1, 1, 0, 0, []), (153, .getfield 31, 3, 11, 15, [61]), (156, .iconst 0, 1, 0, 0, []), (157, .aload_n 0, 1, 0, 0, []), (158, .getfield 31, 3, 11, 15, [61]), (161, .iconst 0, 1, 0, 0, []), (162, .bipush 6, 2, 0, 0, []), (164, .invokestatic 74, 3, 0, 100003, [72])]),
  (182, [(167, .aload_n 1, 1, 0, 0, []), (168, .getfield 34, 3, 11, 16, [62]), (171, .iconst 0, 1, 0, 0, []), (172, .aload_n 0, 1, 0, 0, []), (173, .getfield 34, 3, 11, 16, [62]), (176, .iconst 0, 1, 0, 0, []), (177, .bipush 6, 2, 0, 0, []), (179, .invokestatic 74, 3, 0, 100003, [72])]),
  (197, [(182, .aload_n 1, 1, 0, 0, []), (183, .getfield 37, 3, 11, 17, [25]), (186, .iconst 0, 1, 0, 0, []), (187, .aload_n 0, 1, 0, 0, []), (188, .getfield 37, 3, 11, 17, [25]), (191, .iconst 0, 1, 0, 0, []), (192, .bipush 6, 2, 0, 0, []), (194, .invokestatic 74, 3, 0, 100003, [72])]),
  (212, [(197, .aload_n 1, 1, 0, 0, []), (198, .getfield 40, 3, 11, 18, [26]), (201, .iconst 0, 1, 0, 0, []), (202, .aload_n 0, 1, 0, 0, []), (203, .getfield 40, 3, 11, 18, [26]), (206, .iconst 0, 1, 0, 0, []), (207, .bipush 6, 2, 0, 0, []), (209, .invokestatic 74, 3, 0, 100003, [72])]),
  (227, [(212, .aload_n 1, 1, 0, 0, []), (213, .getfield 43, 3, 11, 19, [27]), (216, .iconst 0, 1, 0, 0, []), (217, .aload_n 0, 1, 0, 0, []), (218, .getfield 43, 3, 11, 19, [27]), (221, .iconst 0, 1, 0, 0, []), (222, .bipush 6, 2, 0, 0, []), (224, .invokestatic 74, 3, 0, 100003, [72])]),
  (228, [(227, .return_, 1, 0, 0, [])])]
theorem C_78_ok : codOk q_78.1.cls q_78.2.1 C_78 := codR_ok (own := "DrownedRooms$Valley") (cc := prog_12_method_2_code) RT_2_ok (by decide +kernel)
theorem h_78 : mQ 78 q_78 C_78 := ⟨mq_78, by decide +kernel, by decide, C_78_ok⟩
noncomputable def C_79 : eCode := [(11, [(0, .aload_n 0, 1, 0, 0, []), (1, .iconst 0, 1, 0, 0, []), (2, .putfield 24, 3, 8, 1, [6]), (5, .aload_n 0, 1, 0, 0, []), (6, .iconst 0, 1, 0, 0, []), (7, .putfield 28, 3, 8, 0, [7]), (10, .return_, 1, 0, 0, [])])]
theorem C_79_ok : codOk q_79.1.cls q_79.2.1 C_79 := codR_ok (own := "DrownedRooms$Sentence") (cc := prog_9_method_3_code) RT_5_ok (by decide +kernel)
theorem h_79 : mQ 79 q_79 C_79 := ⟨mq_79, by decide +kernel, by decide, C_79_ok⟩
noncomputable def C_80 : eCode := [(6, [(0, .aload_n 0, 1, 0, 0, []), (1, .iconst 0, 1, 0, 0, []), (2, .putfield 28, 3, 3, 2, [6]), (5, .return_, 1, 0, 0, [])])]
theorem C_80_ok : codOk q_80.1.cls q_80.2.1 C_80 := codR_ok (own := "DrownedRooms$History") (cc := prog_4_method_4_code) RT_4_ok (by decide +kernel)
theorem h_80 : mQ 80 q_80 C_80 := ⟨mq_80, by decide +kernel, by decide, C_80_ok⟩
noncomputable def C_81 : eCode := [(5, [(0, .aload_n 0, 1, 0, 0, []), (1, .getfield 127, 3, 12, 15, [51]), (4, .ireturn, 1, 0, 0, [])])]
theorem C_81_ok : codOk q_81.1.cls q_81.2.1 C_81 := codR_ok (own := "DrownedRooms") (cc := prog_1_method_5_code) RT_0_ok (by decide +kernel)
theorem h_81 : mQ 81 q_81 C_81 := ⟨mq_81, by decide +kernel, by decide, C_81_ok⟩
noncomputable def C_82 : eCode := [(56, [(0, .iload_n 1, 1, 0, 0, []), (1, .tableswitch 99 0 6 #[43, 51, 59, 67, 75, 83, 91], 43, 0, 0, []), (44, .aload_n 0, 1, 0, 0, []), (45, .getfield 31, 3, 12, 3, [54]), (48, .getfield 201, 3, 5, 1, [63]), (51, .ireturn, 1, 0, 0, []), (52, .aload_n 0, 1, 0, 0, []), (53, .getfield 31, 3, 12, 3, [54])]),
  (72, [(56, .getfield 204, 3, 5, 2, [64]), (59, .ireturn, 1, 0, 0, []), (60, .aload_n 0, 1, 0, 0, []), (61, .getfield 31, 3, 12, 3, [54]), (64, .getfield 207, 3, 5, 3, [65]), (67, .ireturn, 1, 0, 0, []), (68, .aload_n 0, 1, 0, 0, []), (69, .getfield 31, 3, 12, 3, [54])]),
  (88, [(72, .getfield 210, 3, 5, 4, [66]), (75, .ireturn, 1, 0, 0, []), (76, .aload_n 0, 1, 0, 0, []), (77, .getfield 31, 3, 12, 3, [54]), (80, .invokevirtual 213, 3, 5000, 83, [67]), (83, .ireturn, 1, 0, 0, []), (84, .aload_n 0, 1, 0, 0, []), (85, .getfield 31, 3, 12, 3, [54])]),
  (102, [(88, .invokevirtual 216, 3, 5000, 86, [68]), (91, .ireturn, 1, 0, 0, []), (92, .aload_n 0, 1, 0, 0, []), (93, .getfield 31, 3, 12, 3, [54]), (96, .invokevirtual 219, 3, 5000, 88, [69]), (99, .ireturn, 1, 0, 0, []), (100, .iconst (-1), 1, 0, 0, []), (101, .ireturn, 1, 0, 0, [])])]
theorem C_82_ok : codOk q_82.1.cls q_82.2.1 C_82 := codR_ok (own := "DrownedRooms") (cc := prog_1_method_8_code) RT_0_ok (by decide +kernel)
theorem h_82 : mQ 82 q_82 C_82 := ⟨mq_82, by decide +kernel, by decide, C_82_ok⟩
noncomputable def C_83 : eCode := [(18, [(0, .aload_n 0, 1, 0, 0, []), (1, .getfield 29, 3, 5, 0, [10]), (4, .invokevirtual 76, 3, 11000, 84, [23]), (7, .aload_n 0, 1, 0, 0, []), (8, .getfield 29, 3, 5, 0, [10]), (11, .aload_n 0, 1, 0, 0, []), (12, .getfield 43, 3, 5, 2, [24]), (15, .invokevirtual 80, 3, 11001, 85, [25])]),
  (22, [(18, .iconst (-1), 1, 0, 0, []), (19, .ixor, 1, 0, 0, []), (20, .iand, 1, 0, 0, []), (21, .ireturn, 1, 0, 0, [])])]
theorem C_83_ok : codOk q_83.1.cls q_83.2.1 C_83 := codR_ok (own := "DrownedRooms$Lake") (cc := prog_6_method_6_code) RT_3_ok (by decide +kernel)
theorem h_83 : mQ 83 q_83 C_83 := ⟨mq_83, by decide +kernel, by decide, C_83_ok⟩
noncomputable def C_84 : eCode := [(9, [(0, .iconst 1, 1, 0, 0, []), (1, .aload_n 0, 1, 0, 0, []), (2, .getfield 68, 3, 11, 6, [54]), (5, .ishl, 1, 0, 0, []), (6, .iconst 1, 1, 0, 0, []), (7, .isub, 1, 0, 0, []), (8, .ireturn, 1, 0, 0, [])])]
theorem C_84_ok : codOk q_84.1.cls q_84.2.1 C_84 := codR_ok (own := "DrownedRooms$Valley") (cc := prog_12_method_7_code) RT_2_ok (by decide +kernel)
theorem h_84 : mQ 84 q_84 C_84 := ⟨mq_84, by decide +kernel, by decide, C_84_ok⟩
noncomputable def C_85 : eCode := [(12, [(0, .iconst 0, 1, 0, 0, []), (1, .istore_n 2, 1, 0, 0, []), (2, .iconst 0, 1, 0, 0, []), (3, .istore_n 3, 1, 0, 0, []), (4, .iload_n 3, 1, 0, 0, []), (5, .aload_n 0, 1, 0, 0, []), (6, .getfield 68, 3, 11, 6, [54]), (9, .if_icmp .ge 25, 3, 0, 0, [])]),
  (24, [(12, .iload_n 1, 1, 0, 0, []), (13, .aload_n 0, 1, 0, 0, []), (14, .getfield 25, 3, 11, 13, [57]), (17, .iload_n 3, 1, 0, 0, []), (18, .iaload, 1, 0, 0, []), (19, .if_icmp .gt 9, 3, 0, 0, []), (22, .iload_n 2, 1, 0, 0, []), (23, .iconst 1, 1, 0, 0, [])]),
  (36, [(24, .iload_n 3, 1, 0, 0, []), (25, .ishl, 1, 0, 0, []), (26, .ior, 1, 0, 0, []), (27, .istore_n 2, 1, 0, 0, []), (28, .iinc 3 1, 3, 0, 0, []), (31, .goto (-27), 3, 0, 0, []), (34, .iload_n 2, 1, 0, 0, []), (35, .ireturn, 1, 0, 0, [])])]
theorem C_85_ok : codOk q_85.1.cls q_85.2.1 C_85 := codR_ok (own := "DrownedRooms$Valley") (cc := prog_12_method_6_code) RT_2_ok (by decide +kernel)
theorem h_85 : mQ 85 q_85 C_85 := ⟨mq_85, by decide +kernel, by decide, C_85_ok⟩
noncomputable def C_86 : eCode := [(12, [(0, .iconst 0, 1, 0, 0, []), (1, .istore_n 1, 1, 0, 0, []), (2, .iconst 0, 1, 0, 0, []), (3, .istore_n 2, 1, 0, 0, []), (4, .iload_n 2, 1, 0, 0, []), (5, .aload_n 0, 1, 0, 0, []), (6, .getfield 29, 3, 5, 0, [10]), (9, .getfield 84, 3, 11, 7, [26])]),
  (26, [(12, .if_icmp .ge 17, 3, 0, 0, []), (15, .iload_n 1, 1, 0, 0, []), (16, .aload_n 0, 1, 0, 0, []), (17, .iload_n 2, 1, 0, 0, []), (18, .invokevirtual 87, 3, 5001, 87, [27]), (21, .ior, 1, 0, 0, []), (22, .istore_n 1, 1, 0, 0, []), (23, .iinc 2 1, 3, 0, 0, [])]),
  (31, [(26, .goto (-22), 3, 0, 0, []), (29, .iload_n 1, 1, 0, 0, []), (30, .ireturn, 1, 0, 0, [])])]
theorem C_86_ok : codOk q_86.1.cls q_86.2.1 C_86 := codR_ok (own := "DrownedRooms$Lake") (cc := prog_6_method_7_code) RT_3_ok (by decide +kernel)
theorem h_86 : mQ 86 q_86 C_86 := ⟨mq_86, by decide +kernel, by decide, C_86_ok⟩
noncomputable def C_87 : eCode := [(14, [(0, .aload_n 0, 1, 0, 0, []), (1, .getfield 11, 3, 5, 5, [15]), (4, .iload_n 1, 1, 0, 0, []), (5, .iaload, 1, 0, 0, []), (6, .iconst (-1), 1, 0, 0, []), (7, .if_icmp .ne 7, 3, 0, 0, []), (10, .iconst 0, 1, 0, 0, []), (11, .goto 11, 3, 0, 0, [])]),
  (23, [(14, .iconst 1, 1, 0, 0, []), (15, .aload_n 0, 1, 0, 0, []), (16, .getfield 11, 3, 5, 5, [15]), (19, .iload_n 1, 1, 0, 0, []), (20, .iaload, 1, 0, 0, []), (21, .ishl, 1, 0, 0, []), (22, .ireturn, 1, 0, 0, [])])]
theorem C_87_ok : codOk q_87.1.cls q_87.2.1 C_87 := codR_ok (own := "DrownedRooms$Lake") (cc := prog_6_method_9_code) RT_3_ok (by decide +kernel)
theorem h_87 : mQ 87 q_87 C_87 := ⟨mq_87, by decide +kernel, by decide, C_87_ok⟩
noncomputable def C_88 : eCode := [(12, [(0, .iconst 0, 1, 0, 0, []), (1, .istore_n 1, 1, 0, 0, []), (2, .iconst 0, 1, 0, 0, []), (3, .istore_n 2, 1, 0, 0, []), (4, .iload_n 2, 1, 0, 0, []), (5, .aload_n 0, 1, 0, 0, []), (6, .getfield 29, 3, 5, 0, [10]), (9, .getfield 93, 3, 11, 6, [28])]),
  (24, [(12, .if_icmp .ge 18, 3, 0, 0, []), (15, .iload_n 1, 1, 0, 0, []), (16, .aload_n 0, 1, 0, 0, []), (17, .getfield 26, 3, 5, 9, [22]), (20, .iload_n 2, 1, 0, 0, []), (21, .iaload, 1, 0, 0, []), (22, .iadd, 1, 0, 0, []), (23, .istore_n 1, 1, 0, 0, [])]),
  (32, [(24, .iinc 2 1, 3, 0, 0, []), (27, .goto (-23), 3, 0, 0, []), (30, .iload_n 1, 1, 0, 0, []), (31, .ireturn, 1, 0, 0, [])])]
theorem C_88_ok : codOk q_88.1.cls q_88.2.1 C_88 := codR_ok (own := "DrownedRooms$Lake") (cc := prog_6_method_11_code) RT_3_ok (by decide +kernel)
theorem h_88 : mQ 88 q_88 C_88 := ⟨mq_88, by decide +kernel, by decide, C_88_ok⟩
noncomputable def C_89 : eCode := [(16, [(0, .aload_n 0, 1, 0, 0, []), (1, .iload_n 1, 1, 0, 0, []), (2, .invokevirtual 176, 3, 12001, 90, [70]), (5, .ifCond .eq 21, 3, 0, 0, []), (8, .aload_n 0, 1, 0, 0, []), (9, .iload_n 2, 1, 0, 0, []), (10, .invokevirtual 144, 3, 12001, 91, [71]), (13, .ifCond .eq 13, 3, 0, 0, [])]),
  (29, [(16, .iload_n 3, 1, 0, 0, []), (17, .iconst 1, 1, 0, 0, []), (18, .bipush 30, 2, 0, 0, []), (20, .invokestatic 222, 3, 3, 53, [72]), (23, .ifCond .ne 5, 3, 0, 0, []), (26, .iconst (-1), 1, 0, 0, []), (27, .ireturn, 1, 0, 0, []), (28, .aload_n 0, 1, 0, 0, [])]),
  (45, [(29, .getfield 31, 3, 12, 3, [54]), (32, .iload_n 1, 1, 0, 0, []), (33, .iload_n 2, 1, 0, 0, []), (34, .invokevirtual 226, 3, 5002, 92, [73]), (37, .istore 4, 2, 0, 0, []), (39, .iload 4, 2, 0, 0, []), (41, .ifCond .ne 24, 3, 0, 0, []), (44, .aload_n 0, 1, 0, 0, [])]),
  (61, [(45, .getfield 41, 3, 12, 5, [58]), (48, .aload_n 0, 1, 0, 0, []), (49, .getfield 31, 3, 12, 3, [54]), (52, .invokevirtual 230, 3, 3001, 96, [74]), (55, .aload_n 0, 1, 0, 0, []), (56, .getfield 31, 3, 12, 3, [54]), (59, .iload_n 1, 1, 0, 0, []), (60, .iload_n 2, 1, 0, 0, [])]),
  (68, [(61, .iload_n 3, 1, 0, 0, []), (62, .invokevirtual 234, 3, 5003, 99, [75]), (65, .iload 4, 2, 0, 0, []), (67, .ireturn, 1, 0, 0, [])])]
theorem C_89_ok : codOk q_89.1.cls q_89.2.1 C_89 := codR_ok (own := "DrownedRooms") (cc := prog_1_method_9_code) RT_0_ok (by decide +kernel)
theorem h_89 : mQ 89 q_89 C_89 := ⟨mq_89, by decide +kernel, by decide, C_89_ok⟩
noncomputable def C_90 : eCode := [(16, [(0, .iload_n 1, 1, 0, 0, []), (1, .ifCond .lt 18, 3, 0, 0, []), (4, .iload_n 1, 1, 0, 0, []), (5, .aload_n 0, 1, 0, 0, []), (6, .getfield 19, 3, 12, 1, [9]), (9, .getfield 391, 3, 11, 7, [76]), (12, .if_icmp .ge 7, 3, 0, 0, []), (15, .iconst 1, 1, 0, 0, [])]),
  (21, [(16, .goto 4, 3, 0, 0, []), (19, .iconst 0, 1, 0, 0, []), (20, .ireturn, 1, 0, 0, [])])]
theorem C_90_ok : codOk q_90.1.cls q_90.2.1 C_90 := codR_ok (own := "DrownedRooms") (cc := prog_1_method_43_code) RT_0_ok (by decide +kernel)
theorem h_90 : mQ 90 q_90 C_90 := ⟨mq_90, by decide +kernel, by decide, C_90_ok⟩
noncomputable def C_91 : eCode := [(16, [(0, .iload_n 1, 1, 0, 0, []), (1, .ifCond .lt 18, 3, 0, 0, []), (4, .iload_n 1, 1, 0, 0, []), (5, .aload_n 0, 1, 0, 0, []), (6, .getfield 19, 3, 12, 1, [9]), (9, .getfield 388, 3, 11, 6, [77]), (12, .if_icmp .ge 7, 3, 779, 0, []), (15, .iconst 1, 1, 0, 0, [])]),
  (21, [(16, .goto 4, 3, 0, 0, []), (19, .iconst 0, 1, 0, 0, []), (20, .ireturn, 1, 0, 0, [])])]
theorem C_91_ok : codOk q_91.1.cls q_91.2.1 C_91 := codR_ok (own := "DrownedRooms") (cc := prog_1_method_42_code) RT_0_ok (by decide +kernel)
theorem h_91 : mQ 91 q_91 C_91 := ⟨mq_91, by decide +kernel, by decide, C_91_ok⟩
noncomputable def C_92 : eCode := [(12, [(0, .aload_n 0, 1, 0, 0, []), (1, .getfield 11, 3, 5, 5, [15]), (4, .iload_n 1, 1, 0, 0, []), (5, .iaload, 1, 0, 0, []), (6, .iconst (-1), 1, 0, 0, []), (7, .if_icmp .eq 5, 3, 0, 0, []), (10, .iconst 1, 1, 0, 0, []), (11, .ireturn, 1, 0, 0, [])]),
  (24, [(12, .aload_n 0, 1, 0, 0, []), (13, .iload_n 2, 1, 0, 0, []), (14, .invokevirtual 96, 3, 5001, 93, [29]), (17, .iconst (-1), 1, 0, 0, []), (18, .if_icmp .eq 5, 3, 0, 0, []), (21, .iconst 2, 1, 0, 0, []), (22, .ireturn, 1, 0, 0, []), (23, .aload_n 0, 1, 0, 0, [])]),
  (40, [(24, .iload_n 2, 1, 0, 0, []), (25, .invokevirtual 99, 3, 5001, 94, [30]), (28, .aload_n 0, 1, 0, 0, []), (29, .getfield 29, 3, 5, 0, [10]), (32, .getfield 102, 3, 11, 16, [31]), (35, .iload_n 1, 1, 0, 0, []), (36, .iaload, 1, 0, 0, []), (37, .if_icmp .le 7, 3, 0, 0, [])]),
  (46, [(40, .iconst 3, 1, 0, 0, []), (41, .goto 4, 3, 0, 0, []), (44, .iconst 0, 1, 0, 0, []), (45, .ireturn, 1, 0, 0, [])])]
theorem C_92_ok : codOk q_92.1.cls q_92.2.1 C_92 := codR_ok (own := "DrownedRooms$Lake") (cc := prog_6_method_12_code) RT_3_ok (by decide +kernel)
theorem h_92 : mQ 92 q_92 C_92 := ⟨mq_92, by decide +kernel, by decide, C_92_ok⟩
noncomputable def C_93 : eCode := [(14, [(0, .iconst 0, 1, 0, 0, []), (1, .istore_n 2, 1, 0, 0, []), (2, .iload_n 2, 1, 0, 0, []), (3, .aload_n 0, 1, 0, 0, []), (4, .getfield 29, 3, 5, 0, [10]), (7, .getfield 84, 3, 11, 7, [26]), (10, .if_icmp .ge 21, 3, 0, 0, []), (13, .aload_n 0, 1, 0, 0, [])]),
  (28, [(14, .getfield 11, 3, 5, 5, [15]), (17, .iload_n 2, 1, 0, 0, []), (18, .iaload, 1, 0, 0, []), (19, .iload_n 1, 1, 0, 0, []), (20, .if_icmp .ne 5, 3, 0, 0, []), (23, .iload_n 2, 1, 0, 0, []), (24, .ireturn, 1, 0, 0, []), (25, .iinc 2 1, 3, 0, 0, [])]),
  (33, [(28, .goto (-26), 3, 0, 0, []), (31, .iconst (-1), 1, 0, 0, []), (32, .ireturn, 1, 0, 0, [])])]
theorem C_93_ok : codOk q_93.1.cls q_93.2.1 C_93 := codR_ok (own := "DrownedRooms$Lake") (cc := prog_6_method_10_code) RT_3_ok (by decide +kernel)
theorem h_93 : mQ 93 q_93 C_93 := ⟨mq_93, by decide +kernel, by decide, C_93_ok⟩
noncomputable def C_94 : eCode := [(14, [(0, .iconst 0, 1, 0, 0, []), (1, .aload_n 0, 1, 0, 0, []), (2, .getfield 43, 3, 5, 2, [24]), (5, .aload_n 0, 1, 0, 0, []), (6, .getfield 29, 3, 5, 0, [10]), (9, .getfield 67, 3, 11, 13, [32]), (12, .iload_n 1, 1, 0, 0, []), (13, .iaload, 1, 0, 0, [])]),
  (19, [(14, .isub, 1, 0, 0, []), (15, .invokestatic 70, 3, 0, 100000, [33]), (18, .ireturn, 1, 0, 0, [])])]
theorem C_94_ok : codOk q_94.1.cls q_94.2.1 C_94 := codR_ok (own := "DrownedRooms$Lake") (cc := prog_6_method_5_code) RT_3_ok (by decide +kernel)
theorem h_94 : mQ 94 q_94 C_94 := ⟨mq_94, by decide +kernel, by decide, C_94_ok⟩
noncomputable def C_96 : eCode := [(14, [(0, .aload_n 0, 1, 0, 0, []), (1, .getfield 13, 3, 3, 0, [3]), (4, .aload_n 0, 1, 0, 0, []), (5, .getfield 20, 3, 3, 1, [7]), (8, .aaload, 1, 0, 0, []), (9, .aload_n 1, 1, 0, 0, []), (10, .invokevirtual 24, 3, 5001, 97, [8]), (13, .aload_n 0, 1, 0, 0, [])]),
  (27, [(14, .aload_n 0, 1, 0, 0, []), (15, .getfield 20, 3, 3, 1, [7]), (18, .iconst 1, 1, 0, 0, []), (19, .iadd, 1, 0, 0, []), (20, .bipush 8, 2, 0, 0, []), (22, .irem, 1, 0, 0, []), (23, .putfield 20, 3, 3, 1, [9]), (26, .aload_n 0, 1, 0, 0, [])]),
  (42, [(27, .bipush 8, 2, 0, 0, []), (29, .aload_n 0, 1, 0, 0, []), (30, .getfield 28, 3, 3, 2, [10]), (33, .iconst 1, 1, 0, 0, []), (34, .iadd, 1, 0, 0, []), (35, .invokestatic 31, 3, 0, 100001, [11]), (38, .putfield 28, 3, 3, 2, [6]), (41, .return_, 1, 0, 0, [])])]
theorem C_96_ok : codOk q_96.1.cls q_96.2.1 C_96 := codR_ok (own := "DrownedRooms$History") (cc := prog_4_method_2_code) RT_4_ok (by decide +kernel)
theorem h_96 : mQ 96 q_96 C_96 := ⟨mq_96, by decide +kernel, by decide, C_96_ok⟩
noncomputable def C_97 : eCode := [(16, [(0, .aload_n 0, 1, 0, 0, []), (1, .aload_n 1, 1, 0, 0, []), (2, .getfield 36, 3, 5, 1, [34]), (5, .putfield 36, 3, 5, 1, [9]), (8, .aload_n 0, 1, 0, 0, []), (9, .aload_n 1, 1, 0, 0, []), (10, .getfield 43, 3, 5, 2, [24]), (13, .putfield 43, 3, 5, 2, [12])]),
  (32, [(16, .aload_n 0, 1, 0, 0, []), (17, .aload_n 1, 1, 0, 0, []), (18, .getfield 46, 3, 5, 3, [35]), (21, .putfield 46, 3, 5, 3, [13]), (24, .aload_n 0, 1, 0, 0, []), (25, .aload_n 1, 1, 0, 0, []), (26, .getfield 49, 3, 5, 4, [36]), (29, .putfield 49, 3, 5, 4, [14])]),
  (47, [(32, .aload_n 1, 1, 0, 0, []), (33, .getfield 11, 3, 5, 5, [15]), (36, .iconst 0, 1, 0, 0, []), (37, .aload_n 0, 1, 0, 0, []), (38, .getfield 11, 3, 5, 5, [15]), (41, .iconst 0, 1, 0, 0, []), (42, .bipush 6, 2, 0, 0, []), (44, .invokestatic 61, 3, 0, 100003, [37])]),
  (62, [(47, .aload_n 1, 1, 0, 0, []), (48, .getfield 17, 3, 5, 6, [17]), (51, .iconst 0, 1, 0, 0, []), (52, .aload_n 0, 1, 0, 0, []), (53, .getfield 17, 3, 5, 6, [17]), (56, .iconst 0, 1, 0, 0, []), (57, .bipush 6, 2, 0, 0, []), (59, .invokestatic 61, 3, 0, 100003, [37])]),
  (77, [(62, .aload_n 1, 1, 0, 0, []), (63, .getfield 20, 3, 5, 7, [19]), (66, .iconst 0, 1, 0, 0, []), (67, .aload_n 0, 1, 0, 0, []), (68, .getfield 20, 3, 5, 7, [19]), (71, .iconst 0, 1, 0, 0, []), (72, .bipush 6, 2, 0, 0, []), (74, .invokestatic 61, 3, 0, 100003, [37])]),
  (92, [(77, .aload_n 1, 1, 0, 0, []), (78, .getfield 23, 3, 5, 8, [21]), (81, .iconst 0, 1, 0, 0, []), (82, .aload_n 0, 1, 0, 0, []), (83, .getfield 23, 3, 5, 8, [21]), (86, .iconst 0, 1, 0, 0, []), (87, .bipush 6, 2, 0, 0, []), (89, .invokestatic 61, 3, 0, 100003, [37])]),
  (107, [(92, .aload_n 1, 1, 0, 0, []), (93, .getfield 26, 3, 5, 9, [22]), (96, .iconst 0, 1, 0, 0, []), (97, .aload_n 0, 1, 0, 0, []), (98, .getfield 26, 3, 5, 9, [22]), (101, .iconst 0, 1, 0, 0, []), (102, .bipush 8, 2, 0, 0, []), (104, .invokestatic 61, 3, 0, 100003, [37])]),
  (108, [(107, .return_, 1, 0, 0, [])])]
theorem C_97_ok : codOk q_97.1.cls q_97.2.1 C_97 := codR_ok (own := "DrownedRooms$Lake") (cc := prog_6_method_3_code) RT_3_ok (by decide +kernel)
theorem h_97 : mQ 97 q_97 C_97 := ⟨mq_97, by decide +kernel, by decide, C_97_ok⟩
noncomputable def C_99 : eCode := [(12, [(0, .aload_n 0, 1, 0, 0, []), (1, .getfield 11, 3, 5, 5, [15]), (4, .iload_n 1, 1, 0, 0, []), (5, .iload_n 2, 1, 0, 0, []), (6, .iastore, 1, 0, 0, []), (7, .aload_n 0, 1, 0, 0, []), (8, .getfield 17, 3, 5, 6, [17]), (11, .iload_n 1, 1, 0, 0, [])]),
  (15, [(12, .iload_n 3, 1, 0, 0, []), (13, .iastore, 1, 0, 0, []), (14, .return_, 1, 0, 0, [])])]
theorem C_99_ok : codOk q_99.1.cls q_99.2.1 C_99 := codR_ok (own := "DrownedRooms$Lake") (cc := prog_6_method_15_code) RT_3_ok (by decide +kernel)
theorem h_99 : mQ 99 q_99 C_99 := ⟨mq_99, by decide +kernel, by decide, C_99_ok⟩
noncomputable def C_100 : eCode := [(14, [(0, .aload_n 0, 1, 0, 0, []), (1, .iload_n 1, 1, 0, 0, []), (2, .invokevirtual 176, 3, 12001, 90, [70]), (5, .ifCond .ne 5, 3, 0, 0, []), (8, .iconst (-1), 1, 0, 0, []), (9, .ireturn, 1, 0, 0, []), (10, .aload_n 0, 1, 0, 0, []), (11, .getfield 31, 3, 12, 3, [54])]),
  (28, [(14, .iload_n 1, 1, 0, 0, []), (15, .invokevirtual 238, 3, 5001, 101, [78]), (18, .istore_n 2, 1, 0, 0, []), (19, .iload_n 2, 1, 0, 0, []), (20, .ifCond .ne 22, 3, 0, 0, []), (23, .aload_n 0, 1, 0, 0, []), (24, .getfield 41, 3, 12, 5, [58]), (27, .aload_n 0, 1, 0, 0, [])]),
  (44, [(28, .getfield 31, 3, 12, 3, [54]), (31, .invokevirtual 230, 3, 3001, 96, [74]), (34, .aload_n 0, 1, 0, 0, []), (35, .getfield 31, 3, 12, 3, [54]), (38, .iload_n 1, 1, 0, 0, []), (39, .invokevirtual 241, 3, 5001, 102, [79]), (42, .iload_n 2, 1, 0, 0, []), (43, .ireturn, 1, 0, 0, [])])]
theorem C_100_ok : codOk q_100.1.cls q_100.2.1 C_100 := codR_ok (own := "DrownedRooms") (cc := prog_1_method_10_code) RT_0_ok (by decide +kernel)
theorem h_100 : mQ 100 q_100 C_100 := ⟨mq_100, by decide +kernel, by decide, C_100_ok⟩
noncomputable def C_101 : eCode := [(14, [(0, .aload_n 0, 1, 0, 0, []), (1, .getfield 11, 3, 5, 5, [15]), (4, .iload_n 1, 1, 0, 0, []), (5, .iaload, 1, 0, 0, []), (6, .iconst (-1), 1, 0, 0, []), (7, .if_icmp .ne 7, 3, 0, 0, []), (10, .iconst 1, 1, 0, 0, []), (11, .goto 4, 3, 0, 0, [])]),
  (16, [(14, .iconst 0, 1, 0, 0, []), (15, .ireturn, 1, 0, 0, [])])]
theorem C_101_ok : codOk q_101.1.cls q_101.2.1 C_101 := codR_ok (own := "DrownedRooms$Lake") (cc := prog_6_method_13_code) RT_3_ok (by decide +kernel)
theorem h_101 : mQ 101 q_101 C_101 := ⟨mq_101, by decide +kernel, by decide, C_101_ok⟩
noncomputable def C_102 : eCode := [(12, [(0, .aload_n 0, 1, 0, 0, []), (1, .getfield 11, 3, 5, 5, [15]), (4, .iload_n 1, 1, 0, 0, []), (5, .iconst (-1), 1, 0, 0, []), (6, .iastore, 1, 0, 0, []), (7, .aload_n 0, 1, 0, 0, []), (8, .getfield 17, 3, 5, 6, [17]), (11, .iload_n 1, 1, 0, 0, [])]),
  (15, [(12, .iconst 0, 1, 0, 0, []), (13, .iastore, 1, 0, 0, []), (14, .return_, 1, 0, 0, [])])]
theorem C_102_ok : codOk q_102.1.cls q_102.2.1 C_102 := codR_ok (own := "DrownedRooms$Lake") (cc := prog_6_method_16_code) RT_3_ok (by decide +kernel)
theorem h_102 : mQ 102 q_102 C_102 := ⟨mq_102, by decide +kernel, by decide, C_102_ok⟩
noncomputable def C_103 : eCode := [(12, [(0, .iload_n 1, 1, 0, 0, []), (1, .iconst 0, 1, 0, 0, []), (2, .iconst 5, 1, 0, 0, []), (3, .invokestatic 222, 3, 3, 53, [72]), (6, .ifCond .ne 5, 3, 0, 0, []), (9, .iconst (-1), 1, 0, 0, []), (10, .ireturn, 1, 0, 0, []), (11, .aload_n 0, 1, 0, 0, [])]),
  (28, [(12, .getfield 31, 3, 12, 3, [54]), (15, .iload_n 1, 1, 0, 0, []), (16, .invokevirtual 244, 3, 5001, 104, [80]), (19, .istore_n 2, 1, 0, 0, []), (20, .iload_n 2, 1, 0, 0, []), (21, .ifCond .ne 22, 3, 0, 0, []), (24, .aload_n 0, 1, 0, 0, []), (25, .getfield 41, 3, 12, 5, [58])]),
  (44, [(28, .aload_n 0, 1, 0, 0, []), (29, .getfield 31, 3, 12, 3, [54]), (32, .invokevirtual 230, 3, 3001, 96, [74]), (35, .aload_n 0, 1, 0, 0, []), (36, .getfield 31, 3, 12, 3, [54]), (39, .iload_n 1, 1, 0, 0, []), (40, .putfield 207, 3, 5, 3, [81]), (43, .iload_n 2, 1, 0, 0, [])]),
  (45, [(44, .ireturn, 1, 0, 0, [])])]
theorem C_103_ok : codOk q_103.1.cls q_103.2.1 C_103 := codR_ok (own := "DrownedRooms") (cc := prog_1_method_11_code) RT_0_ok (by decide +kernel)
theorem h_103 : mQ 103 q_103 C_103 := ⟨mq_103, by decide +kernel, by decide, C_103_ok⟩
noncomputable def C_104 : eCode := [(14, [(0, .aload_n 0, 1, 0, 0, []), (1, .getfield 46, 3, 5, 3, [35]), (4, .iload_n 1, 1, 0, 0, []), (5, .if_icmp .ne 7, 3, 0, 0, []), (8, .iconst 1, 1, 0, 0, []), (9, .goto 4, 3, 0, 0, []), (12, .iconst 0, 1, 0, 0, []), (13, .ireturn, 1, 0, 0, [])])]
theorem C_104_ok : codOk q_104.1.cls q_104.2.1 C_104 := codR_ok (own := "DrownedRooms$Lake") (cc := prog_6_method_14_code) RT_3_ok (by decide +kernel)
theorem h_104 : mQ 104 q_104 C_104 := ⟨mq_104, by decide +kernel, by decide, C_104_ok⟩
noncomputable def C_105 : eCode := [(13, [(0, .iload_n 1, 1, 0, 0, []), (1, .iconst 1, 1, 0, 0, []), (2, .bipush 60, 2, 0, 0, []), (4, .invokestatic 222, 3, 3, 53, [72]), (7, .ifCond .ne 5, 3, 0, 0, []), (10, .iconst (-1), 1, 0, 0, []), (11, .ireturn, 1, 0, 0, []), (12, .aload_n 0, 1, 0, 0, [])]),
  (33, [(13, .getfield 31, 3, 12, 3, [54]), (16, .invokevirtual 247, 3, 5000, 106, [82]), (19, .ifCond .le 14, 3, 0, 0, []), (22, .aload_n 0, 1, 0, 0, []), (23, .getfield 41, 3, 12, 5, [58]), (26, .aload_n 0, 1, 0, 0, []), (27, .getfield 31, 3, 12, 3, [54]), (30, .invokevirtual 230, 3, 3001, 96, [74])]),
  (42, [(33, .aload_n 0, 1, 0, 0, []), (34, .getfield 31, 3, 12, 3, [54]), (37, .iload_n 1, 1, 0, 0, []), (38, .invokevirtual 250, 3, 5001, 107, [83]), (41, .ireturn, 1, 0, 0, [])])]
theorem C_105_ok : codOk q_105.1.cls q_105.2.1 C_105 := codR_ok (own := "DrownedRooms") (cc := prog_1_method_12_code) RT_0_ok (by decide +kernel)
theorem h_105 : mQ 105 q_105 C_105 := ⟨mq_105, by decide +kernel, by decide, C_105_ok⟩
noncomputable def C_106 : eCode := [(9, [(0, .sipush 400, 3, 0, 0, []), (3, .aload_n 0, 1, 0, 0, []), (4, .getfield 36, 3, 5, 1, [34]), (7, .isub, 1, 0, 0, []), (8, .ireturn, 1, 0, 0, [])])]
theorem C_106_ok : codOk q_106.1.cls q_106.2.1 C_106 := codR_ok (own := "DrownedRooms$Lake") (cc := prog_6_method_4_code) RT_3_ok (by decide +kernel)
theorem h_106 : mQ 106 q_106 C_106 := ⟨mq_106, by decide +kernel, by decide, C_106_ok⟩
noncomputable def C_107 : eCode := [(12, [(0, .iload_n 1, 1, 0, 0, []), (1, .aload_n 0, 1, 0, 0, []), (2, .invokevirtual 105, 3, 5000, 106, [38]), (5, .invokestatic 108, 3, 0, 100001, [39]), (8, .istore_n 2, 1, 0, 0, []), (9, .iconst 0, 1, 0, 0, []), (10, .istore_n 3, 1, 0, 0, []), (11, .iload_n 3, 1, 0, 0, [])]),
  (28, [(12, .iload_n 2, 1, 0, 0, []), (13, .if_icmp .ge 13, 3, 0, 0, []), (16, .aload_n 0, 1, 0, 0, []), (17, .invokevirtual 111, 3, 5000, 108, [40]), (20, .iinc 3 1, 3, 0, 0, []), (23, .goto (-12), 3, 0, 0, []), (26, .iload_n 2, 1, 0, 0, []), (27, .ireturn, 1, 0, 0, [])])]
theorem C_107_ok : codOk q_107.1.cls q_107.2.1 C_107 := codR_ok (own := "DrownedRooms$Lake") (cc := prog_6_method_17_code) RT_3_ok (by decide +kernel)
theorem h_107 : mQ 107 q_107 C_107 := ⟨mq_107, by decide +kernel, by decide, C_107_ok⟩
noncomputable def C_108 : eCode := [(14, [(0, .aload_n 0, 1, 0, 0, []), (1, .dup, 1, 0, 0, []), (2, .getfield 49, 3, 5, 4, [36]), (5, .aload_n 0, 1, 0, 0, []), (6, .getfield 29, 3, 5, 0, [10]), (9, .aload_n 0, 1, 0, 0, []), (10, .getfield 43, 3, 5, 2, [24]), (13, .aload_n 0, 1, 0, 0, [])]),
  (30, [(14, .getfield 46, 3, 5, 3, [35]), (17, .invokevirtual 137, 3, 11002, 109, [41]), (20, .iadd, 1, 0, 0, []), (21, .putfield 49, 3, 5, 4, [14]), (24, .aload_n 0, 1, 0, 0, []), (25, .aload_n 0, 1, 0, 0, []), (26, .getfield 29, 3, 5, 0, [10]), (29, .aload_n 0, 1, 0, 0, [])]),
  (48, [(30, .getfield 36, 3, 5, 1, [34]), (33, .aload_n 0, 1, 0, 0, []), (34, .getfield 43, 3, 5, 2, [24]), (37, .aload_n 0, 1, 0, 0, []), (38, .getfield 46, 3, 5, 3, [35]), (41, .invokevirtual 140, 3, 11003, 110, [42]), (44, .putfield 43, 3, 5, 2, [12]), (47, .iconst 0, 1, 0, 0, [])]),
  (64, [(48, .istore_n 1, 1, 0, 0, []), (49, .iload_n 1, 1, 0, 0, []), (50, .aload_n 0, 1, 0, 0, []), (51, .getfield 29, 3, 5, 0, [10]), (54, .getfield 84, 3, 11, 7, [26]), (57, .if_icmp .ge 30, 3, 0, 0, []), (60, .aload_n 0, 1, 0, 0, []), (61, .getfield 11, 3, 5, 5, [15])]),
  (76, [(64, .iload_n 1, 1, 0, 0, []), (65, .iaload, 1, 0, 0, []), (66, .iconst (-1), 1, 0, 0, []), (67, .if_icmp .eq 14, 3, 0, 0, []), (70, .aload_n 0, 1, 0, 0, []), (71, .iload_n 1, 1, 0, 0, []), (72, .aload_n 0, 1, 0, 0, []), (73, .getfield 11, 3, 5, 5, [15])]),
  (92, [(76, .iload_n 1, 1, 0, 0, []), (77, .iaload, 1, 0, 0, []), (78, .invokevirtual 144, 3, 5002, 111, [43]), (81, .iinc 1 1, 3, 0, 0, []), (84, .goto (-35), 3, 0, 0, []), (87, .aload_n 0, 1, 0, 0, []), (88, .dup, 1, 0, 0, []), (89, .getfield 36, 3, 5, 1, [34])]),
  (98, [(92, .iconst 1, 1, 0, 0, []), (93, .iadd, 1, 0, 0, []), (94, .putfield 36, 3, 5, 1, [9]), (97, .return_, 1, 0, 0, [])])]
theorem C_108_ok : codOk q_108.1.cls q_108.2.1 C_108 := codR_ok (own := "DrownedRooms$Lake") (cc := prog_6_method_24_code) RT_3_ok (by decide +kernel)
theorem h_108 : mQ 108 q_108 C_108 := ⟨mq_108, by decide +kernel, by decide, C_108_ok⟩
noncomputable def C_109 : eCode := [(14, [(0, .iload_n 1, 1, 0, 0, []), (1, .aload_n 0, 1, 0, 0, []), (2, .getfield 59, 3, 11, 3, [70]), (5, .if_icmp .lt 7, 3, 0, 0, []), (8, .iload_n 2, 1, 0, 0, []), (9, .goto 4, 3, 0, 0, []), (12, .iconst 0, 1, 0, 0, []), (13, .ireturn, 1, 0, 0, [])])]
theorem C_109_ok : codOk q_109.1.cls q_109.2.1 C_109 := codR_ok (own := "DrownedRooms$Valley") (cc := prog_12_method_5_code) RT_2_ok (by decide +kernel)
theorem h_109 : mQ 109 q_109 C_109 := ⟨mq_109, by decide +kernel, by decide, C_109_ok⟩
noncomputable def C_110 : eCode := [(13, [(0, .iload_n 2, 1, 0, 0, []), (1, .iload_n 3, 1, 0, 0, []), (2, .isub, 1, 0, 0, []), (3, .istore 4, 2, 0, 0, []), (5, .aload_n 0, 1, 0, 0, []), (6, .getfield 53, 3, 11, 1, [68]), (9, .ifCond .le 23, 3, 0, 0, []), (12, .iload_n 1, 1, 0, 0, [])]),
  (26, [(13, .iconst 1, 1, 0, 0, []), (14, .iadd, 1, 0, 0, []), (15, .aload_n 0, 1, 0, 0, []), (16, .getfield 53, 3, 11, 1, [68]), (19, .irem, 1, 0, 0, []), (20, .ifCond .ne 12, 3, 0, 0, []), (23, .iload 4, 2, 0, 0, []), (25, .aload_n 0, 1, 0, 0, [])]),
  (43, [(26, .getfield 56, 3, 11, 2, [69]), (29, .iadd, 1, 0, 0, []), (30, .istore 4, 2, 0, 0, []), (32, .iconst 0, 1, 0, 0, []), (33, .bipush 99, 2, 0, 0, []), (35, .iload 4, 2, 0, 0, []), (37, .invokestatic 101, 3, 0, 100001, [73]), (40, .invokestatic 107, 3, 0, 100000, [74])]),
  (44, [(43, .ireturn, 1, 0, 0, [])])]
theorem C_110_ok : codOk q_110.1.cls q_110.2.1 C_110 := codR_ok (own := "DrownedRooms$Valley") (cc := prog_12_method_4_code) RT_2_ok (by decide +kernel)
theorem h_110 : mQ 110 q_110 C_110 := ⟨mq_110, by decide +kernel, by decide, C_110_ok⟩
noncomputable def C_111 : eCode := [(14, [(0, .aload_n 0, 1, 0, 0, []), (1, .iload_n 2, 1, 0, 0, []), (2, .invokevirtual 99, 3, 5001, 94, [30]), (5, .istore_n 3, 1, 0, 0, []), (6, .aload_n 0, 1, 0, 0, []), (7, .getfield 29, 3, 5, 0, [10]), (10, .getfield 148, 3, 11, 14, [44]), (13, .iload_n 2, 1, 0, 0, [])]),
  (27, [(14, .iaload, 1, 0, 0, []), (15, .istore 4, 2, 0, 0, []), (17, .iload_n 3, 1, 0, 0, []), (18, .aload_n 0, 1, 0, 0, []), (19, .getfield 29, 3, 5, 0, [10]), (22, .getfield 102, 3, 11, 16, [31]), (25, .iload_n 1, 1, 0, 0, []), (26, .iaload, 1, 0, 0, [])]),
  (42, [(27, .if_icmp .gt 18, 3, 0, 0, []), (30, .iload_n 3, 1, 0, 0, []), (31, .ifCond .ne 20, 3, 0, 0, []), (34, .aload_n 0, 1, 0, 0, []), (35, .getfield 20, 3, 5, 7, [19]), (38, .iload_n 1, 1, 0, 0, []), (39, .iaload, 1, 0, 0, []), (40, .iload 4, 2, 0, 0, [])]),
  (56, [(42, .if_icmp .ge 9, 3, 0, 0, []), (45, .aload_n 0, 1, 0, 0, []), (46, .iload_n 1, 1, 0, 0, []), (47, .invokevirtual 151, 3, 5001, 102, [45]), (50, .return_, 1, 0, 0, []), (51, .iload_n 3, 1, 0, 0, []), (52, .ifCond .le 16, 3, 0, 0, []), (55, .aload_n 0, 1, 0, 0, [])]),
  (68, [(56, .getfield 23, 3, 5, 8, [21]), (59, .iload_n 1, 1, 0, 0, []), (60, .dup2, 1, 0, 0, []), (61, .iaload, 1, 0, 0, []), (62, .iconst 1, 1, 0, 0, []), (63, .iadd, 1, 0, 0, []), (64, .iastore, 1, 0, 0, []), (65, .goto 25, 3, 0, 0, [])]),
  (79, [(68, .aload_n 0, 1, 0, 0, []), (69, .getfield 20, 3, 5, 7, [19]), (72, .iload_n 1, 1, 0, 0, []), (73, .dup2, 1, 0, 0, []), (74, .iaload, 1, 0, 0, []), (75, .iload 4, 2, 0, 0, []), (77, .isub, 1, 0, 0, []), (78, .iastore, 1, 0, 0, [])]),
  (90, [(79, .aload_n 0, 1, 0, 0, []), (80, .getfield 26, 3, 5, 9, [22]), (83, .iload_n 2, 1, 0, 0, []), (84, .dup2, 1, 0, 0, []), (85, .iaload, 1, 0, 0, []), (86, .iload 4, 2, 0, 0, []), (88, .iadd, 1, 0, 0, []), (89, .iastore, 1, 0, 0, [])]),
  (100, [(90, .aload_n 0, 1, 0, 0, []), (91, .getfield 17, 3, 5, 6, [17]), (94, .iload_n 1, 1, 0, 0, []), (95, .dup2, 1, 0, 0, []), (96, .iaload, 1, 0, 0, []), (97, .iconst 1, 1, 0, 0, []), (98, .isub, 1, 0, 0, []), (99, .iastore, 1, 0, 0, [])]),
  (114, [(100, .aload_n 0, 1, 0, 0, []), (101, .getfield 17, 3, 5, 6, [17]), (104, .iload_n 1, 1, 0, 0, []), (105, .iaload, 1, 0, 0, []), (106, .ifCond .gt 8, 3, 0, 0, []), (109, .aload_n 0, 1, 0, 0, []), (110, .iload_n 1, 1, 0, 0, []), (111, .invokevirtual 151, 3, 5001, 102, [45])]),
  (115, [(114, .return_, 1, 0, 0, [])])]
theorem C_111_ok : codOk q_111.1.cls q_111.2.1 C_111 := codR_ok (own := "DrownedRooms$Lake") (cc := prog_6_method_25_code) RT_3_ok (by decide +kernel)
theorem h_111 : mQ 111 q_111 C_111 := ⟨mq_111, by decide +kernel, by decide, C_111_ok⟩
noncomputable def C_112 : eCode := [(12, [(0, .aload_n 0, 1, 0, 0, []), (1, .getfield 41, 3, 12, 5, [58]), (4, .aload_n 0, 1, 0, 0, []), (5, .getfield 31, 3, 12, 3, [54]), (8, .invokevirtual 253, 3, 3001, 113, [84]), (11, .ireturn, 1, 0, 0, [])])]
theorem C_112_ok : codOk q_112.1.cls q_112.2.1 C_112 := codR_ok (own := "DrownedRooms") (cc := prog_1_method_13_code) RT_0_ok (by decide +kernel)
theorem h_112 : mQ 112 q_112 C_112 := ⟨mq_112, by decide +kernel, by decide, C_112_ok⟩
noncomputable def C_113 : eCode := [(14, [(0, .aload_n 0, 1, 0, 0, []), (1, .getfield 28, 3, 3, 2, [10]), (4, .ifCond .ne 5, 3, 0, 0, []), (7, .iconst (-1), 1, 0, 0, []), (8, .ireturn, 1, 0, 0, []), (9, .aload_n 0, 1, 0, 0, []), (10, .aload_n 0, 1, 0, 0, []), (11, .getfield 20, 3, 3, 1, [7])]),
  (26, [(14, .bipush 8, 2, 0, 0, []), (16, .iadd, 1, 0, 0, []), (17, .iconst 1, 1, 0, 0, []), (18, .isub, 1, 0, 0, []), (19, .bipush 8, 2, 0, 0, []), (21, .irem, 1, 0, 0, []), (22, .putfield 20, 3, 3, 1, [9]), (25, .aload_n 0, 1, 0, 0, [])]),
  (40, [(26, .dup, 1, 0, 0, []), (27, .getfield 28, 3, 3, 2, [10]), (30, .iconst 1, 1, 0, 0, []), (31, .isub, 1, 0, 0, []), (32, .putfield 28, 3, 3, 2, [6]), (35, .aload_n 1, 1, 0, 0, []), (36, .aload_n 0, 1, 0, 0, []), (37, .getfield 13, 3, 3, 0, [3])]),
  (53, [(40, .aload_n 0, 1, 0, 0, []), (41, .getfield 20, 3, 3, 1, [7]), (44, .aaload, 1, 0, 0, []), (45, .invokevirtual 24, 3, 5001, 97, [8]), (48, .aload_n 0, 1, 0, 0, []), (49, .getfield 28, 3, 3, 2, [10]), (52, .ireturn, 1, 0, 0, [])])]
theorem C_113_ok : codOk q_113.1.cls q_113.2.1 C_113 := codR_ok (own := "DrownedRooms$History") (cc := prog_4_method_3_code) RT_4_ok (by decide +kernel)
theorem h_113 : mQ 113 q_113 C_113 := ⟨mq_113, by decide +kernel, by decide, C_113_ok⟩
noncomputable def C_114 : eCode := [(15, [(0, .iload_n 1, 1, 0, 0, []), (1, .iconst 0, 1, 0, 0, []), (2, .bipush 60, 2, 0, 0, []), (4, .invokestatic 222, 3, 3, 53, [72]), (7, .ifCond .eq 14, 3, 0, 0, []), (10, .iload_n 1, 1, 0, 0, []), (11, .aload_n 0, 1, 0, 0, []), (12, .getfield 31, 3, 12, 3, [54])]),
  (31, [(15, .invokevirtual 247, 3, 5000, 106, [82]), (18, .if_icmp .le 5, 3, 0, 0, []), (21, .iconst (-1), 1, 0, 0, []), (22, .ireturn, 1, 0, 0, []), (23, .aload_n 0, 1, 0, 0, []), (24, .getfield 31, 3, 12, 3, [54]), (27, .getfield 204, 3, 5, 2, [64]), (30, .istore_n 2, 1, 0, 0, [])]),
  (43, [(31, .iconst 0, 1, 0, 0, []), (32, .istore_n 3, 1, 0, 0, []), (33, .iload_n 3, 1, 0, 0, []), (34, .iload_n 1, 1, 0, 0, []), (35, .if_icmp .ge 34, 3, 0, 0, []), (38, .aload_n 0, 1, 0, 0, []), (39, .getfield 19, 3, 12, 1, [9]), (42, .aload_n 0, 1, 0, 0, [])]),
  (59, [(43, .getfield 31, 3, 12, 3, [54]), (46, .getfield 201, 3, 5, 1, [63]), (49, .iload_n 3, 1, 0, 0, []), (50, .iadd, 1, 0, 0, []), (51, .iload_n 2, 1, 0, 0, []), (52, .aload_n 0, 1, 0, 0, []), (53, .getfield 31, 3, 12, 3, [54]), (56, .getfield 207, 3, 5, 3, [65])]),
  (71, [(59, .invokevirtual 257, 3, 11003, 110, [85]), (62, .istore_n 2, 1, 0, 0, []), (63, .iinc 3 1, 3, 0, 0, []), (66, .goto (-33), 3, 0, 0, []), (69, .iload_n 2, 1, 0, 0, []), (70, .ireturn, 1, 0, 0, [])])]
theorem C_114_ok : codOk q_114.1.cls q_114.2.1 C_114 := codR_ok (own := "DrownedRooms") (cc := prog_1_method_14_code) RT_0_ok (by decide +kernel)
theorem h_114 : mQ 114 q_114 C_114 := ⟨mq_114, by decide +kernel, by decide, C_114_ok⟩
noncomputable def C_115 : eCode := [(15, [(0, .aload_n 0, 1, 0, 0, []), (1, .iload_n 1, 1, 0, 0, []), (2, .invokevirtual 144, 3, 12001, 91, [71]), (5, .ifCond .eq 13, 3, 0, 0, []), (8, .iload_n 2, 1, 0, 0, []), (9, .iconst 1, 1, 0, 0, []), (10, .bipush 60, 2, 0, 0, []), (12, .invokestatic 222, 3, 3, 53, [72])]),
  (29, [(15, .ifCond .ne 5, 3, 0, 0, []), (18, .iconst (-1), 1, 0, 0, []), (19, .ireturn, 1, 0, 0, []), (20, .iconst 0, 1, 0, 0, []), (21, .istore_n 3, 1, 0, 0, []), (22, .aload_n 0, 1, 0, 0, []), (23, .getfield 31, 3, 12, 3, [54]), (26, .getfield 204, 3, 5, 2, [64])]),
  (43, [(29, .istore 4, 2, 0, 0, []), (31, .iconst 0, 1, 0, 0, []), (32, .istore 5, 2, 0, 0, []), (34, .iload 5, 2, 0, 0, []), (36, .iload_n 2, 1, 0, 0, []), (37, .if_icmp .ge 66, 3, 0, 0, []), (40, .iload 5, 2, 0, 0, []), (42, .aload_n 0, 1, 0, 0, [])]),
  (63, [(43, .getfield 31, 3, 12, 3, [54]), (46, .invokevirtual 247, 3, 5000, 106, [82]), (49, .if_icmp .ge 54, 3, 0, 0, []), (52, .aload_n 0, 1, 0, 0, []), (53, .getfield 19, 3, 12, 1, [9]), (56, .aload_n 0, 1, 0, 0, []), (57, .getfield 31, 3, 12, 3, [54]), (60, .getfield 201, 3, 5, 1, [63])]),
  (80, [(63, .iload 5, 2, 0, 0, []), (65, .iadd, 1, 0, 0, []), (66, .iload 4, 2, 0, 0, []), (68, .aload_n 0, 1, 0, 0, []), (69, .getfield 31, 3, 12, 3, [54]), (72, .getfield 207, 3, 5, 3, [65]), (75, .invokevirtual 257, 3, 11003, 110, [85]), (78, .istore 4, 2, 0, 0, [])]),
  (97, [(80, .iload 4, 2, 0, 0, []), (82, .aload_n 0, 1, 0, 0, []), (83, .getfield 19, 3, 12, 1, [9]), (86, .getfield 158, 3, 11, 13, [86]), (89, .iload_n 1, 1, 0, 0, []), (90, .iaload, 1, 0, 0, []), (91, .if_icmp .gt 6, 3, 0, 0, []), (94, .iinc 3 1, 3, 0, 0, [])]),
  (105, [(97, .iinc 5 1, 3, 0, 0, []), (100, .goto (-66), 3, 0, 0, []), (103, .iload_n 3, 1, 0, 0, []), (104, .ireturn, 1, 0, 0, [])])]
theorem C_115_ok : codOk q_115.1.cls q_115.2.1 C_115 := codR_ok (own := "DrownedRooms") (cc := prog_1_method_15_code) RT_0_ok (by decide +kernel)
theorem h_115 : mQ 115 q_115 C_115 := ⟨mq_115, by decide +kernel, by decide, C_115_ok⟩
