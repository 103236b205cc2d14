/-! rows of code -/
noncomputable def C_36 : eCode := [(16, [(0, .aload_n 0, 1, 0, 0, []), (1, .invokevirtual 492, 3, 37000, 150000, [4]), (4, .ifCond .eq 12, 3, 0, 0, []), (7, .aload_n 0, 1, 0, 0, []), (8, .getfield 9, 3, 0, 150000, [0]), (11, .iload_n 1, 1, 0, 0, []), (12, .invokestatic 495, 3, 2, 38, [5]), (15, .ireturn, 1, 0, 0, [])])]
theorem C_36_ok : codOk q_36.1.cls q_36.2.1 C_36 := codR_ok (own := "java/lang/String") (cc := prog_26_method_56_code) RT_14_ok (by decide +kernel)
theorem h_36 : mQ 36 q_36 C_36 := ⟨mq_36, by decide +kernel, by decide, C_36_ok⟩
noncomputable def C_37 : eCode := [(19, [(0, .getstatic 38, 3, 0, 0, [2]), (3, .ifCond .eq 14, 3, 0, 0, []), (6, .aload_n 0, 1, 0, 0, []), (7, .getfield 15, 3, 1, 150000, [3]), (10, .ifCond .ne 7, 3, 0, 0, []), (13, .iconst 1, 1, 0, 0, []), (14, .goto 4, 3, 0, 0, []), (18, .ireturn, 1, 0, 0, [])])]
theorem C_37_ok : codOk q_37.1.cls q_37.2.1 C_37 := codR_ok (own := "java/lang/String") (cc := prog_26_method_154_code) RT_14_ok (by decide +kernel)
theorem h_37 : mQ 37 q_37 C_37 := ⟨mq_37, by decide +kernel, by decide, C_37_ok⟩
noncomputable def C_38 : eCode := [(12, [(0, .iload_n 1, 1, 0, 0, []), (1, .aload_n 0, 1, 0, 0, []), (2, .arraylength, 1, 0, 150000, []), (3, .invokestatic 9, 3, 2, 39, [0]), (6, .aload_n 0, 1, 0, 0, []), (7, .iload_n 1, 1, 0, 0, []), (8, .baload, 1, 0, 150000, []), (9, .sipush 255, 3, 0, 0, [])]),
  (15, [(12, .iand, 1, 888, 150000, []), (13, .i2c, 1, 0, 0, []), (14, .ireturn, 1, 0, 0, [])])]
theorem C_38_ok : codOk q_38.1.cls q_38.2.1 C_38 := codR_ok (own := "java/lang/StringLatin1") (cc := prog_28_method_2_code) RT_15_ok (by decide +kernel)
theorem h_38 : mQ 38 q_38 C_38 := ⟨mq_38, by decide +kernel, by decide, C_38_ok⟩
noncomputable def C_39 : eCode := [(10, [(0, .iload_n 0, 1, 0, 0, []), (1, .iload_n 1, 1, 0, 0, []), (2, .getstatic 1053, 3, 12, 150000, [6]), (5, .invokestatic 1059, 3, 3, 40, [7]), (8, .pop, 1, 0, 0, []), (9, .return_, 1, 0, 0, [])])]
theorem C_39_ok : codOk q_39.1.cls q_39.2.1 C_39 := codR_ok (own := "java/lang/String") (cc := prog_26_method_155_code) RT_14_ok (by decide +kernel)
theorem h_39 : mQ 39 q_39 C_39 := ⟨mq_39, by decide +kernel, by decide, C_39_ok⟩
noncomputable def C_40 : eCode := [(18, [(0, .iload_n 0, 1, 0, 0, []), (1, .ifCond .lt 8, 3, 0, 0, []), (4, .iload_n 0, 1, 0, 0, []), (5, .iload_n 1, 1, 0, 0, []), (6, .if_icmp .lt 10, 3, 0, 0, []), (16, .iload_n 0, 1, 0, 0, []), (17, .ireturn, 1, 0, 0, [])])]
theorem C_40_ok : codOk q_40.1.cls q_40.2.1 C_40 := codR_ok (own := "jdk/internal/util/Preconditions") (cc := prog_37_method_11_code) RT_16_ok (by decide +kernel)
theorem h_40 : mQ 40 q_40 C_40 := ⟨mq_40, by decide +kernel, by decide, C_40_ok⟩
noncomputable def C_45 : eCode := [(15, [(0, .iload_n 0, 1, 0, 0, []), (1, .bipush 59, 2, 0, 0, []), (3, .if_icmp .eq 33, 3, 888, 150000, []), (6, .iload_n 0, 1, 0, 0, []), (7, .bipush 60, 2, 0, 0, []), (9, .if_icmp .eq 27, 3, 888, 150000, []), (12, .iload_n 0, 1, 0, 0, []), (13, .bipush 61, 2, 0, 0, [])]),
  (31, [(15, .if_icmp .eq 21, 3, 888, 150000, []), (18, .iload_n 0, 1, 0, 0, []), (19, .bipush 62, 2, 0, 0, []), (21, .if_icmp .eq 15, 3, 888, 150000, []), (24, .iload_n 0, 1, 0, 0, []), (25, .bipush 40, 2, 0, 0, []), (27, .if_icmp .eq 9, 3, 888, 150000, []), (30, .iload_n 0, 1, 0, 0, [])]),
  (42, [(31, .bipush 41, 2, 0, 0, []), (33, .if_icmp .ne 7, 3, 888, 150000, []), (36, .iconst 1, 1, 0, 0, []), (37, .goto 4, 3, 0, 0, []), (40, .iconst 0, 1, 0, 0, []), (41, .ireturn, 1, 0, 0, [])])]
theorem C_45_ok : codOk q_45.1.cls q_45.2.1 C_45 := codR_ok (own := "DrownedRooms$Tape") (cc := prog_11_method_27_code) RT_1_ok (by decide +kernel)
theorem h_45 : mQ 45 q_45 C_45 := ⟨mq_45, by decide +kernel, by decide, C_45_ok⟩
noncomputable def C_46 : eCode := [(14, [(0, .aload_n 0, 1, 0, 0, []), (1, .getfield 34, 3, 10, 5, [20]), (4, .iconst 1, 1, 0, 0, []), (5, .if_icmp .ne 7, 3, 888, 150000, []), (8, .iconst 1, 1, 0, 0, []), (9, .goto 4, 3, 0, 0, []), (12, .iconst 0, 1, 0, 0, []), (13, .ireturn, 1, 0, 0, [])])]
theorem C_46_ok : codOk q_46.1.cls q_46.2.1 C_46 := codR_ok (own := "DrownedRooms$Tape") (cc := prog_11_method_12_code) RT_1_ok (by decide +kernel)
theorem h_46 : mQ 46 q_46 C_46 := ⟨mq_46, by decide +kernel, by decide, C_46_ok⟩
noncomputable def C_47 : eCode := [(65, [(0, .aload_n 1, 1, 0, 0, []), (1, .invokevirtual 128, 3, 10000, 48, [33]), (4, .tableswitch 170 0 8 #[52, 74, 96, 118, 140, 146, 152, 158, 164], 52, 0, 0, []), (56, .aload_n 0, 1, 0, 0, []), (57, .aload_n 1, 1, 0, 0, []), (58, .invokevirtual 132, 3, 11001, 49, [34]), (61, .ifCond .eq 15, 3, 0, 0, []), (64, .aload_n 0, 1, 0, 0, [])]),
  (79, [(65, .aload_n 1, 1, 0, 0, []), (66, .invokevirtual 135, 3, 11001, 51, [35]), (69, .ifCond .eq 7, 3, 0, 0, []), (72, .iconst 1, 1, 0, 0, []), (73, .goto 4, 3, 0, 0, []), (76, .iconst 0, 1, 0, 0, []), (77, .ireturn, 1, 0, 0, []), (78, .aload_n 0, 1, 0, 0, [])]),
  (95, [(79, .aload_n 1, 1, 0, 0, []), (80, .invokevirtual 132, 3, 11001, 49, [34]), (83, .ifCond .eq 15, 3, 0, 0, []), (86, .aload_n 0, 1, 0, 0, []), (87, .aload_n 1, 1, 0, 0, []), (88, .invokevirtual 138, 3, 11001, 55, [36]), (91, .ifCond .eq 7, 3, 0, 0, []), (94, .iconst 1, 1, 0, 0, [])]),
  (109, [(95, .goto 4, 3, 0, 0, []), (98, .iconst 0, 1, 0, 0, []), (99, .ireturn, 1, 0, 0, []), (100, .aload_n 0, 1, 0, 0, []), (101, .aload_n 1, 1, 0, 0, []), (102, .invokevirtual 132, 3, 11001, 49, [34]), (105, .ifCond .eq 15, 3, 0, 0, []), (108, .aload_n 0, 1, 0, 0, [])]),
  (123, [(109, .aload_n 1, 1, 0, 0, []), (110, .invokevirtual 141, 3, 11001, 56, [37]), (113, .ifCond .eq 7, 3, 0, 0, []), (116, .iconst 1, 1, 0, 0, []), (117, .goto 4, 3, 0, 0, []), (120, .iconst 0, 1, 0, 0, []), (121, .ireturn, 1, 0, 0, []), (122, .aload_n 0, 1, 0, 0, [])]),
  (139, [(123, .aload_n 1, 1, 0, 0, []), (124, .invokevirtual 132, 3, 11001, 49, [34]), (127, .ifCond .eq 15, 3, 0, 0, []), (130, .aload_n 0, 1, 0, 0, []), (131, .aload_n 1, 1, 0, 0, []), (132, .invokevirtual 144, 3, 11001, 57, [38]), (135, .ifCond .eq 7, 3, 0, 0, []), (138, .iconst 1, 1, 0, 0, [])]),
  (151, [(139, .goto 4, 3, 0, 0, []), (142, .iconst 0, 1, 0, 0, []), (143, .ireturn, 1, 0, 0, []), (144, .aload_n 0, 1, 0, 0, []), (145, .aload_n 1, 1, 0, 0, []), (146, .invokevirtual 147, 3, 11001, 58, [39]), (149, .ireturn, 1, 0, 0, []), (150, .aload_n 0, 1, 0, 0, [])]),
  (163, [(151, .aload_n 1, 1, 0, 0, []), (152, .invokevirtual 150, 3, 11001, 62, [40]), (155, .ireturn, 1, 0, 0, []), (156, .aload_n 0, 1, 0, 0, []), (157, .aload_n 1, 1, 0, 0, []), (158, .invokevirtual 153, 3, 11001, 65, [41]), (161, .ireturn, 1, 0, 0, []), (162, .aload_n 0, 1, 0, 0, [])]),
  (175, [(163, .aload_n 1, 1, 0, 0, []), (164, .invokevirtual 156, 3, 11001, 66, [42]), (167, .ireturn, 1, 0, 0, []), (168, .aload_n 0, 1, 0, 0, []), (169, .aload_n 1, 1, 0, 0, []), (170, .invokevirtual 159, 3, 11001, 69, [43]), (173, .ireturn, 1, 0, 0, []), (174, .aload_n 1, 1, 0, 0, [])]),
  (180, [(175, .iconst 1, 1, 0, 0, []), (176, .invokevirtual 117, 3, 10001, 50, [44]), (179, .ireturn, 1, 0, 0, [])])]
theorem C_47_ok : codOk q_47.1.cls q_47.2.1 C_47 := codR_ok (own := "DrownedRooms$Valley") (cc := prog_12_method_14_code) RT_2_ok (by decide +kernel)
theorem h_47 : mQ 47 q_47 C_47 := ⟨mq_47, by decide +kernel, by decide, C_47_ok⟩
noncomputable def C_48 : eCode := [(5, [(0, .aload_n 0, 1, 0, 0, []), (1, .getfield 37, 3, 10, 6, [29]), (4, .ireturn, 1, 0, 0, [])])]
theorem C_48_ok : codOk q_48.1.cls q_48.2.1 C_48 := codR_ok (own := "DrownedRooms$Tape") (cc := prog_11_method_16_code) RT_1_ok (by decide +kernel)
theorem h_48 : mQ 48 q_48 C_48 := ⟨mq_48, by decide +kernel, by decide, C_48_ok⟩
noncomputable def C_49 : eCode := [(12, [(0, .iconst 1, 1, 0, 0, []), (1, .aload_n 1, 1, 0, 0, []), (2, .invokevirtual 128, 3, 10000, 48, [33]), (5, .ishl, 1, 0, 0, []), (6, .istore_n 2, 1, 0, 0, []), (7, .aload_n 0, 1, 0, 0, []), (8, .getfield 125, 3, 11, 8, [45]), (11, .iload_n 2, 1, 0, 0, [])]),
  (24, [(12, .iand, 1, 888, 150000, []), (13, .ifCond .eq 9, 3, 0, 0, []), (16, .aload_n 1, 1, 0, 0, []), (17, .iconst 3, 1, 0, 0, []), (18, .invokevirtual 117, 3, 10001, 50, [44]), (21, .ireturn, 1, 0, 0, []), (22, .aload_n 0, 1, 0, 0, []), (23, .dup, 1, 0, 0, [])]),
  (34, [(24, .getfield 125, 3, 11, 8, [45]), (27, .iload_n 2, 1, 0, 0, []), (28, .ior, 1, 888, 150000, []), (29, .putfield 125, 3, 11, 8, [23]), (32, .iconst 1, 1, 0, 0, []), (33, .ireturn, 1, 0, 0, [])])]
theorem C_49_ok : codOk q_49.1.cls q_49.2.1 C_49 := codR_ok (own := "DrownedRooms$Valley") (cc := prog_12_method_15_code) RT_2_ok (by decide +kernel)
theorem h_49 : mQ 49 q_49 C_49 := ⟨mq_49, by decide +kernel, by decide, C_49_ok⟩
noncomputable def C_50 : eCode := [(14, [(0, .aload_n 0, 1, 0, 0, []), (1, .iload_n 1, 1, 0, 0, []), (2, .putfield 28, 3, 10, 9, [9]), (5, .aload_n 0, 1, 0, 0, []), (6, .aload_n 0, 1, 0, 0, []), (7, .getfield 22, 3, 10, 3, [15]), (10, .putfield 31, 3, 10, 10, [10]), (13, .iconst 0, 1, 0, 0, [])]),
  (15, [(14, .ireturn, 1, 0, 0, [])])]
theorem C_50_ok : codOk q_50.1.cls q_50.2.1 C_50 := codR_ok (own := "DrownedRooms$Tape") (cc := prog_11_method_9_code) RT_1_ok (by decide +kernel)
theorem h_50 : mQ 50 q_50 C_50 := ⟨mq_50, by decide +kernel, by decide, C_50_ok⟩
noncomputable def C_51 : eCode := [(13, [(0, .aload_n 1, 1, 0, 0, []), (1, .iconst 0, 1, 0, 0, []), (2, .bipush 99, 2, 0, 0, []), (4, .invokevirtual 162, 3, 10002, 52, [46]), (7, .ifCond .ne 5, 3, 0, 0, []), (10, .iconst 0, 1, 0, 0, []), (11, .ireturn, 1, 0, 0, []), (12, .aload_n 0, 1, 0, 0, [])]),
  (22, [(13, .aload_n 1, 1, 0, 0, []), (14, .invokevirtual 166, 3, 10000, 54, [47]), (17, .putfield 49, 3, 11, 0, [15]), (20, .iconst 1, 1, 0, 0, []), (21, .ireturn, 1, 0, 0, [])])]
theorem C_51_ok : codOk q_51.1.cls q_51.2.1 C_51 := codR_ok (own := "DrownedRooms$Valley") (cc := prog_12_method_16_code) RT_2_ok (by decide +kernel)
theorem h_51 : mQ 51 q_51 C_51 := ⟨mq_51, by decide +kernel, by decide, C_51_ok⟩
noncomputable def C_52 : eCode := [(14, [(0, .aload_n 0, 1, 0, 0, []), (1, .invokevirtual 47, 3, 10000, 28, [30]), (4, .aload_n 0, 1, 0, 0, []), (5, .getfield 34, 3, 10, 5, [20]), (8, .iconst 3, 1, 0, 0, []), (9, .if_icmp .eq 9, 3, 0, 0, []), (12, .aload_n 0, 1, 0, 0, []), (13, .iconst 1, 1, 0, 0, [])]),
  (30, [(14, .invokevirtual 54, 3, 10001, 50, [31]), (17, .ireturn, 1, 0, 0, []), (18, .aload_n 0, 1, 0, 0, []), (19, .getfield 40, 3, 10, 7, [23]), (22, .iload_n 1, 1, 0, 0, []), (23, .iload_n 2, 1, 0, 0, []), (24, .invokestatic 58, 3, 3, 53, [32]), (27, .ifCond .ne 11, 3, 0, 0, [])]),
  (44, [(30, .aload_n 0, 1, 0, 0, []), (31, .iconst 2, 1, 0, 0, []), (32, .invokevirtual 54, 3, 10001, 50, [31]), (35, .ifCond .eq 7, 3, 0, 0, []), (38, .iconst 1, 1, 0, 0, []), (39, .goto 4, 3, 0, 0, []), (42, .iconst 0, 1, 0, 0, []), (43, .ireturn, 1, 0, 0, [])])]
theorem C_52_ok : codOk q_52.1.cls q_52.2.1 C_52 := codR_ok (own := "DrownedRooms$Tape") (cc := prog_11_method_20_code) RT_1_ok (by decide +kernel)
theorem h_52 : mQ 52 q_52 C_52 := ⟨mq_52, by decide +kernel, by decide, C_52_ok⟩
noncomputable def C_53 : eCode := [(14, [(0, .iload_n 0, 1, 0, 0, []), (1, .iload_n 1, 1, 0, 0, []), (2, .if_icmp .lt 12, 3, 888, 150000, []), (5, .iload_n 0, 1, 0, 0, []), (6, .iload_n 2, 1, 0, 0, []), (7, .if_icmp .gt 7, 3, 888, 150000, []), (10, .iconst 1, 1, 0, 0, []), (11, .goto 4, 3, 0, 0, [])]),
  (16, [(14, .iconst 0, 1, 0, 0, []), (15, .ireturn, 1, 0, 0, [])])]
theorem C_53_ok : codOk q_53.1.cls q_53.2.1 C_53 := codR_ok (own := "DrownedRooms") (cc := prog_1_method_46_code) RT_0_ok (by decide +kernel)
theorem h_53 : mQ 53 q_53 C_53 := ⟨mq_53, by decide +kernel, by decide, C_53_ok⟩
noncomputable def C_54 : eCode := [(5, [(0, .aload_n 0, 1, 0, 0, []), (1, .getfield 40, 3, 10, 7, [23]), (4, .ireturn, 1, 0, 0, [])])]
theorem C_54_ok : codOk q_54.1.cls q_54.2.1 C_54 := codR_ok (own := "DrownedRooms$Tape") (cc := prog_11_method_17_code) RT_1_ok (by decide +kernel)
theorem h_54 : mQ 54 q_54 C_54 := ⟨mq_54, by decide +kernel, by decide, C_54_ok⟩
noncomputable def C_55 : eCode := [(13, [(0, .aload_n 1, 1, 0, 0, []), (1, .iconst 1, 1, 0, 0, []), (2, .bipush 30, 2, 0, 0, []), (4, .invokevirtual 162, 3, 10002, 52, [46]), (7, .ifCond .ne 5, 3, 0, 0, []), (10, .iconst 0, 1, 0, 0, []), (11, .ireturn, 1, 0, 0, []), (12, .aload_n 0, 1, 0, 0, [])]),
  (30, [(13, .aload_n 1, 1, 0, 0, []), (14, .invokevirtual 166, 3, 10000, 54, [47]), (17, .putfield 53, 3, 11, 1, [16]), (20, .aload_n 1, 1, 0, 0, []), (21, .iconst 0, 1, 0, 0, []), (22, .bipush 9, 2, 0, 0, []), (24, .invokevirtual 162, 3, 10002, 52, [46]), (27, .ifCond .ne 5, 3, 0, 0, [])]),
  (42, [(30, .iconst 0, 1, 0, 0, []), (31, .ireturn, 1, 0, 0, []), (32, .aload_n 0, 1, 0, 0, []), (33, .aload_n 1, 1, 0, 0, []), (34, .invokevirtual 166, 3, 10000, 54, [47]), (37, .putfield 56, 3, 11, 2, [17]), (40, .iconst 1, 1, 0, 0, []), (41, .ireturn, 1, 0, 0, [])])]
theorem C_55_ok : codOk q_55.1.cls q_55.2.1 C_55 := codR_ok (own := "DrownedRooms$Valley") (cc := prog_12_method_17_code) RT_2_ok (by decide +kernel)
theorem h_55 : mQ 55 q_55 C_55 := ⟨mq_55, by decide +kernel, by decide, C_55_ok⟩
noncomputable def C_56 : eCode := [(13, [(0, .aload_n 1, 1, 0, 0, []), (1, .iconst 0, 1, 0, 0, []), (2, .bipush 99, 2, 0, 0, []), (4, .invokevirtual 162, 3, 10002, 52, [46]), (7, .ifCond .ne 5, 3, 0, 0, []), (10, .iconst 0, 1, 0, 0, []), (11, .ireturn, 1, 0, 0, []), (12, .aload_n 0, 1, 0, 0, [])]),
  (22, [(13, .aload_n 1, 1, 0, 0, []), (14, .invokevirtual 166, 3, 10000, 54, [47]), (17, .putfield 59, 3, 11, 3, [18]), (20, .iconst 1, 1, 0, 0, []), (21, .ireturn, 1, 0, 0, [])])]
theorem C_56_ok : codOk q_56.1.cls q_56.2.1 C_56 := codR_ok (own := "DrownedRooms$Valley") (cc := prog_12_method_18_code) RT_2_ok (by decide +kernel)
theorem h_56 : mQ 56 q_56 C_56 := ⟨mq_56, by decide +kernel, by decide, C_56_ok⟩
noncomputable def C_57 : eCode := [(13, [(0, .aload_n 1, 1, 0, 0, []), (1, .iconst 0, 1, 0, 0, []), (2, .bipush 12, 2, 0, 0, []), (4, .invokevirtual 162, 3, 10002, 52, [46]), (7, .ifCond .ne 5, 3, 0, 0, []), (10, .iconst 0, 1, 0, 0, []), (11, .ireturn, 1, 0, 0, []), (12, .aload_n 0, 1, 0, 0, [])]),
  (22, [(13, .aload_n 1, 1, 0, 0, []), (14, .invokevirtual 166, 3, 10000, 54, [47]), (17, .putfield 62, 3, 11, 4, [19]), (20, .iconst 1, 1, 0, 0, []), (21, .ireturn, 1, 0, 0, [])])]
theorem C_57_ok : codOk q_57.1.cls q_57.2.1 C_57 := codR_ok (own := "DrownedRooms$Valley") (cc := prog_12_method_19_code) RT_2_ok (by decide +kernel)
theorem h_57 : mQ 57 q_57 C_57 := ⟨mq_57, by decide +kernel, by decide, C_57_ok⟩
noncomputable def C_58 : eCode := [(14, [(0, .aload_n 0, 1, 0, 0, []), (1, .getfield 65, 3, 11, 5, [48]), (4, .iconst 5, 1, 0, 0, []), (5, .if_icmp .lt 9, 3, 0, 0, []), (8, .aload_n 1, 1, 0, 0, []), (9, .iconst 4, 1, 0, 0, []), (10, .invokevirtual 117, 3, 10001, 50, [44]), (13, .ireturn, 1, 0, 0, [])]),
  (28, [(14, .aload_n 0, 1, 0, 0, []), (15, .aload_n 1, 1, 0, 0, []), (16, .iconst 0, 1, 0, 0, []), (17, .aload_n 0, 1, 0, 0, []), (18, .getfield 65, 3, 11, 5, [48]), (21, .iadd, 1, 0, 0, []), (22, .invokevirtual 169, 3, 11002, 59, [49]), (25, .ifCond .eq 13, 3, 0, 0, [])]),
  (41, [(28, .aload_n 1, 1, 0, 0, []), (29, .iconst 0, 1, 0, 0, []), (30, .bipush 20, 2, 0, 0, []), (32, .invokevirtual 162, 3, 10002, 52, [46]), (35, .ifCond .ne 5, 3, 0, 0, []), (38, .iconst 0, 1, 0, 0, []), (39, .ireturn, 1, 0, 0, []), (40, .aload_n 0, 1, 0, 0, [])]),
  (55, [(41, .getfield 15, 3, 11, 10, [50]), (44, .aload_n 0, 1, 0, 0, []), (45, .getfield 65, 3, 11, 5, [48]), (48, .aload_n 1, 1, 0, 0, []), (49, .invokevirtual 166, 3, 10000, 54, [47]), (52, .iastore, 1, 0, 0, []), (53, .aload_n 1, 1, 0, 0, []), (54, .iconst 0, 1, 0, 0, [])]),
  (70, [(55, .bipush 20, 2, 0, 0, []), (57, .invokevirtual 162, 3, 10002, 52, [46]), (60, .ifCond .ne 5, 3, 0, 0, []), (63, .iconst 0, 1, 0, 0, []), (64, .ireturn, 1, 0, 0, []), (65, .aload_n 0, 1, 0, 0, []), (66, .getfield 19, 3, 11, 11, [51]), (69, .aload_n 0, 1, 0, 0, [])]),
  (84, [(70, .getfield 65, 3, 11, 5, [48]), (73, .aload_n 1, 1, 0, 0, []), (74, .invokevirtual 166, 3, 10000, 54, [47]), (77, .iastore, 1, 0, 0, []), (78, .aload_n 0, 1, 0, 0, []), (79, .dup, 1, 0, 0, []), (80, .getfield 65, 3, 11, 5, [48]), (83, .iconst 1, 1, 0, 0, [])]),
  (90, [(84, .iadd, 1, 0, 0, []), (85, .putfield 65, 3, 11, 5, [20]), (88, .iconst 1, 1, 0, 0, []), (89, .ireturn, 1, 0, 0, [])])]
theorem C_58_ok : codOk q_58.1.cls q_58.2.1 C_58 := codR_ok (own := "DrownedRooms$Valley") (cc := prog_12_method_20_code) RT_2_ok (by decide +kernel)
theorem h_58 : mQ 58 q_58 C_58 := ⟨mq_58, by decide +kernel, by decide, C_58_ok⟩
noncomputable def C_59 : eCode := [(16, [(0, .aload_n 1, 1, 0, 0, []), (1, .invokevirtual 86, 3, 10000, 28, [29]), (4, .aload_n 1, 1, 0, 0, []), (5, .invokevirtual 114, 3, 10000, 60, [52]), (8, .ifCond .ne 9, 3, 0, 0, []), (11, .aload_n 1, 1, 0, 0, []), (12, .iconst 1, 1, 0, 0, []), (13, .invokevirtual 117, 3, 10001, 50, [44])]),
  (29, [(16, .ireturn, 1, 0, 0, []), (17, .iconst 0, 1, 0, 0, []), (18, .istore_n 3, 1, 0, 0, []), (19, .iload_n 3, 1, 0, 0, []), (20, .bipush 19, 2, 0, 0, []), (22, .if_icmp .ge 29, 3, 888, 150000, []), (25, .aload_n 0, 1, 0, 0, []), (26, .getfield 11, 3, 11, 9, [24])]),
  (41, [(29, .iload_n 3, 1, 0, 0, []), (30, .laload, 1, 888, 150000, []), (31, .aload_n 1, 1, 0, 0, []), (32, .invokevirtual 121, 3, 10000, 61, [53]), (35, .lcmp, 1, 888, 150000, []), (36, .ifCond .ne 9, 3, 0, 0, []), (39, .aload_n 1, 1, 0, 0, []), (40, .iconst 3, 1, 0, 0, [])]),
  (57, [(41, .invokevirtual 117, 3, 10001, 50, [44]), (44, .ireturn, 1, 0, 0, []), (45, .iinc 3 1, 3, 0, 0, []), (48, .goto (-29), 3, 0, 0, []), (51, .aload_n 0, 1, 0, 0, []), (52, .getfield 11, 3, 11, 9, [24]), (55, .iload_n 2, 1, 0, 0, []), (56, .aload_n 1, 1, 0, 0, [])]),
  (63, [(57, .invokevirtual 121, 3, 10000, 61, [53]), (60, .lastore, 1, 888, 150000, []), (61, .iconst 1, 1, 0, 0, []), (62, .ireturn, 1, 0, 0, [])])]
theorem C_59_ok : codOk q_59.1.cls q_59.2.1 C_59 := codR_ok (own := "DrownedRooms$Valley") (cc := prog_12_method_23_code) RT_2_ok (by decide +kernel)
theorem h_59 : mQ 59 q_59 C_59 := ⟨mq_59, by decide +kernel, by decide, C_59_ok⟩
noncomputable def C_60 : eCode := [(16, [(0, .aload_n 0, 1, 0, 0, []), (1, .getfield 34, 3, 10, 5, [20]), (4, .iconst 2, 1, 0, 0, []), (5, .if_icmp .ne 15, 3, 888, 150000, []), (8, .aload_n 0, 1, 0, 0, []), (9, .getfield 37, 3, 10, 6, [29]), (12, .iconst (-1), 1, 0, 0, []), (13, .if_icmp .ne 7, 3, 888, 150000, [])]),
  (22, [(16, .iconst 1, 1, 0, 0, []), (17, .goto 4, 3, 0, 0, []), (20, .iconst 0, 1, 0, 0, []), (21, .ireturn, 1, 0, 0, [])])]
theorem C_60_ok : codOk q_60.1.cls q_60.2.1 C_60 := codR_ok (own := "DrownedRooms$Tape") (cc := prog_11_method_13_code) RT_1_ok (by decide +kernel)
theorem h_60 : mQ 60 q_60 C_60 := ⟨mq_60, by decide +kernel, by decide, C_60_ok⟩
noncomputable def C_61 : eCode := [(5, [(0, .aload_n 0, 1, 0, 0, []), (1, .getfield 43, 3, 10, 8, [26]), (4, .lreturn, 1, 0, 0, [])])]
theorem C_61_ok : codOk q_61.1.cls q_61.2.1 C_61 := codR_ok (own := "DrownedRooms$Tape") (cc := prog_11_method_18_code) RT_1_ok (by decide +kernel)
theorem h_61 : mQ 61 q_61 C_61 := ⟨mq_61, by decide +kernel, by decide, C_61_ok⟩
noncomputable def C_62 : eCode := [(15, [(0, .aload_n 0, 1, 0, 0, []), (1, .getfield 68, 3, 11, 6, [54]), (4, .bipush 8, 2, 0, 0, []), (6, .if_icmp .lt 9, 3, 0, 0, []), (9, .aload_n 1, 1, 0, 0, []), (10, .iconst 4, 1, 0, 0, []), (11, .invokevirtual 117, 3, 10001, 50, [44]), (14, .ireturn, 1, 0, 0, [])]),
  (29, [(15, .aload_n 0, 1, 0, 0, []), (16, .aload_n 1, 1, 0, 0, []), (17, .iconst 5, 1, 0, 0, []), (18, .aload_n 0, 1, 0, 0, []), (19, .getfield 68, 3, 11, 6, [54]), (22, .iadd, 1, 0, 0, []), (23, .invokevirtual 169, 3, 11002, 59, [49]), (26, .ifCond .ne 5, 3, 0, 0, [])]),
  (43, [(29, .iconst 0, 1, 0, 0, []), (30, .ireturn, 1, 0, 0, []), (31, .aload_n 1, 1, 0, 0, []), (32, .invokevirtual 86, 3, 10000, 28, [29]), (35, .aload_n 0, 1, 0, 0, []), (36, .getfield 22, 3, 11, 12, [55]), (39, .aload_n 0, 1, 0, 0, []), (40, .getfield 68, 3, 11, 6, [54])]),
  (57, [(43, .aload_n 0, 1, 0, 0, []), (44, .aload_n 1, 1, 0, 0, []), (45, .invokevirtual 173, 3, 11001, 63, [56]), (48, .iastore, 1, 0, 0, []), (49, .aload_n 0, 1, 0, 0, []), (50, .getfield 22, 3, 11, 12, [55]), (53, .aload_n 0, 1, 0, 0, []), (54, .getfield 68, 3, 11, 6, [54])]),
  (72, [(57, .iaload, 1, 0, 0, []), (58, .iconst (-1), 1, 0, 0, []), (59, .if_icmp .eq 13, 3, 0, 0, []), (62, .aload_n 1, 1, 0, 0, []), (63, .iconst 0, 1, 0, 0, []), (64, .bipush 99, 2, 0, 0, []), (66, .invokevirtual 162, 3, 10002, 52, [46]), (69, .ifCond .ne 5, 3, 0, 0, [])]),
  (86, [(72, .iconst 0, 1, 0, 0, []), (73, .ireturn, 1, 0, 0, []), (74, .aload_n 0, 1, 0, 0, []), (75, .getfield 25, 3, 11, 13, [57]), (78, .aload_n 0, 1, 0, 0, []), (79, .getfield 68, 3, 11, 6, [54]), (82, .aload_n 1, 1, 0, 0, []), (83, .invokevirtual 166, 3, 10000, 54, [47])]),
  (99, [(86, .iastore, 1, 0, 0, []), (87, .aload_n 1, 1, 0, 0, []), (88, .iconst 1, 1, 0, 0, []), (89, .bipush 30, 2, 0, 0, []), (91, .invokevirtual 162, 3, 10002, 52, [46]), (94, .ifCond .ne 5, 3, 0, 0, []), (97, .iconst 0, 1, 0, 0, []), (98, .ireturn, 1, 0, 0, [])]),
  (113, [(99, .aload_n 0, 1, 0, 0, []), (100, .getfield 28, 3, 11, 14, [58]), (103, .aload_n 0, 1, 0, 0, []), (104, .getfield 68, 3, 11, 6, [54]), (107, .aload_n 1, 1, 0, 0, []), (108, .invokevirtual 166, 3, 10000, 54, [47]), (111, .iastore, 1, 0, 0, []), (112, .aload_n 0, 1, 0, 0, [])]),
  (124, [(113, .dup, 1, 0, 0, []), (114, .getfield 68, 3, 11, 6, [54]), (117, .iconst 1, 1, 0, 0, []), (118, .iadd, 1, 0, 0, []), (119, .putfield 68, 3, 11, 6, [21]), (122, .iconst 1, 1, 0, 0, []), (123, .ireturn, 1, 0, 0, [])])]
theorem C_62_ok : codOk q_62.1.cls q_62.2.1 C_62 := codR_ok (own := "DrownedRooms$Valley") (cc := prog_12_method_21_code) RT_2_ok (by decide +kernel)
theorem h_62 : mQ 62 q_62 C_62 := ⟨mq_62, by decide +kernel, by decide, C_62_ok⟩
noncomputable def C_63 : eCode := [(11, [(0, .aload_n 0, 1, 0, 0, []), (1, .aload_n 1, 1, 0, 0, []), (2, .iconst 0, 1, 0, 0, []), (3, .aload_n 0, 1, 0, 0, []), (4, .getfield 65, 3, 11, 5, [48]), (7, .invokevirtual 110, 3, 11003, 64, [59]), (10, .ireturn, 1, 0, 0, [])])]
theorem C_63_ok : codOk q_63.1.cls q_63.2.1 C_63 := codR_ok (own := "DrownedRooms$Valley") (cc := prog_12_method_9_code) RT_2_ok (by decide +kernel)
theorem h_63 : mQ 63 q_63 C_63 := ⟨mq_63, by decide +kernel, by decide, C_63_ok⟩
noncomputable def C_64 : eCode := [(14, [(0, .aload_n 1, 1, 0, 0, []), (1, .invokevirtual 114, 3, 10000, 60, [52]), (4, .ifCond .ne 11, 3, 0, 0, []), (7, .aload_n 1, 1, 0, 0, []), (8, .iconst 1, 1, 0, 0, []), (9, .invokevirtual 117, 3, 10001, 50, [44]), (12, .pop, 1, 0, 0, []), (13, .iconst (-1), 1, 0, 0, [])]),
  (28, [(14, .ireturn, 1, 0, 0, []), (15, .iconst 0, 1, 0, 0, []), (16, .istore 4, 2, 0, 0, []), (18, .iload 4, 2, 0, 0, []), (20, .iload_n 3, 1, 0, 0, []), (21, .if_icmp .ge 29, 3, 888, 150000, []), (24, .aload_n 0, 1, 0, 0, []), (25, .getfield 11, 3, 11, 9, [24])]),
  (41, [(28, .iload_n 2, 1, 0, 0, []), (29, .iload 4, 2, 0, 0, []), (31, .iadd, 1, 0, 0, []), (32, .laload, 1, 888, 150000, []), (33, .aload_n 1, 1, 0, 0, []), (34, .invokevirtual 121, 3, 10000, 61, [53]), (37, .lcmp, 1, 888, 150000, []), (38, .ifCond .ne 6, 3, 0, 0, [])]),
  (56, [(41, .iload 4, 2, 0, 0, []), (43, .ireturn, 1, 0, 0, []), (44, .iinc 4 1, 3, 0, 0, []), (47, .goto (-29), 3, 0, 0, []), (50, .aload_n 1, 1, 0, 0, []), (51, .iconst 3, 1, 0, 0, []), (52, .invokevirtual 117, 3, 10001, 50, [44]), (55, .pop, 1, 0, 0, [])]),
  (58, [(56, .iconst (-1), 1, 0, 0, []), (57, .ireturn, 1, 0, 0, [])])]
theorem C_64_ok : codOk q_64.1.cls q_64.2.1 C_64 := codR_ok (own := "DrownedRooms$Valley") (cc := prog_12_method_12_code) RT_2_ok (by decide +kernel)
theorem h_64 : mQ 64 q_64 C_64 := ⟨mq_64, by decide +kernel, by decide, C_64_ok⟩
noncomputable def C_65 : eCode := [(15, [(0, .aload_n 0, 1, 0, 0, []), (1, .getfield 71, 3, 11, 7, [60]), (4, .bipush 6, 2, 0, 0, []), (6, .if_icmp .lt 9, 3, 0, 0, []), (9, .aload_n 1, 1, 0, 0, []), (10, .iconst 4, 1, 0, 0, []), (11, .invokevirtual 117, 3, 10001, 50, [44]), (14, .ireturn, 1, 0, 0, [])]),
  (30, [(15, .aload_n 0, 1, 0, 0, []), (16, .aload_n 1, 1, 0, 0, []), (17, .bipush 13, 2, 0, 0, []), (19, .aload_n 0, 1, 0, 0, []), (20, .getfield 71, 3, 11, 7, [60]), (23, .iadd, 1, 0, 0, []), (24, .invokevirtual 169, 3, 11002, 59, [49]), (27, .ifCond .eq 13, 3, 0, 0, [])]),
  (43, [(30, .aload_n 1, 1, 0, 0, []), (31, .iconst 0, 1, 0, 0, []), (32, .bipush 99, 2, 0, 0, []), (34, .invokevirtual 162, 3, 10002, 52, [46]), (37, .ifCond .ne 5, 3, 0, 0, []), (40, .iconst 0, 1, 0, 0, []), (41, .ireturn, 1, 0, 0, []), (42, .aload_n 0, 1, 0, 0, [])]),
  (57, [(43, .getfield 31, 3, 11, 15, [61]), (46, .aload_n 0, 1, 0, 0, []), (47, .getfield 71, 3, 11, 7, [60]), (50, .aload_n 1, 1, 0, 0, []), (51, .invokevirtual 166, 3, 10000, 54, [47]), (54, .iastore, 1, 0, 0, []), (55, .aload_n 1, 1, 0, 0, []), (56, .iconst 0, 1, 0, 0, [])]),
  (72, [(57, .bipush 20, 2, 0, 0, []), (59, .invokevirtual 162, 3, 10002, 52, [46]), (62, .ifCond .ne 5, 3, 0, 0, []), (65, .iconst 0, 1, 0, 0, []), (66, .ireturn, 1, 0, 0, []), (67, .aload_n 0, 1, 0, 0, []), (68, .getfield 34, 3, 11, 16, [62]), (71, .aload_n 0, 1, 0, 0, [])]),
  (86, [(72, .getfield 71, 3, 11, 7, [60]), (75, .aload_n 1, 1, 0, 0, []), (76, .invokevirtual 166, 3, 10000, 54, [47]), (79, .iastore, 1, 0, 0, []), (80, .aload_n 0, 1, 0, 0, []), (81, .dup, 1, 0, 0, []), (82, .getfield 71, 3, 11, 7, [60]), (85, .iconst 1, 1, 0, 0, [])]),
  (92, [(86, .iadd, 1, 0, 0, []), (87, .putfield 71, 3, 11, 7, [22]), (90, .iconst 1, 1, 0, 0, []), (91, .ireturn, 1, 0, 0, [])])]
theorem C_65_ok : codOk q_65.1.cls q_65.2.1 C_65 := codR_ok (own := "DrownedRooms$Valley") (cc := prog_12_method_22_code) RT_2_ok (by decide +kernel)
theorem h_65 : mQ 65 q_65 C_65 := ⟨mq_65, by decide +kernel, by decide, C_65_ok⟩
noncomputable def C_66 : eCode := [(12, [(0, .aload_n 1, 1, 0, 0, []), (1, .invokevirtual 86, 3, 10000, 28, [29]), (4, .aload_n 0, 1, 0, 0, []), (5, .aload_n 1, 1, 0, 0, []), (6, .invokevirtual 177, 3, 11001, 67, [63]), (9, .istore_n 2, 1, 0, 0, []), (10, .iload_n 2, 1, 0, 0, []), (11, .iconst (-1), 1, 0, 0, [])]),
  (26, [(12, .if_icmp .ne 5, 3, 0, 0, []), (15, .iconst 0, 1, 0, 0, []), (16, .ireturn, 1, 0, 0, []), (17, .aload_n 1, 1, 0, 0, []), (18, .invokevirtual 86, 3, 10000, 28, [29]), (21, .aload_n 0, 1, 0, 0, []), (22, .aload_n 1, 1, 0, 0, []), (23, .invokevirtual 177, 3, 11001, 67, [63])]),
  (36, [(26, .istore_n 3, 1, 0, 0, []), (27, .iload_n 3, 1, 0, 0, []), (28, .iconst (-1), 1, 0, 0, []), (29, .if_icmp .ne 5, 3, 0, 0, []), (32, .iconst 0, 1, 0, 0, []), (33, .ireturn, 1, 0, 0, []), (34, .iload_n 2, 1, 0, 0, []), (35, .iload_n 3, 1, 0, 0, [])]),
  (50, [(36, .if_icmp .eq 12, 3, 888, 150000, []), (39, .aload_n 0, 1, 0, 0, []), (40, .iload_n 2, 1, 0, 0, []), (41, .iload_n 3, 1, 0, 0, []), (42, .invokevirtual 180, 3, 11002, 68, [64]), (45, .ifCond .eq 9, 3, 0, 0, []), (48, .aload_n 1, 1, 0, 0, []), (49, .iconst 3, 1, 0, 0, [])]),
  (62, [(50, .invokevirtual 117, 3, 10001, 50, [44]), (53, .ireturn, 1, 0, 0, []), (54, .aload_n 0, 1, 0, 0, []), (55, .getfield 37, 3, 11, 17, [25]), (58, .iload_n 2, 1, 0, 0, []), (59, .dup2, 1, 0, 0, []), (60, .iaload, 1, 0, 0, []), (61, .iconst 1, 1, 0, 0, [])]),
  (72, [(62, .iload_n 3, 1, 0, 0, []), (63, .ishl, 1, 888, 150000, []), (64, .ior, 1, 888, 150000, []), (65, .iastore, 1, 0, 0, []), (66, .aload_n 0, 1, 0, 0, []), (67, .getfield 37, 3, 11, 17, [25]), (70, .iload_n 3, 1, 0, 0, []), (71, .dup2, 1, 0, 0, [])]),
  (80, [(72, .iaload, 1, 0, 0, []), (73, .iconst 1, 1, 0, 0, []), (74, .iload_n 2, 1, 0, 0, []), (75, .ishl, 1, 888, 150000, []), (76, .ior, 1, 888, 150000, []), (77, .iastore, 1, 0, 0, []), (78, .iconst 1, 1, 0, 0, []), (79, .ireturn, 1, 0, 0, [])])]
theorem C_66_ok : codOk q_66.1.cls q_66.2.1 C_66 := codR_ok (own := "DrownedRooms$Valley") (cc := prog_12_method_24_code) RT_2_ok (by decide +kernel)
theorem h_66 : mQ 66 q_66 C_66 := ⟨mq_66, by decide +kernel, by decide, C_66_ok⟩
noncomputable def C_67 : eCode := [(12, [(0, .aload_n 0, 1, 0, 0, []), (1, .aload_n 1, 1, 0, 0, []), (2, .bipush 13, 2, 0, 0, []), (4, .aload_n 0, 1, 0, 0, []), (5, .getfield 71, 3, 11, 7, [60]), (8, .invokevirtual 110, 3, 11003, 64, [59]), (11, .ireturn, 1, 0, 0, [])])]
theorem C_67_ok : codOk q_67.1.cls q_67.2.1 C_67 := codR_ok (own := "DrownedRooms$Valley") (cc := prog_12_method_11_code) RT_2_ok (by decide +kernel)
theorem h_67 : mQ 67 q_67 C_67 := ⟨mq_67, by decide +kernel, by decide, C_67_ok⟩
noncomputable def C_68 : eCode := [(10, [(0, .aload_n 0, 1, 0, 0, []), (1, .getfield 37, 3, 11, 17, [25]), (4, .iload_n 1, 1, 0, 0, []), (5, .iaload, 1, 0, 0, []), (6, .iload_n 2, 1, 0, 0, []), (7, .ishr, 1, 888, 150000, []), (8, .iconst 1, 1, 0, 0, []), (9, .iand, 1, 888, 150000, [])]),
  (20, [(10, .iconst 1, 1, 0, 0, []), (11, .if_icmp .ne 7, 3, 888, 150000, []), (14, .iconst 1, 1, 0, 0, []), (15, .goto 4, 3, 0, 0, []), (18, .iconst 0, 1, 0, 0, []), (19, .ireturn, 1, 0, 0, [])])]
theorem C_68_ok : codOk q_68.1.cls q_68.2.1 C_68 := codR_ok (own := "DrownedRooms$Valley") (cc := prog_12_method_8_code) RT_2_ok (by decide +kernel)
theorem h_68 : mQ 68 q_68 C_68 := ⟨mq_68, by decide +kernel, by decide, C_68_ok⟩
noncomputable def C_69 : eCode := [(12, [(0, .aload_n 1, 1, 0, 0, []), (1, .invokevirtual 86, 3, 10000, 28, [29]), (4, .aload_n 0, 1, 0, 0, []), (5, .aload_n 1, 1, 0, 0, []), (6, .invokevirtual 177, 3, 11001, 67, [63]), (9, .istore_n 2, 1, 0, 0, []), (10, .iload_n 2, 1, 0, 0, []), (11, .iconst (-1), 1, 0, 0, [])]),
  (24, [(12, .if_icmp .ne 5, 3, 0, 0, []), (15, .iconst 0, 1, 0, 0, []), (16, .ireturn, 1, 0, 0, []), (17, .aload_n 0, 1, 0, 0, []), (18, .getfield 40, 3, 11, 18, [26]), (21, .iload_n 2, 1, 0, 0, []), (22, .iaload, 1, 0, 0, []), (23, .iconst (-1), 1, 0, 0, [])]),
  (38, [(24, .if_icmp .eq 9, 3, 0, 0, []), (27, .aload_n 1, 1, 0, 0, []), (28, .iconst 3, 1, 0, 0, []), (29, .invokevirtual 117, 3, 10001, 50, [44]), (32, .ireturn, 1, 0, 0, []), (33, .aload_n 1, 1, 0, 0, []), (34, .invokevirtual 86, 3, 10000, 28, [29]), (37, .aload_n 0, 1, 0, 0, [])]),
  (50, [(38, .aload_n 1, 1, 0, 0, []), (39, .invokevirtual 183, 3, 11001, 70, [65]), (42, .istore_n 3, 1, 0, 0, []), (43, .iload_n 3, 1, 0, 0, []), (44, .iconst (-1), 1, 0, 0, []), (45, .if_icmp .ne 5, 3, 0, 0, []), (48, .iconst 0, 1, 0, 0, []), (49, .ireturn, 1, 0, 0, [])]),
  (64, [(50, .aload_n 0, 1, 0, 0, []), (51, .iload_n 3, 1, 0, 0, []), (52, .invokevirtual 186, 3, 11001, 71, [66]), (55, .ifCond .eq 9, 3, 0, 0, []), (58, .aload_n 1, 1, 0, 0, []), (59, .iconst 3, 1, 0, 0, []), (60, .invokevirtual 117, 3, 10001, 50, [44]), (63, .ireturn, 1, 0, 0, [])]),
  (77, [(64, .aload_n 1, 1, 0, 0, []), (65, .iconst 1, 1, 0, 0, []), (66, .bipush 30, 2, 0, 0, []), (68, .invokevirtual 162, 3, 10002, 52, [46]), (71, .ifCond .ne 5, 3, 0, 0, []), (74, .iconst 0, 1, 0, 0, []), (75, .ireturn, 1, 0, 0, []), (76, .aload_n 0, 1, 0, 0, [])]),
  (89, [(77, .getfield 40, 3, 11, 18, [26]), (80, .iload_n 2, 1, 0, 0, []), (81, .iload_n 3, 1, 0, 0, []), (82, .iastore, 1, 0, 0, []), (83, .aload_n 0, 1, 0, 0, []), (84, .getfield 43, 3, 11, 19, [27]), (87, .iload_n 2, 1, 0, 0, []), (88, .aload_n 1, 1, 0, 0, [])]),
  (95, [(89, .invokevirtual 166, 3, 10000, 54, [47]), (92, .iastore, 1, 0, 0, []), (93, .iconst 1, 1, 0, 0, []), (94, .ireturn, 1, 0, 0, [])])]
theorem C_69_ok : codOk q_69.1.cls q_69.2.1 C_69 := codR_ok (own := "DrownedRooms$Valley") (cc := prog_12_method_25_code) RT_2_ok (by decide +kernel)
theorem h_69 : mQ 69 q_69 C_69 := ⟨mq_69, by decide +kernel, by decide, C_69_ok⟩
noncomputable def C_70 : eCode := [(11, [(0, .aload_n 0, 1, 0, 0, []), (1, .aload_n 1, 1, 0, 0, []), (2, .iconst 5, 1, 0, 0, []), (3, .aload_n 0, 1, 0, 0, []), (4, .getfield 68, 3, 11, 6, [54]), (7, .invokevirtual 110, 3, 11003, 64, [59]), (10, .ireturn, 1, 0, 0, [])])]
theorem C_70_ok : codOk q_70.1.cls q_70.2.1 C_70 := codR_ok (own := "DrownedRooms$Valley") (cc := prog_12_method_10_code) RT_2_ok (by decide +kernel)
theorem h_70 : mQ 70 q_70 C_70 := ⟨mq_70, by decide +kernel, by decide, C_70_ok⟩
noncomputable def C_71 : eCode := [(14, [(0, .iconst 0, 1, 0, 0, []), (1, .istore_n 2, 1, 0, 0, []), (2, .iload_n 2, 1, 0, 0, []), (3, .aload_n 0, 1, 0, 0, []), (4, .getfield 71, 3, 11, 7, [60]), (7, .if_icmp .ge 21, 3, 888, 150000, []), (10, .aload_n 0, 1, 0, 0, []), (11, .getfield 40, 3, 11, 18, [26])]),
  (28, [(14, .iload_n 2, 1, 0, 0, []), (15, .iaload, 1, 0, 0, []), (16, .iload_n 1, 1, 0, 0, []), (17, .if_icmp .ne 5, 3, 888, 150000, []), (20, .iconst 1, 1, 0, 0, []), (21, .ireturn, 1, 0, 0, []), (22, .iinc 2 1, 3, 0, 0, []), (25, .goto (-23), 3, 0, 0, [])]),
  (30, [(28, .iconst 0, 1, 0, 0, []), (29, .ireturn, 1, 0, 0, [])])]
theorem C_71_ok : codOk q_71.1.cls q_71.2.1 C_71 := codR_ok (own := "DrownedRooms$Valley") (cc := prog_12_method_26_code) RT_2_ok (by decide +kernel)
theorem h_71 : mQ 71 q_71 C_71 := ⟨mq_71, by decide +kernel, by decide, C_71_ok⟩
noncomputable def C_72 : eCode := [(14, [(0, .aload_n 0, 1, 0, 0, []), (1, .invokevirtual 47, 3, 10000, 28, [30]), (4, .aload_n 0, 1, 0, 0, []), (5, .iload_n 1, 1, 0, 0, []), (6, .invokevirtual 50, 3, 10001, 73, [33]), (9, .ifCond .ne 11, 3, 0, 0, []), (12, .aload_n 0, 1, 0, 0, []), (13, .iconst 1, 1, 0, 0, [])]),
  (26, [(14, .invokevirtual 54, 3, 10001, 50, [31]), (17, .ifCond .eq 7, 3, 0, 0, []), (20, .iconst 1, 1, 0, 0, []), (21, .goto 4, 3, 0, 0, []), (24, .iconst 0, 1, 0, 0, []), (25, .ireturn, 1, 0, 0, [])])]
theorem C_72_ok : codOk q_72.1.cls q_72.2.1 C_72 := codR_ok (own := "DrownedRooms$Tape") (cc := prog_11_method_19_code) RT_1_ok (by decide +kernel)
theorem h_72 : mQ 72 q_72 C_72 := ⟨mq_72, by decide +kernel, by decide, C_72_ok⟩
noncomputable def C_73 : eCode := [(16, [(0, .aload_n 0, 1, 0, 0, []), (1, .getfield 34, 3, 10, 5, [20]), (4, .iconst 4, 1, 0, 0, []), (5, .if_icmp .ne 15, 3, 888, 150000, []), (8, .aload_n 0, 1, 0, 0, []), (9, .getfield 40, 3, 10, 7, [23]), (12, .iload_n 1, 1, 0, 0, []), (13, .if_icmp .ne 7, 3, 888, 150000, [])]),
  (22, [(16, .iconst 1, 1, 0, 0, []), (17, .goto 4, 3, 0, 0, []), (20, .iconst 0, 1, 0, 0, []), (21, .ireturn, 1, 0, 0, [])])]
theorem C_73_ok : codOk q_73.1.cls q_73.2.1 C_73 := codR_ok (own := "DrownedRooms$Tape") (cc := prog_11_method_15_code) RT_1_ok (by decide +kernel)
theorem h_73 : mQ 73 q_73 C_73 := ⟨mq_73, by decide +kernel, by decide, C_73_ok⟩
noncomputable def C_74 : eCode := [(18, [(0, .aload_n 0, 1, 0, 0, []), (1, .aload_n 0, 1, 0, 0, []), (2, .getfield 10, 3, 12, 0, [43]), (5, .invokevirtual 406, 3, 10000, 75, [60]), (8, .putfield 127, 3, 12, 15, [61]), (11, .aload_n 0, 1, 0, 0, []), (12, .getfield 10, 3, 12, 0, [43]), (15, .invokevirtual 264, 3, 10000, 76, [62])]),
  (19, [(18, .return_, 1, 0, 0, [])])]
theorem C_74_ok : codOk q_74.1.cls q_74.2.1 C_74 := codR_ok (own := "DrownedRooms") (cc := prog_1_method_44_code) RT_0_ok (by decide +kernel)
theorem h_74 : mQ 74 q_74 C_74 := ⟨mq_74, by decide +kernel, by decide, C_74_ok⟩
noncomputable def C_75 : eCode := [(5, [(0, .aload_n 0, 1, 0, 0, []), (1, .getfield 28, 3, 10, 9, [34]), (4, .ireturn, 1, 0, 0, [])])]
theorem C_75_ok : codOk q_75.1.cls q_75.2.1 C_75 := codR_ok (own := "DrownedRooms$Tape") (cc := prog_11_method_10_code) RT_1_ok (by decide +kernel)
theorem h_75 : mQ 75 q_75 C_75 := ⟨mq_75, by decide +kernel, by decide, C_75_ok⟩
noncomputable def C_76 : eCode := [(6, [(0, .aload_n 0, 1, 0, 0, []), (1, .iconst 0, 1, 0, 0, []), (2, .putfield 15, 3, 10, 1, [5]), (5, .return_, 1, 0, 0, [])])]
theorem C_76_ok : codOk q_76.1.cls q_76.2.1 C_76 := codR_ok (own := "DrownedRooms$Tape") (cc := prog_11_method_6_code) RT_1_ok (by decide +kernel)
theorem h_76 : mQ 76 q_76 C_76 := ⟨mq_76, by decide +kernel, by decide, C_76_ok⟩
noncomputable def C_77 : eCode := [(5, [(0, .aload_n 0, 1, 0, 0, []), (1, .getfield 31, 3, 10, 10, [35]), (4, .ireturn, 1, 0, 0, [])])]
theorem C_77_ok : codOk q_77.1.cls q_77.2.1 C_77 := codR_ok (own := "DrownedRooms$Tape") (cc := prog_11_method_11_code) RT_1_ok (by decide +kernel)
theorem h_77 : mQ 77 q_77 C_77 := ⟨mq_77, by decide +kernel, by decide, C_77_ok⟩
