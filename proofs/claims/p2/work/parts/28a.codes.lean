/-! rows of code -/
noncomputable def C_0 : eCode := [(16, [(0, .aload_n 0, 1, 0, 0, []), (1, .invokespecial 1, 3, 0, 100004, [161]), (4, .aload_n 0, 1, 0, 0, []), (5, .new 7, 3, 10, 0, [164, 165, 128]), (8, .dup, 1, 0, 0, []), (9, .invokespecial 9, 3, 0, 2, [166, 167, 128]), (12, .putfield 10, 3, 12, 0, [608]), (15, .aload_n 0, 1, 0, 0, [])]),
  (34, [(16, .new 16, 3, 11, 0, [205, 206, 129]), (19, .dup, 1, 0, 0, []), (20, .invokespecial 18, 3, 0, 3, [207, 208, 129]), (23, .putfield 19, 3, 12, 1, [609]), (26, .aload_n 0, 1, 0, 0, []), (27, .new 16, 3, 11, 0, [205, 206, 129]), (30, .dup, 1, 0, 0, []), (31, .invokespecial 18, 3, 0, 3, [207, 208, 129])]),
  (52, [(34, .putfield 23, 3, 12, 2, [610]), (37, .aload_n 0, 1, 0, 0, []), (38, .new 26, 3, 5, 0, [316, 317, 130]), (41, .dup, 1, 0, 0, []), (42, .aload_n 0, 1, 0, 0, []), (43, .getfield 19, 3, 12, 1, [609]), (46, .invokespecial 28, 3, 1, 5, [318, 319, 130]), (49, .putfield 31, 3, 12, 3, [611])]),
  (68, [(52, .aload_n 0, 1, 0, 0, []), (53, .new 26, 3, 5, 0, [316, 317, 130]), (56, .dup, 1, 0, 0, []), (57, .aload_n 0, 1, 0, 0, []), (58, .getfield 19, 3, 12, 1, [609]), (61, .invokespecial 28, 3, 1, 5, [318, 319, 130]), (64, .putfield 35, 3, 12, 4, [612]), (67, .aload_n 0, 1, 0, 0, [])]),
  (86, [(68, .new 38, 3, 3, 0, [380, 381, 131]), (71, .dup, 1, 0, 0, []), (72, .aload_n 0, 1, 0, 0, []), (73, .getfield 19, 3, 12, 1, [609]), (76, .invokespecial 40, 3, 1, 7, [382, 383, 131]), (79, .putfield 41, 3, 12, 5, [613]), (82, .aload_n 0, 1, 0, 0, []), (83, .new 45, 3, 8, 0, [399, 400, 132])]),
  (104, [(86, .dup, 1, 0, 0, []), (87, .invokespecial 47, 3, 0, 8, [401, 402, 132]), (90, .putfield 48, 3, 12, 6, [614]), (93, .aload_n 0, 1, 0, 0, []), (94, .new 45, 3, 8, 0, [399, 400, 132]), (97, .dup, 1, 0, 0, []), (98, .invokespecial 47, 3, 0, 8, [401, 402, 132]), (101, .putfield 52, 3, 12, 7, [615])]),
  (120, [(104, .aload_n 0, 1, 0, 0, []), (105, .new 55, 3, 2, 0, [425, 426, 133]), (108, .dup, 1, 0, 0, []), (109, .invokespecial 57, 3, 0, 9, [427, 428, 133]), (112, .putfield 58, 3, 12, 8, [616]), (115, .aload_n 0, 1, 0, 0, []), (116, .new 62, 3, 9, 0, [462, 463, 134]), (119, .dup, 1, 0, 0, [])]),
  (138, [(120, .invokespecial 64, 3, 0, 10, [464, 465, 134]), (123, .putfield 65, 3, 12, 9, [617]), (126, .aload_n 0, 1, 0, 0, []), (127, .new 69, 3, 7, 0, [490, 491, 135]), (130, .dup, 1, 0, 0, []), (131, .invokespecial 71, 3, 0, 11, [492, 493, 135]), (134, .putfield 72, 3, 12, 10, [618]), (137, .aload_n 0, 1, 0, 0, [])]),
  (156, [(138, .new 76, 3, 1, 0, [512, 513, 136]), (141, .dup, 1, 0, 0, []), (142, .invokespecial 78, 3, 0, 12, [514, 515, 136]), (145, .putfield 79, 3, 12, 11, [619]), (148, .aload_n 0, 1, 0, 0, []), (149, .new 83, 3, 6, 0, [531, 532, 137]), (152, .dup, 1, 0, 0, []), (153, .invokespecial 85, 3, 0, 13, [533, 534, 137])]),
  (170, [(156, .putfield 86, 3, 12, 12, [620]), (159, .aload_n 0, 1, 0, 0, []), (160, .iconst 2, 1, 0, 0, []), (161, .anewarray 90, 3, 4, 0, [550, 551]), (164, .putfield 92, 3, 12, 13, [621]), (167, .iconst 0, 1, 0, 0, []), (168, .istore_n 1, 1, 0, 0, []), (169, .iload_n 1, 1, 0, 0, [])]),
  (186, [(170, .iconst 2, 1, 0, 0, []), (171, .if_icmp .ge 22, 3, 0, 0, []), (174, .aload_n 0, 1, 0, 0, []), (175, .getfield 92, 3, 12, 13, [621]), (178, .iload_n 1, 1, 0, 0, []), (179, .new 90, 3, 4, 0, [550, 552, 138]), (182, .dup, 1, 0, 0, []), (183, .invokespecial 96, 3, 0, 14, [553, 554, 138])]),
  (204, [(186, .aastore, 1, 0, 0, []), (187, .iinc 1 1, 3, 0, 0, []), (190, .goto (-21), 3, 0, 0, []), (193, .aload_n 0, 1, 0, 0, []), (194, .new 97, 3, 0, 0, [577, 578, 140]), (197, .dup, 1, 0, 0, []), (198, .invokespecial 99, 3, 0, 15, [579, 580, 140]), (201, .putfield 100, 3, 12, 14, [622])]),
  (205, [(204, .return_, 1, 0, 0, [])])]
theorem C_0_ok : codOk q_0.1.cls q_0.2.1 C_0 := codB_ok (by decide +kernel)
theorem h_0 : mQ 0 q_0 C_0 := ⟨mq_0, by decide +kernel, by decide, C_0_ok⟩
noncomputable def C_2 : eCode := [(14, [(0, .aload_n 0, 1, 0, 0, []), (1, .invokespecial 3, 3, 0, 100004, [169]), (4, .aload_n 0, 1, 0, 0, []), (5, .sipush 940, 3, 0, 0, []), (8, .newarray .byte, 2, 0, 0, [204]), (10, .putfield 11, 3, 10, 0, [170]), (13, .return_, 1, 0, 0, [])])]
theorem C_2_ok : codOk q_2.1.cls q_2.2.1 C_2 := codB_ok (by decide +kernel)
theorem h_2 : mQ 2 q_2 C_2 := ⟨mq_2, by decide +kernel, by decide, C_2_ok⟩
noncomputable def C_3 : eCode := [(14, [(0, .aload_n 0, 1, 0, 0, []), (1, .invokespecial 5, 3, 0, 100004, [210]), (4, .aload_n 0, 1, 0, 0, []), (5, .bipush 19, 2, 0, 0, []), (7, .newarray .long, 2, 0, 0, [314]), (9, .putfield 11, 3, 11, 9, [242]), (12, .aload_n 0, 1, 0, 0, []), (13, .iconst 5, 1, 0, 0, [])]),
  (29, [(14, .newarray .int, 2, 0, 0, [315]), (16, .putfield 15, 3, 11, 10, [244]), (19, .aload_n 0, 1, 0, 0, []), (20, .iconst 5, 1, 0, 0, []), (21, .newarray .int, 2, 0, 0, [315]), (23, .putfield 19, 3, 11, 11, [246]), (26, .aload_n 0, 1, 0, 0, []), (27, .bipush 8, 2, 0, 0, [])]),
  (45, [(29, .newarray .int, 2, 0, 0, [315]), (31, .putfield 22, 3, 11, 12, [248]), (34, .aload_n 0, 1, 0, 0, []), (35, .bipush 8, 2, 0, 0, []), (37, .newarray .int, 2, 0, 0, [315]), (39, .putfield 25, 3, 11, 13, [252]), (42, .aload_n 0, 1, 0, 0, []), (43, .bipush 8, 2, 0, 0, [])]),
  (61, [(45, .newarray .int, 2, 0, 0, [315]), (47, .putfield 28, 3, 11, 14, [258]), (50, .aload_n 0, 1, 0, 0, []), (51, .bipush 6, 2, 0, 0, []), (53, .newarray .int, 2, 0, 0, [315]), (55, .putfield 31, 3, 11, 15, [262]), (58, .aload_n 0, 1, 0, 0, []), (59, .bipush 6, 2, 0, 0, [])]),
  (77, [(61, .newarray .int, 2, 0, 0, [315]), (63, .putfield 34, 3, 11, 16, [264]), (66, .aload_n 0, 1, 0, 0, []), (67, .bipush 6, 2, 0, 0, []), (69, .newarray .int, 2, 0, 0, [315]), (71, .putfield 37, 3, 11, 17, [267]), (74, .aload_n 0, 1, 0, 0, []), (75, .bipush 6, 2, 0, 0, [])]),
  (94, [(77, .newarray .int, 2, 0, 0, [315]), (79, .putfield 40, 3, 11, 18, [269]), (82, .aload_n 0, 1, 0, 0, []), (83, .bipush 6, 2, 0, 0, []), (85, .newarray .int, 2, 0, 0, [315]), (87, .putfield 43, 3, 11, 19, [271]), (90, .aload_n 0, 1, 0, 0, []), (91, .invokevirtual 46, 3, 11000, 4, [211, 213, 0, 129])]),
  (95, [(94, .return_, 1, 0, 0, [])])]
theorem C_3_ok : codOk q_3.1.cls q_3.2.1 C_3 := codB_ok (by decide +kernel)
theorem h_3 : mQ 3 q_3 C_3 := ⟨mq_3, by decide +kernel, by decide, C_3_ok⟩
noncomputable def C_4 : eCode := [(14, [(0, .aload_n 0, 1, 0, 0, []), (1, .bipush 20, 2, 0, 0, []), (3, .putfield 49, 3, 11, 0, [215]), (6, .aload_n 0, 1, 0, 0, []), (7, .bipush 7, 2, 0, 0, []), (9, .putfield 53, 3, 11, 1, [217]), (12, .aload_n 0, 1, 0, 0, []), (13, .iconst 3, 1, 0, 0, [])]),
  (29, [(14, .putfield 56, 3, 11, 2, [219]), (17, .aload_n 0, 1, 0, 0, []), (18, .bipush 15, 2, 0, 0, []), (20, .putfield 59, 3, 11, 3, [222]), (23, .aload_n 0, 1, 0, 0, []), (24, .iconst 0, 1, 0, 0, []), (25, .putfield 62, 3, 11, 4, [225]), (28, .aload_n 0, 1, 0, 0, [])]),
  (43, [(29, .iconst 0, 1, 0, 0, []), (30, .putfield 65, 3, 11, 5, [228]), (33, .aload_n 0, 1, 0, 0, []), (34, .iconst 0, 1, 0, 0, []), (35, .putfield 68, 3, 11, 6, [231]), (38, .aload_n 0, 1, 0, 0, []), (39, .iconst 0, 1, 0, 0, []), (40, .putfield 71, 3, 11, 7, [238])]),
  (56, [(43, .aload_n 0, 1, 0, 0, []), (44, .iconst 0, 1, 0, 0, []), (45, .putfield 125, 3, 11, 8, [241]), (48, .iconst 0, 1, 0, 0, []), (49, .istore_n 1, 1, 0, 0, []), (50, .iload_n 1, 1, 0, 0, []), (51, .bipush 19, 2, 0, 0, []), (53, .if_icmp .ge 16, 3, 0, 0, [])]),
  (70, [(56, .aload_n 0, 1, 0, 0, []), (57, .getfield 11, 3, 11, 9, [242]), (60, .iload_n 1, 1, 0, 0, []), (61, .lconst 0, 1, 0, 0, []), (62, .lastore, 1, 0, 0, []), (63, .iinc 1 1, 3, 0, 0, []), (66, .goto (-16), 3, 0, 0, []), (69, .iconst 0, 1, 0, 0, [])]),
  (83, [(70, .istore_n 1, 1, 0, 0, []), (71, .iload_n 1, 1, 0, 0, []), (72, .bipush 6, 2, 0, 0, []), (74, .if_icmp .ge 30, 3, 0, 0, []), (77, .aload_n 0, 1, 0, 0, []), (78, .getfield 37, 3, 11, 17, [267]), (81, .iload_n 1, 1, 0, 0, []), (82, .iconst 0, 1, 0, 0, [])]),
  (95, [(83, .iastore, 1, 0, 0, []), (84, .aload_n 0, 1, 0, 0, []), (85, .getfield 40, 3, 11, 18, [269]), (88, .iload_n 1, 1, 0, 0, []), (89, .iconst (-1), 1, 0, 0, []), (90, .iastore, 1, 0, 0, []), (91, .aload_n 0, 1, 0, 0, []), (92, .getfield 43, 3, 11, 19, [271])]),
  (105, [(95, .iload_n 1, 1, 0, 0, []), (96, .iconst 0, 1, 0, 0, []), (97, .iastore, 1, 0, 0, []), (98, .iinc 1 1, 3, 0, 0, []), (101, .goto (-30), 3, 0, 0, []), (104, .return_, 1, 0, 0, [])])]
theorem C_4_ok : codOk q_4.1.cls q_4.2.1 C_4 := codB_ok (by decide +kernel)
theorem h_4 : mQ 4 q_4 C_4 := ⟨mq_4, by decide +kernel, by decide, C_4_ok⟩
noncomputable def C_5 : eCode := [(15, [(0, .aload_n 0, 1, 0, 0, []), (1, .invokespecial 3, 3, 0, 100004, [321]), (4, .aload_n 0, 1, 0, 0, []), (5, .bipush 6, 2, 0, 0, []), (7, .newarray .int, 2, 0, 0, [315]), (9, .putfield 11, 3, 5, 5, [346]), (12, .aload_n 0, 1, 0, 0, []), (13, .bipush 6, 2, 0, 0, [])]),
  (31, [(15, .newarray .int, 2, 0, 0, [315]), (17, .putfield 17, 3, 5, 6, [348]), (20, .aload_n 0, 1, 0, 0, []), (21, .bipush 6, 2, 0, 0, []), (23, .newarray .int, 2, 0, 0, [315]), (25, .putfield 20, 3, 5, 7, [350]), (28, .aload_n 0, 1, 0, 0, []), (29, .bipush 6, 2, 0, 0, [])]),
  (46, [(31, .newarray .int, 2, 0, 0, [315]), (33, .putfield 23, 3, 5, 8, [352]), (36, .aload_n 0, 1, 0, 0, []), (37, .bipush 8, 2, 0, 0, []), (39, .newarray .int, 2, 0, 0, [315]), (41, .putfield 26, 3, 5, 9, [354]), (44, .aload_n 0, 1, 0, 0, []), (45, .aload_n 1, 1, 0, 0, [])]),
  (54, [(46, .putfield 29, 3, 5, 0, [326]), (49, .aload_n 0, 1, 0, 0, []), (50, .invokevirtual 33, 3, 5000, 6, [322, 323, 324, 130]), (53, .return_, 1, 0, 0, [])])]
theorem C_5_ok : codOk q_5.1.cls q_5.2.1 C_5 := codB_ok (by decide +kernel)
theorem h_5 : mQ 5 q_5 C_5 := ⟨mq_5, by decide +kernel, by decide, C_5_ok⟩
noncomputable def C_6 : eCode := [(16, [(0, .aload_n 0, 1, 0, 0, []), (1, .iconst 0, 1, 0, 0, []), (2, .putfield 36, 3, 5, 1, [330]), (5, .aload_n 0, 1, 0, 0, []), (6, .aload_n 0, 1, 0, 0, []), (7, .getfield 29, 3, 5, 0, [326]), (10, .getfield 40, 3, 11, 0, [216]), (13, .putfield 43, 3, 5, 2, [335])]),
  (28, [(16, .aload_n 0, 1, 0, 0, []), (17, .iconst 1, 1, 0, 0, []), (18, .putfield 46, 3, 5, 3, [340]), (21, .aload_n 0, 1, 0, 0, []), (22, .iconst 0, 1, 0, 0, []), (23, .putfield 49, 3, 5, 4, [344]), (26, .iconst 0, 1, 0, 0, []), (27, .istore_n 1, 1, 0, 0, [])]),
  (43, [(28, .iload_n 1, 1, 0, 0, []), (29, .bipush 6, 2, 0, 0, []), (31, .if_icmp .ge 61, 3, 0, 0, []), (34, .aload_n 0, 1, 0, 0, []), (35, .getfield 11, 3, 5, 5, [346]), (38, .iload_n 1, 1, 0, 0, []), (39, .aload_n 0, 1, 0, 0, []), (40, .getfield 29, 3, 5, 0, [326])]),
  (55, [(43, .getfield 52, 3, 11, 18, [270]), (46, .iload_n 1, 1, 0, 0, []), (47, .iaload, 1, 0, 0, []), (48, .iastore, 1, 0, 0, []), (49, .aload_n 0, 1, 0, 0, []), (50, .getfield 17, 3, 5, 6, [348]), (53, .iload_n 1, 1, 0, 0, []), (54, .aload_n 0, 1, 0, 0, [])]),
  (69, [(55, .getfield 29, 3, 5, 0, [326]), (58, .getfield 55, 3, 11, 19, [272]), (61, .iload_n 1, 1, 0, 0, []), (62, .iaload, 1, 0, 0, []), (63, .iastore, 1, 0, 0, []), (64, .aload_n 0, 1, 0, 0, []), (65, .getfield 20, 3, 5, 7, [350]), (68, .iload_n 1, 1, 0, 0, [])]),
  (83, [(69, .aload_n 0, 1, 0, 0, []), (70, .getfield 29, 3, 5, 0, [326]), (73, .getfield 58, 3, 11, 15, [263]), (76, .iload_n 1, 1, 0, 0, []), (77, .iaload, 1, 0, 0, []), (78, .iastore, 1, 0, 0, []), (79, .aload_n 0, 1, 0, 0, []), (80, .getfield 23, 3, 5, 8, [352])]),
  (95, [(83, .iload_n 1, 1, 0, 0, []), (84, .iconst 0, 1, 0, 0, []), (85, .iastore, 1, 0, 0, []), (86, .iinc 1 1, 3, 0, 0, []), (89, .goto (-61), 3, 0, 0, []), (92, .iconst 0, 1, 0, 0, []), (93, .istore_n 1, 1, 0, 0, []), (94, .iload_n 1, 1, 0, 0, [])]),
  (110, [(95, .bipush 8, 2, 0, 0, []), (97, .if_icmp .ge 16, 3, 0, 0, []), (100, .aload_n 0, 1, 0, 0, []), (101, .getfield 26, 3, 5, 9, [354]), (104, .iload_n 1, 1, 0, 0, []), (105, .iconst 0, 1, 0, 0, []), (106, .iastore, 1, 0, 0, []), (107, .iinc 1 1, 3, 0, 0, [])]),
  (114, [(110, .goto (-16), 3, 0, 0, []), (113, .return_, 1, 0, 0, [])])]
theorem C_6_ok : codOk q_6.1.cls q_6.2.1 C_6 := codB_ok (by decide +kernel)
theorem h_6 : mQ 6 q_6 C_6 := ⟨mq_6, by decide +kernel, by decide, C_6_ok⟩
noncomputable def C_7 : eCode := [(15, [(0, .aload_n 0, 1, 0, 0, []), (1, .invokespecial 3, 3, 0, 100004, [385]), (4, .aload_n 0, 1, 0, 0, []), (5, .bipush 8, 2, 0, 0, []), (7, .anewarray 11, 3, 5, 0, [386, 387]), (10, .putfield 13, 3, 3, 0, [389]), (13, .iconst 0, 1, 0, 0, []), (14, .istore_n 2, 1, 0, 0, [])]),
  (30, [(15, .iload_n 2, 1, 0, 0, []), (16, .bipush 8, 2, 0, 0, []), (18, .if_icmp .ge 23, 3, 0, 0, []), (21, .aload_n 0, 1, 0, 0, []), (22, .getfield 13, 3, 3, 0, [389]), (25, .iload_n 2, 1, 0, 0, []), (26, .new 11, 3, 5, 0, [386, 317, 130]), (29, .dup, 1, 0, 0, [])]),
  (42, [(30, .aload_n 1, 1, 0, 0, []), (31, .invokespecial 17, 3, 1, 5, [388, 319, 130]), (34, .aastore, 1, 0, 0, []), (35, .iinc 2 1, 3, 0, 0, []), (38, .goto (-23), 3, 0, 0, []), (41, .return_, 1, 0, 0, [])])]
theorem C_7_ok : codOk q_7.1.cls q_7.2.1 C_7 := codB_ok (by decide +kernel)
theorem h_7 : mQ 7 q_7 C_7 := ⟨mq_7, by decide +kernel, by decide, C_7_ok⟩
noncomputable def C_8 : eCode := [(15, [(0, .aload_n 0, 1, 0, 0, []), (1, .invokespecial 5, 3, 0, 100004, [404]), (4, .aload_n 0, 1, 0, 0, []), (5, .bipush 40, 2, 0, 0, []), (7, .newarray .int, 2, 0, 0, [315]), (9, .putfield 11, 3, 8, 2, [408]), (12, .aload_n 0, 1, 0, 0, []), (13, .bipush 40, 2, 0, 0, [])]),
  (31, [(15, .newarray .int, 2, 0, 0, [315]), (17, .putfield 15, 3, 8, 3, [409]), (20, .aload_n 0, 1, 0, 0, []), (21, .bipush 40, 2, 0, 0, []), (23, .newarray .int, 2, 0, 0, [315]), (25, .putfield 18, 3, 8, 4, [410]), (28, .aload_n 0, 1, 0, 0, []), (29, .bipush 40, 2, 0, 0, [])]),
  (37, [(31, .newarray .int, 2, 0, 0, [315]), (33, .putfield 21, 3, 8, 5, [411]), (36, .return_, 1, 0, 0, [])])]
theorem C_8_ok : codOk q_8.1.cls q_8.2.1 C_8 := codB_ok (by decide +kernel)
theorem h_8 : mQ 8 q_8 C_8 := ⟨mq_8, by decide +kernel, by decide, C_8_ok⟩
noncomputable def C_9 : eCode := [(15, [(0, .aload_n 0, 1, 0, 0, []), (1, .invokespecial 3, 3, 0, 100004, [430]), (4, .aload_n 0, 1, 0, 0, []), (5, .bipush 40, 2, 0, 0, []), (7, .newarray .int, 2, 0, 0, [315]), (9, .putfield 11, 3, 2, 0, [431]), (12, .aload_n 0, 1, 0, 0, []), (13, .bipush 40, 2, 0, 0, [])]),
  (31, [(15, .newarray .int, 2, 0, 0, [315]), (17, .putfield 15, 3, 2, 1, [432]), (20, .aload_n 0, 1, 0, 0, []), (21, .bipush 40, 2, 0, 0, []), (23, .newarray .int, 2, 0, 0, [315]), (25, .putfield 18, 3, 2, 2, [433]), (28, .aload_n 0, 1, 0, 0, []), (29, .bipush 40, 2, 0, 0, [])]),
  (37, [(31, .newarray .int, 2, 0, 0, [315]), (33, .putfield 21, 3, 2, 3, [434]), (36, .return_, 1, 0, 0, [])])]
theorem C_9_ok : codOk q_9.1.cls q_9.2.1 C_9 := codB_ok (by decide +kernel)
theorem h_9 : mQ 9 q_9 C_9 := ⟨mq_9, by decide +kernel, by decide, C_9_ok⟩
noncomputable def C_10 : eCode := [(13, [(0, .aload_n 0, 1, 0, 0, []), (1, .invokespecial 3, 3, 0, 100004, [467]), (4, .aload_n 0, 1, 0, 0, []), (5, .iconst 5, 1, 0, 0, []), (6, .newarray .int, 2, 0, 0, [315]), (8, .putfield 11, 3, 9, 0, [468]), (11, .aload_n 0, 1, 0, 0, []), (12, .iconst 5, 1, 0, 0, [])]),
  (27, [(13, .newarray .int, 2, 0, 0, [315]), (15, .putfield 15, 3, 9, 1, [469]), (18, .aload_n 0, 1, 0, 0, []), (19, .iconst 5, 1, 0, 0, []), (20, .newarray .int, 2, 0, 0, [315]), (22, .putfield 18, 3, 9, 2, [470]), (25, .aload_n 0, 1, 0, 0, []), (26, .iconst 5, 1, 0, 0, [])]),
  (40, [(27, .newarray .int, 2, 0, 0, [315]), (29, .putfield 21, 3, 9, 3, [471]), (32, .aload_n 0, 1, 0, 0, []), (33, .iconst 5, 1, 0, 0, []), (34, .newarray .int, 2, 0, 0, [315]), (36, .putfield 24, 3, 9, 4, [472]), (39, .return_, 1, 0, 0, [])])]
theorem C_10_ok : codOk q_10.1.cls q_10.2.1 C_10 := codB_ok (by decide +kernel)
theorem h_10 : mQ 10 q_10 C_10 := ⟨mq_10, by decide +kernel, by decide, C_10_ok⟩
noncomputable def C_11 : eCode := [(13, [(0, .aload_n 0, 1, 0, 0, []), (1, .invokespecial 3, 3, 0, 100004, [495]), (4, .aload_n 0, 1, 0, 0, []), (5, .iconst 5, 1, 0, 0, []), (6, .newarray .int, 2, 0, 0, [315]), (8, .putfield 11, 3, 7, 0, [496]), (11, .aload_n 0, 1, 0, 0, []), (12, .iconst 5, 1, 0, 0, [])]),
  (19, [(13, .newarray .int, 2, 0, 0, [315]), (15, .putfield 15, 3, 7, 1, [497]), (18, .return_, 1, 0, 0, [])])]
theorem C_11_ok : codOk q_11.1.cls q_11.2.1 C_11 := codB_ok (by decide +kernel)
theorem h_11 : mQ 11 q_11 C_11 := ⟨mq_11, by decide +kernel, by decide, C_11_ok⟩
noncomputable def C_12 : eCode := [(13, [(0, .aload_n 0, 1, 0, 0, []), (1, .invokespecial 3, 3, 0, 100004, [517]), (4, .aload_n 0, 1, 0, 0, []), (5, .iconst 5, 1, 0, 0, []), (6, .newarray .int, 2, 0, 0, [315]), (8, .putfield 11, 3, 1, 0, [518]), (11, .aload_n 0, 1, 0, 0, []), (12, .iconst 5, 1, 0, 0, [])]),
  (19, [(13, .newarray .int, 2, 0, 0, [315]), (15, .putfield 17, 3, 1, 1, [519]), (18, .return_, 1, 0, 0, [])])]
theorem C_12_ok : codOk q_12.1.cls q_12.2.1 C_12 := codB_ok (by decide +kernel)
theorem h_12 : mQ 12 q_12 C_12 := ⟨mq_12, by decide +kernel, by decide, C_12_ok⟩
noncomputable def C_13 : eCode := [(14, [(0, .aload_n 0, 1, 0, 0, []), (1, .invokespecial 3, 3, 0, 100004, [536]), (4, .aload_n 0, 1, 0, 0, []), (5, .iconst (-1), 1, 0, 0, []), (6, .putfield 9, 3, 6, 0, [537]), (9, .aload_n 0, 1, 0, 0, []), (10, .iconst (-1), 1, 0, 0, []), (11, .putfield 15, 3, 6, 1, [539])]),
  (20, [(14, .aload_n 0, 1, 0, 0, []), (15, .iconst (-1), 1, 0, 0, []), (16, .putfield 18, 3, 6, 2, [541]), (19, .return_, 1, 0, 0, [])])]
theorem C_13_ok : codOk q_13.1.cls q_13.2.1 C_13 := codB_ok (by decide +kernel)
theorem h_13 : mQ 13 q_13 C_13 := ⟨mq_13, by decide +kernel, by decide, C_13_ok⟩
noncomputable def C_14 : eCode := [(16, [(0, .aload_n 0, 1, 0, 0, []), (1, .invokespecial 1, 3, 0, 100004, [556]), (4, .aload_n 0, 1, 0, 0, []), (5, .new 7, 3, 11, 0, [557, 206, 129]), (8, .dup, 1, 0, 0, []), (9, .invokespecial 9, 3, 0, 3, [558, 208, 129]), (12, .putfield 10, 3, 4, 0, [563]), (15, .aload_n 0, 1, 0, 0, [])]),
  (34, [(16, .new 16, 3, 5, 0, [559, 317, 130]), (19, .dup, 1, 0, 0, []), (20, .aload_n 0, 1, 0, 0, []), (21, .getfield 10, 3, 4, 0, [563]), (24, .invokespecial 18, 3, 1, 5, [560, 319, 130]), (27, .putfield 21, 3, 4, 1, [564]), (30, .aload_n 0, 1, 0, 0, []), (31, .new 25, 3, 8, 0, [561, 400, 132])]),
  (42, [(34, .dup, 1, 0, 0, []), (35, .invokespecial 27, 3, 0, 8, [562, 402, 132]), (38, .putfield 28, 3, 4, 2, [565]), (41, .return_, 1, 0, 0, [])])]
theorem C_14_ok : codOk q_14.1.cls q_14.2.1 C_14 := codB_ok (by decide +kernel)
theorem h_14 : mQ 14 q_14 C_14 := ⟨mq_14, by decide +kernel, by decide, C_14_ok⟩
noncomputable def C_15 : eCode := [(7, [(0, .aload_n 0, 1, 0, 0, []), (1, .bipush 16, 2, 0, 0, []), (3, .invokespecial 1, 3, 1, 16, [582, 583, 139]), (6, .return_, 1, 0, 0, [])])]
theorem C_15_ok : codOk q_15.1.cls q_15.2.1 C_15 := codB_ok (by decide +kernel)
theorem h_15 : mQ 15 q_15 C_15 := ⟨mq_15, by decide +kernel, by decide, C_15_ok⟩
noncomputable def C_16 : eCode := [(17, [(0, .aload_n 0, 1, 0, 0, []), (1, .invokespecial 3, 3, 0, 100004, [585]), (4, .getstatic 18, 3, 0, 0, [586]), (7, .ifCond .eq 18, 3, 0, 0, []), (10, .aload_n 0, 1, 0, 0, []), (11, .iload_n 1, 1, 0, 0, []), (12, .newarray .byte, 2, 0, 0, [204]), (14, .putfield 15, 3, 0, 0, [595])]),
  (39, [(17, .aload_n 0, 1, 0, 0, []), (18, .iconst 0, 1, 0, 0, []), (19, .putfield 22, 3, 0, 1, [596]), (22, .goto 16, 3, 0, 0, []), (38, .return_, 1, 0, 0, [])])]
theorem C_16_ok : codOk q_16.1.cls q_16.2.1 C_16 := codB_ok (by decide +kernel)
theorem h_16 : mQ 16 q_16 C_16 := ⟨mq_16, by decide +kernel, by decide, C_16_ok⟩
noncomputable def C_19 : eCode := [(16, [(0, .aload_n 0, 1, 0, 0, []), (1, .getfield 10, 3, 12, 0, [608]), (4, .invokevirtual 104, 3, 10000, 20, [661, 662, 663, 128]), (7, .ifCond .ne 5, 3, 0, 0, []), (10, .iconst (-1), 1, 0, 0, []), (11, .ireturn, 1, 0, 0, []), (12, .aload_n 0, 1, 0, 0, []), (13, .getfield 10, 3, 12, 0, [608])]),
  (32, [(16, .iload_n 1, 1, 0, 0, []), (17, .invokevirtual 108, 3, 10001, 21, [665, 666, 667, 128]), (20, .aload_n 0, 1, 0, 0, []), (21, .getfield 10, 3, 12, 0, [608]), (24, .iload_n 2, 1, 0, 0, []), (25, .invokevirtual 108, 3, 10001, 21, [665, 666, 667, 128]), (28, .aload_n 0, 1, 0, 0, []), (29, .getfield 10, 3, 12, 0, [608])]),
  (49, [(32, .iload_n 3, 1, 0, 0, []), (33, .invokevirtual 108, 3, 10001, 21, [665, 666, 667, 128]), (36, .aload_n 0, 1, 0, 0, []), (37, .getfield 10, 3, 12, 0, [608]), (40, .iload 4, 2, 0, 0, []), (42, .invokevirtual 108, 3, 10001, 21, [665, 666, 667, 128]), (45, .aload_n 0, 1, 0, 0, []), (46, .getfield 10, 3, 12, 0, [608])]),
  (62, [(49, .iload 5, 2, 0, 0, []), (51, .invokevirtual 108, 3, 10001, 21, [665, 666, 667, 128]), (54, .aload_n 0, 1, 0, 0, []), (55, .getfield 10, 3, 12, 0, [608]), (58, .invokevirtual 112, 3, 10000, 22, [669, 670, 671, 128]), (61, .ireturn, 1, 0, 0, [])])]
theorem C_19_ok : codOk q_19.1.cls q_19.2.1 C_19 := codB_ok (by decide +kernel)
theorem h_19 : mQ 19 q_19 C_19 := ⟨mq_19, by decide +kernel, by decide, C_19_ok⟩
noncomputable def C_20 : eCode := [(17, [(0, .aload_n 0, 1, 0, 0, []), (1, .getfield 15, 3, 10, 1, [171]), (4, .bipush 20, 2, 0, 0, []), (6, .iadd, 1, 0, 0, []), (7, .sipush 940, 3, 0, 0, []), (10, .if_icmp .gt 7, 3, 0, 0, []), (13, .iconst 1, 1, 0, 0, []), (14, .goto 4, 3, 0, 0, [])]),
  (19, [(17, .iconst 0, 1, 0, 0, []), (18, .ireturn, 1, 0, 0, [])])]
theorem C_20_ok : codOk q_20.1.cls q_20.2.1 C_20 := codB_ok (by decide +kernel)
theorem h_20 : mQ 20 q_20 C_20 := ⟨mq_20, by decide +kernel, by decide, C_20_ok⟩
noncomputable def C_21 : eCode := [(17, [(0, .bipush 24, 2, 0, 0, []), (2, .istore_n 2, 1, 0, 0, []), (3, .iload_n 2, 1, 0, 0, []), (4, .ifCond .lt 42, 3, 0, 0, []), (7, .aload_n 0, 1, 0, 0, []), (8, .getfield 15, 3, 10, 1, [171]), (11, .sipush 940, 3, 0, 0, []), (14, .if_icmp .ge 32, 3, 0, 0, [])]),
  (29, [(17, .aload_n 0, 1, 0, 0, []), (18, .getfield 11, 3, 10, 0, [170]), (21, .aload_n 0, 1, 0, 0, []), (22, .getfield 15, 3, 10, 1, [171]), (25, .iload_n 1, 1, 0, 0, []), (26, .iload_n 2, 1, 0, 0, []), (27, .iushr, 1, 0, 0, []), (28, .i2b, 1, 0, 0, [])]),
  (43, [(29, .bastore, 1, 0, 0, []), (30, .aload_n 0, 1, 0, 0, []), (31, .dup, 1, 0, 0, []), (32, .getfield 15, 3, 10, 1, [171]), (35, .iconst 1, 1, 0, 0, []), (36, .iadd, 1, 0, 0, []), (37, .putfield 15, 3, 10, 1, [171]), (40, .iinc 2 (-8), 3, 0, 0, [])]),
  (47, [(43, .goto (-40), 3, 0, 0, []), (46, .return_, 1, 0, 0, [])])]
theorem C_21_ok : codOk q_21.1.cls q_21.2.1 C_21 := codB_ok (by decide +kernel)
theorem h_21 : mQ 21 q_21 C_21 := ⟨mq_21, by decide +kernel, by decide, C_21_ok⟩
noncomputable def C_22 : eCode := [(5, [(0, .aload_n 0, 1, 0, 0, []), (1, .getfield 15, 3, 10, 1, [171]), (4, .ireturn, 1, 0, 0, [])])]
theorem C_22_ok : codOk q_22.1.cls q_22.2.1 C_22 := codB_ok (by decide +kernel)
theorem h_22 : mQ 22 q_22 C_22 := ⟨mq_22, by decide +kernel, by decide, C_22_ok⟩
noncomputable def C_23 : eCode := [(9, [(0, .aload_n 0, 1, 0, 0, []), (1, .getfield 10, 3, 12, 0, [608]), (4, .iload_n 1, 1, 0, 0, []), (5, .invokevirtual 116, 3, 10001, 24, [677, 678, 679, 128]), (8, .ireturn, 1, 0, 0, [])])]
theorem C_23_ok : codOk q_23.1.cls q_23.2.1 C_23 := codB_ok (by decide +kernel)
theorem h_23 : mQ 23 q_23 C_23 := ⟨mq_23, by decide +kernel, by decide, C_23_ok⟩
noncomputable def C_24 : eCode := [(14, [(0, .iload_n 1, 1, 0, 0, []), (1, .ifCond .lt 11, 3, 0, 0, []), (4, .iload_n 1, 1, 0, 0, []), (5, .aload_n 0, 1, 0, 0, []), (6, .getfield 15, 3, 10, 1, [171]), (9, .if_icmp .le 5, 3, 779, 0, []), (12, .iconst 0, 1, 0, 0, []), (13, .ireturn, 1, 0, 0, [])]),
  (21, [(14, .aload_n 0, 1, 0, 0, []), (15, .iload_n 1, 1, 0, 0, []), (16, .putfield 15, 3, 10, 1, [171]), (19, .iconst 1, 1, 0, 0, []), (20, .ireturn, 1, 0, 0, [])])]
theorem C_24_ok : codOk q_24.1.cls q_24.2.1 C_24 := codB_ok (by decide +kernel)
theorem h_24 : mQ 24 q_24 C_24 := ⟨mq_24, by decide +kernel, by decide, C_24_ok⟩
noncomputable def C_25 : eCode := [(16, [(0, .aload_n 0, 1, 0, 0, []), (1, .getfield 23, 3, 12, 2, [610]), (4, .aload_n 0, 1, 0, 0, []), (5, .getfield 10, 3, 12, 0, [608]), (8, .invokevirtual 120, 3, 11001, 26, [685, 686, 687, 129]), (11, .istore_n 1, 1, 0, 0, []), (12, .aload_n 0, 1, 0, 0, []), (13, .invokevirtual 124, 3, 12000, 74, [878, 880, 17, 127])]),
  (32, [(16, .aload_n 0, 1, 0, 0, []), (17, .getfield 127, 3, 12, 15, [623]), (20, .ifCond .eq 13, 3, 0, 0, []), (23, .iconst (-1), 1, 0, 0, []), (24, .aload_n 0, 1, 0, 0, []), (25, .getfield 10, 3, 12, 0, [608]), (28, .invokevirtual 131, 3, 10000, 77, [890, 891, 892, 128]), (31, .isub, 1, 0, 0, [])]),
  (48, [(32, .ireturn, 1, 0, 0, []), (33, .aload_n 0, 1, 0, 0, []), (34, .getfield 19, 3, 12, 1, [609]), (37, .aload_n 0, 1, 0, 0, []), (38, .getfield 23, 3, 12, 2, [610]), (41, .invokevirtual 134, 3, 11001, 78, [894, 895, 896, 129]), (44, .aload_n 0, 1, 0, 0, []), (45, .getfield 31, 3, 12, 3, [611])]),
  (66, [(48, .invokevirtual 137, 3, 5000, 6, [901, 323, 324, 130]), (51, .aload_n 0, 1, 0, 0, []), (52, .getfield 48, 3, 12, 6, [614]), (55, .invokevirtual 140, 3, 8000, 79, [902, 903, 904, 132]), (58, .aload_n 0, 1, 0, 0, []), (59, .getfield 41, 3, 12, 5, [613]), (62, .invokevirtual 143, 3, 3000, 80, [906, 907, 908, 131]), (65, .iload_n 1, 1, 0, 0, [])]),
  (67, [(66, .ireturn, 1, 0, 0, [])])]
theorem C_25_ok : codOk q_25.1.cls q_25.2.1 C_25 := codB_ok (by decide +kernel)
theorem h_25 : mQ 25 q_25 C_25 := ⟨mq_25, by decide +kernel, by decide, C_25_ok⟩
noncomputable def C_26 : eCode := [(14, [(0, .aload_n 0, 1, 0, 0, []), (1, .invokevirtual 46, 3, 11000, 4, [211, 213, 0, 129]), (4, .aload_n 1, 1, 0, 0, []), (5, .sipush 900, 3, 0, 0, []), (8, .invokevirtual 80, 3, 10001, 27, [689, 690, 691, 128]), (11, .iconst 0, 1, 0, 0, []), (12, .istore_n 2, 1, 0, 0, []), (13, .iload_n 2, 1, 0, 0, [])]),
  (32, [(14, .sipush 900, 3, 0, 0, []), (17, .if_icmp .gt 41, 3, 0, 0, []), (20, .aload_n 1, 1, 0, 0, []), (21, .invokevirtual 86, 3, 10000, 28, [693, 694, 695, 128]), (24, .aload_n 1, 1, 0, 0, []), (25, .invokevirtual 89, 3, 10000, 46, [765, 766, 767, 128]), (28, .ifCond .eq 5, 3, 0, 0, []), (31, .iload_n 2, 1, 0, 0, [])]),
  (47, [(32, .ireturn, 1, 0, 0, []), (33, .aload_n 0, 1, 0, 0, []), (34, .aload_n 1, 1, 0, 0, []), (35, .invokevirtual 93, 3, 11001, 47, [769, 771, 3, 129]), (38, .ifCond .eq 12, 3, 0, 0, []), (41, .aload_n 1, 1, 0, 0, []), (42, .bipush 59, 2, 0, 0, []), (44, .invokevirtual 97, 3, 10001, 72, [870, 871, 872, 128])]),
  (60, [(47, .ifCond .ne 5, 3, 0, 0, []), (50, .iconst (-1), 1, 0, 0, []), (51, .ireturn, 1, 0, 0, []), (52, .iinc 2 1, 3, 0, 0, []), (55, .goto (-42), 3, 0, 0, []), (58, .iconst (-1), 1, 0, 0, []), (59, .ireturn, 1, 0, 0, [])])]
theorem C_26_ok : codOk q_26.1.cls q_26.2.1 C_26 := codB_ok (by decide +kernel)
theorem h_26 : mQ 26 q_26 C_26 := ⟨mq_26, by decide +kernel, by decide, C_26_ok⟩
noncomputable def C_27 : eCode := [(12, [(0, .aload_n 0, 1, 0, 0, []), (1, .iload_n 1, 1, 0, 0, []), (2, .putfield 19, 3, 10, 2, [172]), (5, .aload_n 0, 1, 0, 0, []), (6, .iconst 0, 1, 0, 0, []), (7, .putfield 22, 3, 10, 3, [173]), (10, .aload_n 0, 1, 0, 0, []), (11, .iconst 0, 1, 0, 0, [])]),
  (26, [(12, .putfield 25, 3, 10, 4, [174]), (15, .aload_n 0, 1, 0, 0, []), (16, .iconst 0, 1, 0, 0, []), (17, .putfield 28, 3, 10, 9, [179]), (20, .aload_n 0, 1, 0, 0, []), (21, .iconst 0, 1, 0, 0, []), (22, .putfield 31, 3, 10, 10, [180]), (25, .return_, 1, 0, 0, [])])]
theorem C_27_ok : codOk q_27.1.cls q_27.2.1 C_27 := codB_ok (by decide +kernel)
theorem h_27 : mQ 27 q_27 C_27 := ⟨mq_27, by decide +kernel, by decide, C_27_ok⟩
noncomputable def C_28 : eCode := [(16, [(0, .aload_n 0, 1, 0, 0, []), (1, .iconst (-1), 1, 0, 0, []), (2, .putfield 37, 3, 10, 6, [176]), (5, .aload_n 0, 1, 0, 0, []), (6, .getfield 25, 3, 10, 4, [174]), (9, .aload_n 0, 1, 0, 0, []), (10, .getfield 15, 3, 10, 1, [171]), (13, .if_icmp .ge 31, 3, 0, 0, [])]),
  (32, [(16, .aload_n 0, 1, 0, 0, []), (17, .getfield 11, 3, 10, 0, [170]), (20, .aload_n 0, 1, 0, 0, []), (21, .getfield 25, 3, 10, 4, [174]), (24, .baload, 1, 0, 0, []), (25, .invokestatic 62, 3, 1, 29, [697, 698, 128]), (28, .ifCond .eq 16, 3, 0, 0, []), (31, .aload_n 0, 1, 0, 0, [])]),
  (46, [(32, .dup, 1, 0, 0, []), (33, .getfield 25, 3, 10, 4, [174]), (36, .iconst 1, 1, 0, 0, []), (37, .iadd, 1, 0, 0, []), (38, .putfield 25, 3, 10, 4, [174]), (41, .goto (-36), 3, 0, 0, []), (44, .aload_n 0, 1, 0, 0, []), (45, .aload_n 0, 1, 0, 0, [])]),
  (64, [(46, .getfield 25, 3, 10, 4, [174]), (49, .putfield 22, 3, 10, 3, [173]), (52, .aload_n 0, 1, 0, 0, []), (53, .getfield 15, 3, 10, 1, [171]), (56, .aload_n 0, 1, 0, 0, []), (57, .getfield 19, 3, 10, 2, [172]), (60, .if_icmp .le 30, 3, 0, 0, []), (63, .aload_n 0, 1, 0, 0, [])]),
  (82, [(64, .getfield 22, 3, 10, 3, [173]), (67, .aload_n 0, 1, 0, 0, []), (68, .getfield 19, 3, 10, 2, [172]), (71, .if_icmp .lt 19, 3, 0, 0, []), (74, .aload_n 0, 1, 0, 0, []), (75, .aload_n 0, 1, 0, 0, []), (76, .getfield 19, 3, 10, 2, [172]), (79, .putfield 22, 3, 10, 3, [173])]),
  (98, [(82, .aload_n 0, 1, 0, 0, []), (83, .iconst 0, 1, 0, 0, []), (84, .putfield 34, 3, 10, 5, [175]), (87, .goto 121, 3, 0, 0, []), (90, .aload_n 0, 1, 0, 0, []), (91, .getfield 22, 3, 10, 3, [173]), (94, .aload_n 0, 1, 0, 0, []), (95, .getfield 15, 3, 10, 1, [171])]),
  (114, [(98, .if_icmp .lt 11, 3, 0, 0, []), (101, .aload_n 0, 1, 0, 0, []), (102, .iconst 1, 1, 0, 0, []), (103, .putfield 34, 3, 10, 5, [175]), (106, .goto 102, 3, 0, 0, []), (109, .aload_n 0, 1, 0, 0, []), (110, .getfield 11, 3, 10, 0, [170]), (113, .aload_n 0, 1, 0, 0, [])]),
  (132, [(114, .getfield 22, 3, 10, 3, [173]), (117, .baload, 1, 0, 0, []), (118, .invokestatic 65, 3, 1, 30, [700, 701, 128]), (121, .ifCond .ne 18, 3, 0, 0, []), (124, .aload_n 0, 1, 0, 0, []), (125, .getfield 11, 3, 10, 0, [170]), (128, .aload_n 0, 1, 0, 0, []), (129, .getfield 22, 3, 10, 3, [173])]),
  (148, [(132, .baload, 1, 0, 0, []), (133, .invokestatic 68, 3, 1, 31, [703, 704, 128]), (136, .ifCond .eq 30, 3, 0, 0, []), (139, .aload_n 0, 1, 0, 0, []), (140, .invokevirtual 71, 3, 10000, 32, [706, 708, 1, 128]), (143, .aload_n 0, 1, 0, 0, []), (144, .aload_n 0, 1, 0, 0, []), (145, .getfield 34, 3, 10, 5, [175])]),
  (166, [(148, .iconst 2, 1, 0, 0, []), (149, .if_icmp .ne 10, 3, 0, 0, []), (152, .aload_n 0, 1, 0, 0, []), (153, .invokevirtual 74, 3, 10000, 33, [710, 712, 2, 128]), (156, .goto 4, 3, 0, 0, []), (159, .iconst (-1), 1, 0, 0, []), (160, .putfield 37, 3, 10, 6, [176]), (163, .goto 45, 3, 0, 0, [])]),
  (180, [(166, .aload_n 0, 1, 0, 0, []), (167, .aload_n 0, 1, 0, 0, []), (168, .getfield 11, 3, 10, 0, [170]), (171, .aload_n 0, 1, 0, 0, []), (172, .getfield 22, 3, 10, 3, [173]), (175, .baload, 1, 0, 0, []), (176, .putfield 40, 3, 10, 7, [177]), (179, .aload_n 0, 1, 0, 0, [])]),
  (198, [(180, .aload_n 0, 1, 0, 0, []), (181, .getfield 40, 3, 10, 7, [177]), (184, .invokestatic 78, 3, 1, 45, [762, 763, 128]), (187, .ifCond .eq 7, 3, 0, 0, []), (190, .iconst 4, 1, 0, 0, []), (191, .goto 4, 3, 0, 0, []), (194, .iconst 0, 1, 0, 0, []), (195, .putfield 34, 3, 10, 5, [175])]),
  (209, [(198, .aload_n 0, 1, 0, 0, []), (199, .dup, 1, 0, 0, []), (200, .getfield 25, 3, 10, 4, [174]), (203, .iconst 1, 1, 0, 0, []), (204, .iadd, 1, 0, 0, []), (205, .putfield 25, 3, 10, 4, [174]), (208, .return_, 1, 0, 0, [])])]
theorem C_28_ok : codOk q_28.1.cls q_28.2.1 C_28 := codB_ok (by decide +kernel)
theorem h_28 : mQ 28 q_28 C_28 := ⟨mq_28, by decide +kernel, by decide, C_28_ok⟩
noncomputable def C_29 : eCode := [(16, [(0, .iload_n 0, 1, 0, 0, []), (1, .bipush 32, 2, 0, 0, []), (3, .if_icmp .eq 9, 3, 0, 0, []), (6, .iload_n 0, 1, 0, 0, []), (7, .bipush 10, 2, 0, 0, []), (9, .if_icmp .ne 7, 3, 0, 0, []), (12, .iconst 1, 1, 0, 0, []), (13, .goto 4, 3, 0, 0, [])]),
  (18, [(16, .iconst 0, 1, 0, 0, []), (17, .ireturn, 1, 0, 0, [])])]
theorem C_29_ok : codOk q_29.1.cls q_29.2.1 C_29 := codB_ok (by decide +kernel)
theorem h_29 : mQ 29 q_29 C_29 := ⟨mq_29, by decide +kernel, by decide, C_29_ok⟩
noncomputable def C_30 : eCode := [(16, [(0, .iload_n 0, 1, 0, 0, []), (1, .bipush 97, 2, 0, 0, []), (3, .if_icmp .lt 13, 3, 0, 0, []), (6, .iload_n 0, 1, 0, 0, []), (7, .bipush 122, 2, 0, 0, []), (9, .if_icmp .gt 7, 3, 0, 0, []), (12, .iconst 1, 1, 0, 0, []), (13, .goto 4, 3, 0, 0, [])]),
  (18, [(16, .iconst 0, 1, 0, 0, []), (17, .ireturn, 1, 0, 0, [])])]
theorem C_30_ok : codOk q_30.1.cls q_30.2.1 C_30 := codB_ok (by decide +kernel)
theorem h_30 : mQ 30 q_30 C_30 := ⟨mq_30, by decide +kernel, by decide, C_30_ok⟩
noncomputable def C_31 : eCode := [(16, [(0, .iload_n 0, 1, 0, 0, []), (1, .bipush 48, 2, 0, 0, []), (3, .if_icmp .lt 13, 3, 0, 0, []), (6, .iload_n 0, 1, 0, 0, []), (7, .bipush 57, 2, 0, 0, []), (9, .if_icmp .gt 7, 3, 0, 0, []), (12, .iconst 1, 1, 0, 0, []), (13, .goto 4, 3, 0, 0, [])]),
  (18, [(16, .iconst 0, 1, 0, 0, []), (17, .ireturn, 1, 0, 0, [])])]
theorem C_31_ok : codOk q_31.1.cls q_31.2.1 C_31 := codB_ok (by decide +kernel)
theorem h_31 : mQ 31 q_31 C_31 := ⟨mq_31, by decide +kernel, by decide, C_31_ok⟩
noncomputable def C_32 : eCode := [(10, [(0, .iconst 0, 1, 0, 0, []), (1, .istore_n 1, 1, 0, 0, []), (2, .iconst 0, 1, 0, 0, []), (3, .istore_n 2, 1, 0, 0, []), (4, .aload_n 0, 1, 0, 0, []), (5, .lconst 0, 1, 0, 0, []), (6, .putfield 43, 3, 10, 8, [178]), (9, .aload_n 0, 1, 0, 0, [])]),
  (26, [(10, .iconst 0, 1, 0, 0, []), (11, .putfield 40, 3, 10, 7, [177]), (14, .aload_n 0, 1, 0, 0, []), (15, .getfield 25, 3, 10, 4, [174]), (18, .aload_n 0, 1, 0, 0, []), (19, .getfield 15, 3, 10, 1, [171]), (22, .if_icmp .ge 106, 3, 0, 0, []), (25, .aload_n 0, 1, 0, 0, [])]),
  (44, [(26, .getfield 11, 3, 10, 0, [170]), (29, .aload_n 0, 1, 0, 0, []), (30, .getfield 25, 3, 10, 4, [174]), (33, .baload, 1, 0, 0, []), (34, .invokestatic 65, 3, 1, 30, [700, 701, 128]), (37, .ifCond .ne 18, 3, 0, 0, []), (40, .aload_n 0, 1, 0, 0, []), (41, .getfield 11, 3, 10, 0, [170])]),
  (60, [(44, .aload_n 0, 1, 0, 0, []), (45, .getfield 25, 3, 10, 4, [174]), (48, .baload, 1, 0, 0, []), (49, .invokestatic 68, 3, 1, 31, [703, 704, 128]), (52, .ifCond .eq 76, 3, 0, 0, []), (55, .aload_n 0, 1, 0, 0, []), (56, .getfield 11, 3, 10, 0, [170]), (59, .aload_n 0, 1, 0, 0, [])]),
  (76, [(60, .getfield 25, 3, 10, 4, [174]), (63, .baload, 1, 0, 0, []), (64, .istore_n 3, 1, 0, 0, []), (65, .iload_n 3, 1, 0, 0, []), (66, .invokestatic 65, 3, 1, 30, [700, 701, 128]), (69, .ifCond .eq 27, 3, 0, 0, []), (72, .iinc 1 1, 3, 0, 0, []), (75, .aload_n 0, 1, 0, 0, [])]),
  (87, [(76, .aload_n 0, 1, 0, 0, []), (77, .getfield 43, 3, 10, 8, [178]), (80, .iconst 5, 1, 0, 0, []), (81, .lshl, 1, 0, 0, []), (82, .iload_n 3, 1, 0, 0, []), (83, .bipush 97, 2, 0, 0, []), (85, .isub, 1, 0, 0, []), (86, .iconst 1, 1, 0, 0, [])]),
  (101, [(87, .iadd, 1, 0, 0, []), (88, .i2l, 1, 0, 0, []), (89, .lor, 1, 0, 0, []), (90, .putfield 43, 3, 10, 8, [178]), (93, .goto 22, 3, 0, 0, []), (96, .iinc 2 1, 3, 0, 0, []), (99, .aload_n 0, 1, 0, 0, []), (100, .aload_n 0, 1, 0, 0, [])]),
  (115, [(101, .getfield 40, 3, 10, 7, [177]), (104, .bipush 10, 2, 0, 0, []), (106, .imul, 1, 0, 0, []), (107, .iload_n 3, 1, 0, 0, []), (108, .bipush 48, 2, 0, 0, []), (110, .isub, 1, 0, 0, []), (111, .iadd, 1, 0, 0, []), (112, .putfield 40, 3, 10, 7, [177])]),
  (129, [(115, .aload_n 0, 1, 0, 0, []), (116, .dup, 1, 0, 0, []), (117, .getfield 25, 3, 10, 4, [174]), (120, .iconst 1, 1, 0, 0, []), (121, .iadd, 1, 0, 0, []), (122, .putfield 25, 3, 10, 4, [174]), (125, .goto (-111), 3, 0, 0, []), (128, .aload_n 0, 1, 0, 0, [])]),
  (144, [(129, .iconst 0, 1, 0, 0, []), (130, .putfield 34, 3, 10, 5, [175]), (133, .iload_n 2, 1, 0, 0, []), (134, .ifCond .ne 17, 3, 0, 0, []), (137, .iload_n 1, 1, 0, 0, []), (138, .bipush 7, 2, 0, 0, []), (140, .if_icmp .gt 11, 3, 0, 0, []), (143, .aload_n 0, 1, 0, 0, [])]),
  (160, [(144, .iconst 2, 1, 0, 0, []), (145, .putfield 34, 3, 10, 5, [175]), (148, .goto 17, 3, 0, 0, []), (151, .iload_n 1, 1, 0, 0, []), (152, .ifCond .ne 13, 3, 0, 0, []), (155, .iload_n 2, 1, 0, 0, []), (156, .iconst 3, 1, 0, 0, []), (157, .if_icmp .gt 8, 3, 0, 0, [])]),
  (166, [(160, .aload_n 0, 1, 0, 0, []), (161, .iconst 3, 1, 0, 0, []), (162, .putfield 34, 3, 10, 5, [175]), (165, .return_, 1, 0, 0, [])])]
theorem C_32_ok : codOk q_32.1.cls q_32.2.1 C_32 := codB_ok (by decide +kernel)
theorem h_32 : mQ 32 q_32 C_32 := ⟨mq_32, by decide +kernel, by decide, C_32_ok⟩
noncomputable def C_33 : eCode := [(10, [(0, .iconst 0, 1, 0, 0, []), (1, .istore_n 1, 1, 0, 0, []), (2, .aload_n 0, 1, 0, 0, []), (3, .getfield 22, 3, 10, 3, [173]), (6, .istore_n 2, 1, 0, 0, []), (7, .iconst 1, 1, 0, 0, []), (8, .istore_n 3, 1, 0, 0, []), (9, .iconst 0, 1, 0, 0, [])]),
  (29, [(10, .istore 4, 2, 0, 0, []), (12, .iload 4, 2, 0, 0, []), (14, .ldc 81, 2, 0, 150000, []), (16, .invokevirtual 83, 3, 34000, 150000, [715, 716, 717, 141]), (19, .if_icmp .ge 83, 3, 0, 0, []), (22, .ldc 81, 2, 0, 150000, []), (24, .iload 4, 2, 0, 0, []), (26, .invokevirtual 87, 3, 36001, 150000, [724, 725, 726, 141])]),
  (44, [(29, .istore 5, 2, 0, 0, []), (31, .iload 5, 2, 0, 0, []), (33, .bipush 32, 2, 0, 0, []), (35, .if_icmp .ne 30, 3, 0, 0, []), (38, .iload_n 3, 1, 0, 0, []), (39, .ifCond .eq 13, 3, 0, 0, []), (42, .iload_n 2, 1, 0, 0, []), (43, .aload_n 0, 1, 0, 0, [])]),
  (60, [(44, .getfield 25, 3, 10, 4, [174]), (47, .if_icmp .ne 5, 3, 0, 0, []), (50, .iload_n 1, 1, 0, 0, []), (51, .ireturn, 1, 0, 0, []), (52, .iinc 1 1, 3, 0, 0, []), (55, .aload_n 0, 1, 0, 0, []), (56, .getfield 22, 3, 10, 3, [173]), (59, .istore_n 2, 1, 0, 0, [])]),
  (74, [(60, .iconst 1, 1, 0, 0, []), (61, .istore_n 3, 1, 0, 0, []), (62, .goto 34, 3, 0, 0, []), (65, .iload_n 3, 1, 0, 0, []), (66, .ifCond .eq 28, 3, 0, 0, []), (69, .iload_n 2, 1, 0, 0, []), (70, .aload_n 0, 1, 0, 0, []), (71, .getfield 25, 3, 10, 4, [174])]),
  (91, [(74, .if_icmp .ge 20, 3, 0, 0, []), (77, .aload_n 0, 1, 0, 0, []), (78, .getfield 11, 3, 10, 0, [170]), (81, .iload_n 2, 1, 0, 0, []), (82, .baload, 1, 0, 0, []), (83, .iload 5, 2, 0, 0, []), (85, .if_icmp .ne 9, 3, 0, 0, []), (88, .iinc 2 1, 3, 0, 0, [])]),
  (104, [(91, .goto 5, 3, 0, 0, []), (94, .iconst 0, 1, 0, 0, []), (95, .istore_n 3, 1, 0, 0, []), (96, .iinc 4 1, 3, 0, 0, []), (99, .goto (-87), 3, 0, 0, []), (102, .iconst (-1), 1, 0, 0, []), (103, .ireturn, 1, 0, 0, [])])]
theorem C_33_ok : codOk q_33.1.cls q_33.2.1 C_33 := codB_ok (by decide +kernel)
theorem h_33 : mQ 33 q_33 C_33 := ⟨mq_33, by decide +kernel, by decide, C_33_ok⟩
noncomputable def C_34 : eCode := [(11, [(0, .aload_n 0, 1, 0, 0, []), (1, .getfield 9, 3, 0, 150000, [2401]), (4, .arraylength, 1, 0, 150000, []), (5, .aload_n 0, 1, 0, 0, []), (6, .invokevirtual 335, 3, 35000, 150000, [719, 720, 721, 141]), (9, .ishr, 1, 0, 0, []), (10, .ireturn, 1, 0, 0, [])])]
theorem C_34_ok : codOk q_34.1.cls q_34.2.1 C_34 := codB_ok (by decide +kernel)
theorem h_34 : mQ 34 q_34 C_34 := ⟨mq_34, by decide +kernel, by decide, C_34_ok⟩
noncomputable def C_35 : eCode := [(15, [(0, .getstatic 38, 3, 0, 0, [723]), (3, .ifCond .eq 10, 3, 0, 0, []), (6, .aload_n 0, 1, 0, 0, []), (7, .getfield 15, 3, 1, 150000, [2402]), (10, .goto 4, 3, 0, 0, []), (14, .ireturn, 1, 0, 0, [])])]
theorem C_35_ok : codOk q_35.1.cls q_35.2.1 C_35 := codB_ok (by decide +kernel)
theorem h_35 : mQ 35 q_35 C_35 := ⟨mq_35, by decide +kernel, by decide, C_35_ok⟩
noncomputable def C_36 : eCode := [(16, [(0, .aload_n 0, 1, 0, 0, []), (1, .invokevirtual 492, 3, 37000, 150000, [728, 729, 730, 141]), (4, .ifCond .eq 12, 3, 0, 0, []), (7, .aload_n 0, 1, 0, 0, []), (8, .getfield 9, 3, 0, 150000, [2401]), (11, .iload_n 1, 1, 0, 0, []), (12, .invokestatic 495, 3, 2, 38, [732, 733, 144]), (15, .ireturn, 1, 0, 0, [])])]
theorem C_36_ok : codOk q_36.1.cls q_36.2.1 C_36 := codB_ok (by decide +kernel)
theorem h_36 : mQ 36 q_36 C_36 := ⟨mq_36, by decide +kernel, by decide, C_36_ok⟩
noncomputable def C_37 : eCode := [(19, [(0, .getstatic 38, 3, 0, 0, [723]), (3, .ifCond .eq 14, 3, 0, 0, []), (6, .aload_n 0, 1, 0, 0, []), (7, .getfield 15, 3, 1, 150000, [2402]), (10, .ifCond .ne 7, 3, 0, 0, []), (13, .iconst 1, 1, 0, 0, []), (14, .goto 4, 3, 0, 0, []), (18, .ireturn, 1, 0, 0, [])])]
theorem C_37_ok : codOk q_37.1.cls q_37.2.1 C_37 := codB_ok (by decide +kernel)
theorem h_37 : mQ 37 q_37 C_37 := ⟨mq_37, by decide +kernel, by decide, C_37_ok⟩
