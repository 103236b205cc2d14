/-! rows of code -/
noncomputable def C_145 : eCode := [(11, [(0, .iconst (-1), 1, 0, 0, []), (1, .istore_n 2, 1, 0, 0, []), (2, .bipush 101, 2, 0, 0, []), (4, .istore_n 3, 1, 0, 0, []), (5, .iconst 0, 1, 0, 0, []), (6, .istore 4, 2, 0, 0, []), (8, .iload 4, 2, 0, 0, []), (10, .aload_n 1, 1, 0, 0, [])]),
  (27, [(11, .getfield 35, 3, 11, 6, [7]), (14, .if_icmp .ge 74, 3, 888, 150000, []), (17, .iconst 0, 1, 0, 0, []), (18, .aload_n 0, 1, 0, 0, []), (19, .getfield 15, 3, 6, 1, [12]), (22, .aload_n 0, 1, 0, 0, []), (23, .getfield 9, 3, 6, 0, [13]), (26, .iconst 1, 1, 0, 0, [])]),
  (42, [(27, .isub, 1, 0, 0, []), (28, .aload_n 1, 1, 0, 0, []), (29, .getfield 40, 3, 11, 13, [8]), (32, .iload 4, 2, 0, 0, []), (34, .iaload, 1, 0, 0, []), (35, .invokestatic 44, 3, 890, 150000, [9]), (38, .isub, 1, 0, 0, []), (39, .invokestatic 44, 3, 890, 150000, [9])]),
  (55, [(42, .istore 5, 2, 0, 0, []), (44, .aload_n 0, 1, 0, 0, []), (45, .getfield 15, 3, 6, 1, [12]), (48, .aload_n 0, 1, 0, 0, []), (49, .getfield 9, 3, 6, 0, [13]), (52, .isub, 1, 0, 0, []), (53, .iconst 1, 1, 0, 0, []), (54, .iadd, 1, 0, 0, [])]),
  (71, [(55, .iload 5, 2, 0, 0, []), (57, .isub, 1, 0, 0, []), (58, .istore 6, 2, 0, 0, []), (60, .iload 5, 2, 0, 0, []), (62, .iload 6, 2, 0, 0, []), (64, .invokestatic 44, 3, 890, 150000, [9]), (67, .iload_n 3, 1, 0, 0, []), (68, .if_icmp .ge 14, 3, 888, 150000, [])]),
  (88, [(71, .iload 5, 2, 0, 0, []), (73, .iload 6, 2, 0, 0, []), (75, .invokestatic 44, 3, 890, 150000, [9]), (78, .istore_n 3, 1, 0, 0, []), (79, .iload 4, 2, 0, 0, []), (81, .istore_n 2, 1, 0, 0, []), (82, .iinc 4 1, 3, 0, 0, []), (85, .goto (-77), 3, 0, 0, [])]),
  (90, [(88, .iload_n 2, 1, 0, 0, []), (89, .ireturn, 1, 0, 0, [])])]
theorem C_145_ok : codOk q_145.1.cls q_145.2.1 C_145 := codR_ok (own := "DrownedRooms$Marks") (cc := prog_7_method_3_code) RT_10_ok (by decide +kernel)
theorem h_145 : mQ 145 q_145 C_145 := ⟨mq_145, by decide +kernel, by decide, C_145_ok⟩
noncomputable def C_146 : eCode := [(8, [(0, .aload_n 0, 1, 0, 0, []), (1, .getfield 86, 3, 12, 12, [98]), (4, .getfield 290, 3, 6, 0, [100]), (7, .ireturn, 1, 0, 0, [])])]
theorem C_146_ok : codOk q_146.1.cls q_146.2.1 C_146 := codR_ok (own := "DrownedRooms") (cc := prog_1_method_24_code) RT_0_ok (by decide +kernel)
theorem h_146 : mQ 146 q_146 C_146 := ⟨mq_146, by decide +kernel, by decide, C_146_ok⟩
noncomputable def C_147 : eCode := [(8, [(0, .aload_n 0, 1, 0, 0, []), (1, .getfield 86, 3, 12, 12, [98]), (4, .getfield 293, 3, 6, 1, [101]), (7, .ireturn, 1, 0, 0, [])])]
theorem C_147_ok : codOk q_147.1.cls q_147.2.1 C_147 := codR_ok (own := "DrownedRooms") (cc := prog_1_method_25_code) RT_0_ok (by decide +kernel)
theorem h_147 : mQ 147 q_147 C_147 := ⟨mq_147, by decide +kernel, by decide, C_147_ok⟩
noncomputable def C_148 : eCode := [(8, [(0, .aload_n 0, 1, 0, 0, []), (1, .getfield 86, 3, 12, 12, [98]), (4, .getfield 296, 3, 6, 2, [102]), (7, .ireturn, 1, 0, 0, [])])]
theorem C_148_ok : codOk q_148.1.cls q_148.2.1 C_148 := codR_ok (own := "DrownedRooms") (cc := prog_1_method_26_code) RT_0_ok (by decide +kernel)
theorem h_148 : mQ 148 q_148 C_148 := ⟨mq_148, by decide +kernel, by decide, C_148_ok⟩
noncomputable def C_149 : eCode := [(16, [(0, .aload_n 0, 1, 0, 0, []), (1, .iload_n 1, 1, 0, 0, []), (2, .invokevirtual 176, 3, 12001, 90, [70]), (5, .ifCond .eq 14, 3, 0, 0, []), (8, .aload_n 0, 1, 0, 0, []), (9, .getfield 31, 3, 12, 3, [54]), (12, .iload_n 1, 1, 0, 0, []), (13, .invokevirtual 299, 3, 5001, 150, [103])]),
  (21, [(16, .goto 4, 3, 0, 0, []), (19, .iconst (-1), 1, 0, 0, []), (20, .ireturn, 1, 0, 0, [])])]
theorem C_149_ok : codOk q_149.1.cls q_149.2.1 C_149 := codR_ok (own := "DrownedRooms") (cc := prog_1_method_27_code) RT_0_ok (by decide +kernel)
theorem h_149 : mQ 149 q_149 C_149 := ⟨mq_149, by decide +kernel, by decide, C_149_ok⟩
noncomputable def C_150 : eCode := [(12, [(0, .iconst 0, 1, 0, 0, []), (1, .istore_n 2, 1, 0, 0, []), (2, .iconst 0, 1, 0, 0, []), (3, .istore_n 3, 1, 0, 0, []), (4, .iload_n 3, 1, 0, 0, []), (5, .aload_n 0, 1, 0, 0, []), (6, .getfield 29, 3, 5, 0, [10]), (9, .getfield 84, 3, 11, 7, [26])]),
  (25, [(12, .if_icmp .ge 52, 3, 0, 0, []), (15, .aload_n 0, 1, 0, 0, []), (16, .getfield 11, 3, 5, 5, [15]), (19, .iload_n 3, 1, 0, 0, []), (20, .iaload, 1, 0, 0, []), (21, .istore 4, 2, 0, 0, []), (23, .iload_n 3, 1, 0, 0, []), (24, .iload_n 1, 1, 0, 0, [])]),
  (41, [(25, .if_icmp .eq 33, 3, 0, 0, []), (28, .iload 4, 2, 0, 0, []), (30, .iconst (-1), 1, 0, 0, []), (31, .if_icmp .eq 27, 3, 0, 0, []), (34, .aload_n 0, 1, 0, 0, []), (35, .iload 4, 2, 0, 0, []), (37, .invokevirtual 99, 3, 5001, 94, [30]), (40, .aload_n 0, 1, 0, 0, [])]),
  (55, [(41, .getfield 29, 3, 5, 0, [10]), (44, .getfield 102, 3, 11, 16, [31]), (47, .iload_n 1, 1, 0, 0, []), (48, .iaload, 1, 0, 0, []), (49, .if_icmp .gt 9, 3, 0, 0, []), (52, .iload_n 2, 1, 0, 0, []), (53, .iconst 1, 1, 0, 0, []), (54, .iload_n 3, 1, 0, 0, [])]),
  (66, [(55, .ishl, 1, 0, 0, []), (56, .ior, 1, 0, 0, []), (57, .istore_n 2, 1, 0, 0, []), (58, .iinc 3 1, 3, 0, 0, []), (61, .goto (-57), 3, 0, 0, []), (64, .iload_n 2, 1, 0, 0, []), (65, .ireturn, 1, 0, 0, [])])]
theorem C_150_ok : codOk q_150.1.cls q_150.2.1 C_150 := codR_ok (own := "DrownedRooms$Lake") (cc := prog_6_method_19_code) RT_3_ok (by decide +kernel)
theorem h_150 : mQ 150 q_150 C_150 := ⟨mq_150, by decide +kernel, by decide, C_150_ok⟩
noncomputable def C_151 : eCode := [(16, [(0, .aload_n 0, 1, 0, 0, []), (1, .iload_n 1, 1, 0, 0, []), (2, .invokevirtual 176, 3, 12001, 90, [70]), (5, .ifCond .eq 14, 3, 0, 0, []), (8, .aload_n 0, 1, 0, 0, []), (9, .getfield 31, 3, 12, 3, [54]), (12, .iload_n 1, 1, 0, 0, []), (13, .invokevirtual 302, 3, 5001, 152, [104])]),
  (21, [(16, .goto 4, 3, 0, 0, []), (19, .iconst (-1), 1, 0, 0, []), (20, .ireturn, 1, 0, 0, [])])]
theorem C_151_ok : codOk q_151.1.cls q_151.2.1 C_151 := codR_ok (own := "DrownedRooms") (cc := prog_1_method_28_code) RT_0_ok (by decide +kernel)
theorem h_151 : mQ 151 q_151 C_151 := ⟨mq_151, by decide +kernel, by decide, C_151_ok⟩
noncomputable def C_152 : eCode := [(12, [(0, .iconst 0, 1, 0, 0, []), (1, .istore_n 2, 1, 0, 0, []), (2, .iconst 0, 1, 0, 0, []), (3, .istore_n 3, 1, 0, 0, []), (4, .iload_n 3, 1, 0, 0, []), (5, .aload_n 0, 1, 0, 0, []), (6, .getfield 29, 3, 5, 0, [10]), (9, .getfield 93, 3, 11, 6, [28])]),
  (28, [(12, .if_icmp .ge 80, 3, 0, 0, []), (15, .aload_n 0, 1, 0, 0, []), (16, .iload_n 3, 1, 0, 0, []), (17, .invokevirtual 96, 3, 5001, 93, [29]), (20, .istore 4, 2, 0, 0, []), (22, .iload 4, 2, 0, 0, []), (24, .iconst (-1), 1, 0, 0, []), (25, .if_icmp .eq 9, 3, 0, 0, [])]),
  (43, [(28, .iload 4, 2, 0, 0, []), (30, .iload_n 1, 1, 0, 0, []), (31, .if_icmp .ne 7, 3, 0, 0, []), (34, .iconst 1, 1, 0, 0, []), (35, .goto 4, 3, 0, 0, []), (38, .iconst 0, 1, 0, 0, []), (39, .istore 5, 2, 0, 0, []), (41, .iload 5, 2, 0, 0, [])]),
  (59, [(43, .ifCond .eq 43, 3, 0, 0, []), (46, .aload_n 0, 1, 0, 0, []), (47, .iload_n 3, 1, 0, 0, []), (48, .invokevirtual 99, 3, 5001, 94, [30]), (51, .aload_n 0, 1, 0, 0, []), (52, .getfield 29, 3, 5, 0, [10]), (55, .getfield 102, 3, 11, 16, [31]), (58, .iload_n 1, 1, 0, 0, [])]),
  (73, [(59, .iaload, 1, 0, 0, []), (60, .if_icmp .gt 26, 3, 0, 0, []), (63, .aload_n 0, 1, 0, 0, []), (64, .aload_n 0, 1, 0, 0, []), (65, .getfield 29, 3, 5, 0, [10]), (68, .getfield 90, 3, 11, 12, [46]), (71, .iload_n 3, 1, 0, 0, []), (72, .iaload, 1, 0, 0, [])]),
  (85, [(73, .iload_n 1, 1, 0, 0, []), (74, .invokevirtual 127, 3, 5002, 153, [47]), (77, .ifCond .ne 9, 3, 0, 0, []), (80, .iload_n 2, 1, 0, 0, []), (81, .iconst 1, 1, 0, 0, []), (82, .iload_n 3, 1, 0, 0, []), (83, .ishl, 1, 0, 0, []), (84, .ior, 1, 0, 0, [])]),
  (94, [(85, .istore_n 2, 1, 0, 0, []), (86, .iinc 3 1, 3, 0, 0, []), (89, .goto (-85), 3, 0, 0, []), (92, .iload_n 2, 1, 0, 0, []), (93, .ireturn, 1, 0, 0, [])])]
theorem C_152_ok : codOk q_152.1.cls q_152.2.1 C_152 := codR_ok (own := "DrownedRooms$Lake") (cc := prog_6_method_20_code) RT_3_ok (by decide +kernel)
theorem h_152 : mQ 152 q_152 C_152 := ⟨mq_152, by decide +kernel, by decide, C_152_ok⟩
noncomputable def C_153 : eCode := [(14, [(0, .iconst 0, 1, 0, 0, []), (1, .istore_n 3, 1, 0, 0, []), (2, .iload_n 3, 1, 0, 0, []), (3, .aload_n 0, 1, 0, 0, []), (4, .getfield 29, 3, 5, 0, [10]), (7, .getfield 84, 3, 11, 7, [26]), (10, .if_icmp .ge 51, 3, 0, 0, []), (13, .aload_n 0, 1, 0, 0, [])]),
  (28, [(14, .getfield 11, 3, 5, 5, [15]), (17, .iload_n 3, 1, 0, 0, []), (18, .iaload, 1, 0, 0, []), (19, .istore 4, 2, 0, 0, []), (21, .iload 4, 2, 0, 0, []), (23, .iconst (-1), 1, 0, 0, []), (24, .if_icmp .eq 31, 3, 0, 0, []), (27, .aload_n 0, 1, 0, 0, [])]),
  (45, [(28, .getfield 29, 3, 5, 0, [10]), (31, .getfield 90, 3, 11, 12, [46]), (34, .iload 4, 2, 0, 0, []), (36, .iaload, 1, 0, 0, []), (37, .iload_n 1, 1, 0, 0, []), (38, .if_icmp .ne 17, 3, 0, 0, []), (41, .aload_n 0, 1, 0, 0, []), (42, .getfield 29, 3, 5, 0, [10])]),
  (61, [(45, .iload_n 2, 1, 0, 0, []), (46, .iload_n 3, 1, 0, 0, []), (47, .invokevirtual 131, 3, 11002, 68, [48]), (50, .ifCond .eq 5, 3, 0, 0, []), (53, .iconst 1, 1, 0, 0, []), (54, .ireturn, 1, 0, 0, []), (55, .iinc 3 1, 3, 0, 0, []), (58, .goto (-56), 3, 0, 0, [])]),
  (63, [(61, .iconst 0, 1, 0, 0, []), (62, .ireturn, 1, 0, 0, [])])]
theorem C_153_ok : codOk q_153.1.cls q_153.2.1 C_153 := codR_ok (own := "DrownedRooms$Lake") (cc := prog_6_method_23_code) RT_3_ok (by decide +kernel)
theorem h_153 : mQ 153 q_153 C_153 := ⟨mq_153, by decide +kernel, by decide, C_153_ok⟩
noncomputable def C_154 : eCode := [(8, [(0, .aload_n 0, 1, 0, 0, []), (1, .getfield 31, 3, 12, 3, [54]), (4, .invokevirtual 305, 3, 5000, 155, [105]), (7, .ireturn, 1, 0, 0, [])])]
theorem C_154_ok : codOk q_154.1.cls q_154.2.1 C_154 := codR_ok (own := "DrownedRooms") (cc := prog_1_method_29_code) RT_0_ok (by decide +kernel)
theorem h_154 : mQ 154 q_154 C_154 := ⟨mq_154, by decide +kernel, by decide, C_154_ok⟩
noncomputable def C_155 : eCode := [(12, [(0, .iconst 0, 1, 0, 0, []), (1, .istore_n 1, 1, 0, 0, []), (2, .iconst 0, 1, 0, 0, []), (3, .istore_n 2, 1, 0, 0, []), (4, .iload_n 2, 1, 0, 0, []), (5, .aload_n 0, 1, 0, 0, []), (6, .getfield 29, 3, 5, 0, [10]), (9, .getfield 84, 3, 11, 7, [26])]),
  (24, [(12, .if_icmp .ge 54, 3, 0, 0, []), (15, .iload_n 2, 1, 0, 0, []), (16, .iconst 1, 1, 0, 0, []), (17, .iadd, 1, 0, 0, []), (18, .istore_n 3, 1, 0, 0, []), (19, .iload_n 3, 1, 0, 0, []), (20, .aload_n 0, 1, 0, 0, []), (21, .getfield 29, 3, 5, 0, [10])]),
  (42, [(24, .getfield 84, 3, 11, 7, [26]), (27, .if_icmp .ge 33, 3, 0, 0, []), (30, .aload_n 0, 1, 0, 0, []), (31, .getfield 29, 3, 5, 0, [10]), (34, .iload_n 2, 1, 0, 0, []), (35, .iload_n 3, 1, 0, 0, []), (36, .invokevirtual 131, 3, 11002, 68, [48]), (39, .ifCond .eq 15, 3, 0, 0, [])]),
  (60, [(42, .aload_n 0, 1, 0, 0, []), (43, .iload_n 2, 1, 0, 0, []), (44, .iload_n 3, 1, 0, 0, []), (45, .invokevirtual 134, 3, 5002, 156, [49]), (48, .ifCond .eq 6, 3, 0, 0, []), (51, .iinc 1 1, 3, 0, 0, []), (54, .iinc 3 1, 3, 0, 0, []), (57, .goto (-38), 3, 0, 0, [])]),
  (68, [(60, .iinc 2 1, 3, 0, 0, []), (63, .goto (-59), 3, 0, 0, []), (66, .iload_n 1, 1, 0, 0, []), (67, .ireturn, 1, 0, 0, [])])]
theorem C_155_ok : codOk q_155.1.cls q_155.2.1 C_155 := codR_ok (own := "DrownedRooms$Lake") (cc := prog_6_method_21_code) RT_3_ok (by decide +kernel)
theorem h_155 : mQ 155 q_155 C_155 := ⟨mq_155, by decide +kernel, by decide, C_155_ok⟩
noncomputable def C_156 : eCode := [(14, [(0, .aload_n 0, 1, 0, 0, []), (1, .getfield 11, 3, 5, 5, [15]), (4, .iload_n 1, 1, 0, 0, []), (5, .iaload, 1, 0, 0, []), (6, .iconst (-1), 1, 0, 0, []), (7, .if_icmp .eq 48, 3, 0, 0, []), (10, .aload_n 0, 1, 0, 0, []), (11, .getfield 11, 3, 5, 5, [15])]),
  (28, [(14, .iload_n 2, 1, 0, 0, []), (15, .iaload, 1, 0, 0, []), (16, .iconst (-1), 1, 0, 0, []), (17, .if_icmp .eq 38, 3, 0, 0, []), (20, .aload_n 0, 1, 0, 0, []), (21, .getfield 29, 3, 5, 0, [10]), (24, .getfield 90, 3, 11, 12, [46]), (27, .aload_n 0, 1, 0, 0, [])]),
  (42, [(28, .getfield 11, 3, 5, 5, [15]), (31, .iload_n 1, 1, 0, 0, []), (32, .iaload, 1, 0, 0, []), (33, .iaload, 1, 0, 0, []), (34, .aload_n 0, 1, 0, 0, []), (35, .getfield 29, 3, 5, 0, [10]), (38, .getfield 90, 3, 11, 12, [46]), (41, .aload_n 0, 1, 0, 0, [])]),
  (56, [(42, .getfield 11, 3, 5, 5, [15]), (45, .iload_n 2, 1, 0, 0, []), (46, .iaload, 1, 0, 0, []), (47, .iaload, 1, 0, 0, []), (48, .if_icmp .ne 7, 3, 0, 0, []), (51, .iconst 1, 1, 0, 0, []), (52, .goto 4, 3, 0, 0, []), (55, .iconst 0, 1, 0, 0, [])]),
  (57, [(56, .ireturn, 1, 0, 0, [])])]
theorem C_156_ok : codOk q_156.1.cls q_156.2.1 C_156 := codR_ok (own := "DrownedRooms$Lake") (cc := prog_6_method_22_code) RT_3_ok (by decide +kernel)
theorem h_156 : mQ 156 q_156 C_156 := ⟨mq_156, by decide +kernel, by decide, C_156_ok⟩
noncomputable def C_157 : eCode := [(13, [(0, .iload_n 1, 1, 0, 0, []), (1, .iconst 1, 1, 0, 0, []), (2, .bipush 60, 2, 0, 0, []), (4, .invokestatic 222, 3, 3, 53, [72]), (7, .ifCond .ne 5, 3, 0, 0, []), (10, .iconst (-1), 1, 0, 0, []), (11, .ireturn, 1, 0, 0, []), (12, .aload_n 0, 1, 0, 0, [])]),
  (31, [(13, .getfield 35, 3, 12, 4, [106]), (16, .aload_n 0, 1, 0, 0, []), (17, .getfield 31, 3, 12, 3, [54]), (20, .invokevirtual 308, 3, 5001, 97, [107]), (23, .aload_n 0, 1, 0, 0, []), (24, .getfield 35, 3, 12, 4, [106]), (27, .iload_n 1, 1, 0, 0, []), (28, .invokevirtual 250, 3, 5001, 107, [83])]),
  (47, [(31, .pop, 1, 0, 0, []), (32, .aload_n 0, 1, 0, 0, []), (33, .getfield 35, 3, 12, 4, [106]), (36, .invokevirtual 219, 3, 5000, 88, [69]), (39, .aload_n 0, 1, 0, 0, []), (40, .getfield 31, 3, 12, 3, [54]), (43, .invokevirtual 219, 3, 5000, 88, [69]), (46, .isub, 1, 0, 0, [])]),
  (48, [(47, .ireturn, 1, 0, 0, [])])]
theorem C_157_ok : codOk q_157.1.cls q_157.2.1 C_157 := codR_ok (own := "DrownedRooms") (cc := prog_1_method_30_code) RT_0_ok (by decide +kernel)
theorem h_157 : mQ 157 q_157 C_157 := ⟨mq_157, by decide +kernel, by decide, C_157_ok⟩
noncomputable def C_158 : eCode := [(14, [(0, .aload_n 0, 1, 0, 0, []), (1, .iload_n 1, 1, 0, 0, []), (2, .invokevirtual 176, 3, 12001, 90, [70]), (5, .ifCond .ne 5, 3, 0, 0, []), (8, .iconst (-1), 1, 0, 0, []), (9, .ireturn, 1, 0, 0, []), (10, .aload_n 0, 1, 0, 0, []), (11, .getfield 31, 3, 12, 3, [54])]),
  (28, [(14, .getfield 187, 3, 5, 5, [108]), (17, .iload_n 1, 1, 0, 0, []), (18, .iaload, 1, 0, 0, []), (19, .istore_n 2, 1, 0, 0, []), (20, .aload_n 0, 1, 0, 0, []), (21, .getfield 100, 3, 12, 14, [109]), (24, .iconst 0, 1, 0, 0, []), (25, .invokevirtual 310, 3, 1, 159, [110])]),
  (41, [(28, .aload_n 0, 1, 0, 0, []), (29, .aload_n 0, 1, 0, 0, []), (30, .getfield 19, 3, 12, 1, [9]), (33, .getfield 313, 3, 11, 9, [111]), (36, .bipush 13, 2, 0, 0, []), (38, .iload_n 1, 1, 0, 0, []), (39, .iadd, 1, 0, 0, []), (40, .laload, 1, 0, 0, [])]),
  (59, [(41, .invokevirtual 317, 3, 12001, 171, [112]), (44, .iload_n 2, 1, 0, 0, []), (45, .iconst (-1), 1, 0, 0, []), (46, .if_icmp .ne 17, 3, 0, 0, []), (49, .aload_n 0, 1, 0, 0, []), (50, .getfield 100, 3, 12, 14, [109]), (53, .ldc_w 321, 3, 1, 150000, []), (56, .invokevirtual 323, 3, 1, 183, [113])]),
  (75, [(59, .pop, 1, 0, 0, []), (60, .goto 52, 3, 0, 0, []), (63, .aload_n 0, 1, 0, 0, []), (64, .getfield 100, 3, 12, 14, [109]), (67, .ldc_w 327, 3, 2, 150000, []), (70, .invokevirtual 323, 3, 1, 183, [113]), (73, .pop, 1, 0, 0, []), (74, .aload_n 0, 1, 0, 0, [])]),
  (89, [(75, .aload_n 0, 1, 0, 0, []), (76, .getfield 19, 3, 12, 1, [9]), (79, .getfield 313, 3, 11, 9, [111]), (82, .iconst 5, 1, 0, 0, []), (83, .iload_n 2, 1, 0, 0, []), (84, .iadd, 1, 0, 0, []), (85, .laload, 1, 0, 0, []), (86, .invokevirtual 317, 3, 12001, 171, [112])]),
  (107, [(89, .aload_n 0, 1, 0, 0, []), (90, .getfield 100, 3, 12, 14, [109]), (93, .ldc_w 329, 3, 3, 150000, []), (96, .invokevirtual 323, 3, 1, 183, [113]), (99, .aload_n 0, 1, 0, 0, []), (100, .getfield 31, 3, 12, 3, [54]), (103, .getfield 190, 3, 5, 6, [114]), (106, .iload_n 1, 1, 0, 0, [])]),
  (123, [(107, .iaload, 1, 0, 0, []), (108, .invokevirtual 331, 3, 1, 193, [115]), (111, .pop, 1, 0, 0, []), (112, .aload_n 0, 1, 0, 0, []), (113, .getfield 100, 3, 12, 14, [109]), (116, .ldc_w 334, 3, 4, 150000, []), (119, .invokevirtual 323, 3, 1, 183, [113]), (122, .aload_n 0, 1, 0, 0, [])]),
  (139, [(123, .getfield 31, 3, 12, 3, [54]), (126, .getfield 181, 3, 5, 7, [116]), (129, .iload_n 1, 1, 0, 0, []), (130, .iaload, 1, 0, 0, []), (131, .invokevirtual 331, 3, 1, 193, [115]), (134, .pop, 1, 0, 0, []), (135, .aload_n 0, 1, 0, 0, []), (136, .getfield 100, 3, 12, 14, [109])]),
  (143, [(139, .invokevirtual 336, 3, 0, 199, [117]), (142, .ireturn, 1, 0, 0, [])])]
theorem C_158_ok : codOk q_158.1.cls q_158.2.1 C_158 := codR_ok (own := "DrownedRooms") (cc := prog_1_method_31_code) RT_0_ok (by decide +kernel)
theorem h_158 : mQ 158 q_158 C_158 := ⟨mq_158, by decide +kernel, by decide, C_158_ok⟩
noncomputable def C_159 : eCode := [(6, [(0, .aload_n 0, 1, 0, 0, []), (1, .iload_n 1, 1, 0, 0, []), (2, .invokespecial 333, 3, 1001, 160, [1]), (5, .return_, 1, 0, 0, [])])]
theorem C_159_ok : codOk q_159.1.cls q_159.2.1 C_159 := codR_ok (own := "java/lang/StringBuilder") (cc := prog_27_method_89_code) RT_12_ok (by decide +kernel)
theorem h_159 : mQ 159 q_159 C_159 := ⟨mq_159, by decide +kernel, by decide, C_159_ok⟩
noncomputable def C_160 : eCode := [(23, [(0, .iload_n 1, 1, 0, 0, []), (1, .ifCond .ge 12, 3, 0, 0, []), (13, .aload_n 0, 1, 0, 0, []), (14, .iload_n 1, 1, 0, 0, []), (15, .invokevirtual 100, 3, 1, 161, [5]), (18, .aload_n 0, 1, 0, 0, []), (19, .getfield 79, 3, 0, 3, [6]), (22, .iload_n 1, 1, 0, 0, [])]),
  (76, [(23, .if_icmp .ge 40, 3, 0, 0, []), (63, .aload_n 0, 1, 0, 0, []), (64, .getfield 79, 3, 0, 3, [6]), (67, .iload_n 1, 1, 0, 0, []), (68, .if_icmp .le 8, 3, 0, 0, []), (71, .aload_n 0, 1, 0, 0, []), (72, .iconst 1, 1, 0, 0, []), (73, .putfield 73, 3, 0, 2, [7])]),
  (82, [(76, .aload_n 0, 1, 0, 0, []), (77, .iload_n 1, 1, 0, 0, []), (78, .putfield 79, 3, 0, 3, [8]), (81, .return_, 1, 0, 0, [])])]
theorem C_160_ok : codOk q_160.1.cls q_160.2.1 C_160 := codR_ok (own := "java/lang/AbstractStringBuilder") (cc := prog_16_method_13_code) RT_13_ok (by decide +kernel)
theorem h_160 : mQ 160 q_160 C_160 := ⟨mq_160, by decide +kernel, by decide, C_160_ok⟩
noncomputable def C_161 : eCode := [(12, [(0, .aload_n 0, 1, 0, 0, []), (1, .getfield 15, 3, 0, 0, [9]), (4, .arraylength, 1, 0, 0, []), (5, .aload_n 0, 1, 0, 0, []), (6, .getfield 22, 3, 0, 1, [10]), (9, .ishr, 1, 0, 0, []), (10, .istore_n 2, 1, 0, 0, []), (11, .iload_n 1, 1, 0, 0, [])]),
  (24, [(12, .iload_n 2, 1, 0, 0, []), (13, .isub, 1, 0, 0, []), (14, .ifCond .le 24, 3, 0, 0, []), (17, .aload_n 0, 1, 0, 0, []), (18, .aload_n 0, 1, 0, 0, []), (19, .getfield 15, 3, 0, 0, [9]), (22, .aload_n 0, 1, 0, 0, []), (23, .iload_n 1, 1, 0, 0, [])]),
  (39, [(24, .invokevirtual 104, 3, 1, 162, [11]), (27, .aload_n 0, 1, 0, 0, []), (28, .getfield 22, 3, 0, 1, [10]), (31, .ishl, 1, 0, 0, []), (32, .invokestatic 108, 3, 2, 165, [12]), (35, .putfield 15, 3, 0, 0, [3]), (38, .return_, 1, 0, 0, [])])]
theorem C_161_ok : codOk q_161.1.cls q_161.2.1 C_161 := codR_ok (own := "java/lang/AbstractStringBuilder") (cc := prog_16_method_9_code) RT_13_ok (by decide +kernel)
theorem h_161 : mQ 161 q_161 C_161 := ⟨mq_161, by decide +kernel, by decide, C_161_ok⟩
noncomputable def C_162 : eCode := [(12, [(0, .aload_n 0, 1, 0, 0, []), (1, .getfield 15, 3, 0, 0, [9]), (4, .arraylength, 1, 0, 0, []), (5, .istore_n 2, 1, 0, 0, []), (6, .iload_n 1, 1, 0, 0, []), (7, .aload_n 0, 1, 0, 0, []), (8, .getfield 22, 3, 0, 1, [10]), (11, .ishl, 1, 0, 0, [])]),
  (22, [(12, .istore_n 3, 1, 0, 0, []), (13, .iload_n 3, 1, 0, 0, []), (14, .iload_n 2, 1, 0, 0, []), (15, .isub, 1, 0, 0, []), (16, .istore 4, 2, 0, 0, []), (18, .iload_n 2, 1, 0, 0, []), (19, .iload 4, 2, 0, 0, []), (21, .iload_n 2, 1, 0, 0, [])]),
  (36, [(22, .iconst 2, 1, 0, 0, []), (23, .aload_n 0, 1, 0, 0, []), (24, .getfield 22, 3, 0, 1, [10]), (27, .ishl, 1, 0, 0, []), (28, .iadd, 1, 0, 0, []), (29, .invokestatic 114, 3, 3, 163, [13]), (32, .istore 5, 2, 0, 0, []), (34, .iload 5, 2, 0, 0, [])]),
  (59, [(36, .ldc 39, 2, 2147483647, 0, [14]), (38, .if_icmp .ne 13, 3, 0, 0, []), (51, .iload 5, 2, 0, 0, []), (53, .aload_n 0, 1, 0, 0, []), (54, .getfield 22, 3, 0, 1, [10]), (57, .ishr, 1, 0, 0, []), (58, .ireturn, 1, 0, 0, [])])]
theorem C_162_ok : codOk q_162.1.cls q_162.2.1 C_162 := codR_ok (own := "java/lang/AbstractStringBuilder") (cc := prog_16_method_10_code) RT_13_ok (by decide +kernel)
theorem h_162 : mQ 162 q_162 C_162 := ⟨mq_162, by decide +kernel, by decide, C_162_ok⟩
noncomputable def C_163 : eCode := [(10, [(0, .iload_n 0, 1, 0, 0, []), (1, .iload_n 1, 1, 0, 0, []), (2, .iload_n 2, 1, 0, 0, []), (3, .invokestatic 194, 3, 0, 100000, [0]), (6, .iadd, 1, 0, 0, []), (7, .istore_n 3, 1, 0, 0, []), (8, .iconst 0, 1, 0, 0, []), (9, .iload_n 3, 1, 0, 0, [])]),
  (21, [(10, .if_icmp .ge 11, 3, 0, 0, []), (13, .iload_n 3, 1, 0, 0, []), (14, .ldc 200, 2, 2147483639, 0, [1]), (16, .if_icmp .gt 5, 3, 0, 0, []), (19, .iload_n 3, 1, 0, 0, []), (20, .ireturn, 1, 0, 0, [])])]
theorem C_163_ok : codOk q_163.1.cls q_163.2.1 C_163 := codR_ok (own := "jdk/internal/util/ArraysSupport") (cc := prog_36_method_27_code) RT_18_ok (by decide +kernel)
theorem h_163 : mQ 163 q_163 C_163 := ⟨mq_163, by decide +kernel, by decide, C_163_ok⟩
noncomputable def C_165 : eCode := [(19, [(0, .iload_n 1, 1, 0, 0, []), (1, .aload_n 0, 1, 0, 0, []), (2, .arraylength, 1, 0, 0, []), (3, .if_icmp .ne 11, 3, 0, 0, []), (14, .iload_n 1, 1, 0, 0, []), (15, .newarray .byte, 2, 0, 0, [0]), (17, .astore_n 2, 1, 0, 0, []), (18, .aload_n 0, 1, 0, 0, [])]),
  (31, [(19, .iconst 0, 1, 0, 0, []), (20, .aload_n 2, 1, 0, 0, []), (21, .iconst 0, 1, 0, 0, []), (22, .aload_n 0, 1, 0, 0, []), (23, .arraylength, 1, 0, 0, []), (24, .iload_n 1, 1, 0, 0, []), (25, .invokestatic 304, 3, 0, 100001, [1]), (28, .invokestatic 150, 3, 0, 150000, [2])]),
  (33, [(31, .aload_n 2, 1, 0, 0, []), (32, .areturn, 1, 0, 0, [])])]
theorem C_165_ok : codOk q_165.1.cls q_165.2.1 C_165 := codR_ok (own := "java/util/Arrays") (cc := prog_34_method_121_code) RT_19_ok (by decide +kernel)
theorem h_165 : mQ 165 q_165 C_165 := ⟨mq_165, by decide +kernel, by decide, C_165_ok⟩
noncomputable def C_166 : eCode := [(19, [(0, .getstatic 18, 3, 0, 0, [1]), (3, .ifCond .eq 14, 3, 0, 0, []), (6, .aload_n 0, 1, 0, 0, []), (7, .getfield 22, 3, 0, 1, [10]), (10, .ifCond .ne 7, 3, 0, 0, []), (13, .iconst 1, 1, 0, 0, []), (14, .goto 4, 3, 0, 0, []), (18, .ireturn, 1, 0, 0, [])])]
theorem C_166_ok : codOk q_166.1.cls q_166.2.1 C_166 := codR_ok (own := "java/lang/AbstractStringBuilder") (cc := prog_16_method_68_code) RT_13_ok (by decide +kernel)
theorem h_166 : mQ 166 q_166 C_166 := ⟨mq_166, by decide +kernel, by decide, C_166_ok⟩
noncomputable def C_171 : eCode := [(11, [(0, .bipush 30, 2, 0, 0, []), (2, .istore_n 3, 1, 0, 0, []), (3, .iload_n 3, 1, 0, 0, []), (4, .ifCond .lt 37, 3, 0, 0, []), (7, .lload_n 1, 1, 0, 0, []), (8, .iload_n 3, 1, 0, 0, []), (9, .lushr, 1, 0, 0, []), (10, .l2i, 1, 0, 0, [])]),
  (27, [(11, .bipush 31, 2, 0, 0, []), (13, .iand, 1, 0, 0, []), (14, .istore 4, 2, 0, 0, []), (16, .iload 4, 2, 0, 0, []), (18, .ifCond .le 17, 3, 0, 0, []), (21, .aload_n 0, 1, 0, 0, []), (22, .getfield 100, 3, 12, 14, [109]), (25, .bipush 96, 2, 0, 0, [])]),
  (42, [(27, .iload 4, 2, 0, 0, []), (29, .iadd, 1, 0, 0, []), (30, .i2c, 1, 0, 0, []), (31, .invokevirtual 409, 3, 1, 172, [118]), (34, .pop, 1, 0, 0, []), (35, .iinc 3 (-5), 3, 0, 0, []), (38, .goto (-35), 3, 0, 0, []), (41, .return_, 1, 0, 0, [])])]
theorem C_171_ok : codOk q_171.1.cls q_171.2.1 C_171 := codR_ok (own := "DrownedRooms") (cc := prog_1_method_45_code) RT_0_ok (by decide +kernel)
theorem h_171 : mQ 171 q_171 C_171 := ⟨mq_171, by decide +kernel, by decide, C_171_ok⟩
noncomputable def C_172 : eCode := [(8, [(0, .aload_n 0, 1, 0, 0, []), (1, .iload_n 1, 1, 0, 0, []), (2, .invokespecial 50, 3, 1001, 173, [2]), (5, .pop, 1, 0, 0, []), (6, .aload_n 0, 1, 0, 0, []), (7, .areturn, 1, 0, 0, [])])]
theorem C_172_ok : codOk q_172.1.cls q_172.2.1 C_172 := codR_ok (own := "java/lang/StringBuilder") (cc := prog_27_method_14_code) RT_12_ok (by decide +kernel)
theorem h_172 : mQ 172 q_172 C_172 := ⟨mq_172, by decide +kernel, by decide, C_172_ok⟩
noncomputable def C_173 : eCode := [(14, [(0, .aload_n 0, 1, 0, 0, []), (1, .aload_n 0, 1, 0, 0, []), (2, .getfield 79, 3, 0, 3, [6]), (5, .iconst 1, 1, 0, 0, []), (6, .iadd, 1, 0, 0, []), (7, .invokevirtual 100, 3, 1, 161, [5]), (10, .aload_n 0, 1, 0, 0, []), (11, .invokevirtual 83, 3, 0, 166, [15])]),
  (30, [(14, .ifCond .eq 31, 3, 0, 0, []), (17, .iload_n 1, 1, 0, 0, []), (18, .invokestatic 191, 3, 1, 174, [16]), (21, .ifCond .eq 24, 3, 0, 0, []), (24, .aload_n 0, 1, 0, 0, []), (25, .getfield 15, 3, 0, 0, [9]), (28, .aload_n 0, 1, 0, 0, []), (29, .dup, 1, 0, 0, [])]),
  (42, [(30, .getfield 79, 3, 0, 3, [6]), (33, .dup_x1, 1, 0, 0, []), (34, .iconst 1, 1, 0, 0, []), (35, .iadd, 1, 0, 0, []), (36, .putfield 79, 3, 0, 3, [8]), (39, .iload_n 1, 1, 0, 0, []), (40, .i2b, 1, 0, 0, []), (41, .bastore, 1, 0, 0, [])]),
  (77, [(42, .goto 33, 3, 0, 0, []), (75, .aload_n 0, 1, 0, 0, []), (76, .areturn, 1, 0, 0, [])])]
theorem C_173_ok : codOk q_173.1.cls q_173.2.1 C_173 := codR_ok (own := "java/lang/AbstractStringBuilder") (cc := prog_16_method_31_code) RT_13_ok (by decide +kernel)
theorem h_173 : mQ 173 q_173 C_173 := ⟨mq_173, by decide +kernel, by decide, C_173_ok⟩
noncomputable def C_174 : eCode := [(13, [(0, .iload_n 0, 1, 0, 0, []), (1, .sipush 255, 3, 0, 0, []), (4, .if_icmp .gt 7, 3, 0, 0, []), (7, .iconst 1, 1, 0, 0, []), (8, .goto 4, 3, 0, 0, []), (12, .ireturn, 1, 0, 0, [])])]
theorem C_174_ok : codOk q_174.1.cls q_174.2.1 C_174 := codR_ok (own := "java/lang/StringLatin1") (cc := prog_28_method_3_code) RT_15_ok (by decide +kernel)
theorem h_174 : mQ 174 q_174 C_174 := ⟨mq_174, by decide +kernel, by decide, C_174_ok⟩
noncomputable def C_183 : eCode := [(8, [(0, .aload_n 0, 1, 0, 0, []), (1, .aload_n 1, 1, 0, 0, []), (2, .invokespecial 29, 3, 1001, 184, [3]), (5, .pop, 1, 0, 0, []), (6, .aload_n 0, 1, 0, 0, []), (7, .areturn, 1, 0, 0, [])])]
theorem C_183_ok : codOk q_183.1.cls q_183.2.1 C_183 := codR_ok (own := "java/lang/StringBuilder") (cc := prog_27_method_7_code) RT_12_ok (by decide +kernel)
theorem h_183 : mQ 183 q_183 C_183 := ⟨mq_183, by decide +kernel, by decide, C_183_ok⟩
noncomputable def C_184 : eCode := [(19, [(0, .aload_n 1, 1, 0, 0, []), (1, .ifnonnull 8, 3, 0, 150000, []), (9, .aload_n 1, 1, 0, 0, []), (10, .invokevirtual 32, 3, 34000, 150000, [17]), (13, .istore_n 2, 1, 0, 0, []), (14, .aload_n 0, 1, 0, 0, []), (15, .aload_n 0, 1, 0, 0, []), (16, .getfield 79, 3, 0, 3, [6])]),
  (33, [(19, .iload_n 2, 1, 0, 0, []), (20, .iadd, 1, 0, 0, []), (21, .invokevirtual 100, 3, 1, 161, [5]), (24, .aload_n 0, 1, 0, 0, []), (25, .aload_n 0, 1, 0, 0, []), (26, .getfield 79, 3, 0, 3, [6]), (29, .aload_n 1, 1, 0, 0, []), (30, .invokevirtual 208, 3, 2, 190, [18])]),
  (45, [(33, .aload_n 0, 1, 0, 0, []), (34, .dup, 1, 0, 0, []), (35, .getfield 79, 3, 0, 3, [6]), (38, .iload_n 2, 1, 0, 0, []), (39, .iadd, 1, 0, 0, []), (40, .putfield 79, 3, 0, 3, [8]), (43, .aload_n 0, 1, 0, 0, []), (44, .areturn, 1, 0, 0, [])])]
theorem C_184_ok : codOk q_184.1.cls q_184.2.1 C_184 := codR_ok (own := "java/lang/AbstractStringBuilder") (cc := prog_16_method_22_code) RT_13_ok (by decide +kernel)
theorem h_184 : mQ 184 q_184 C_184 := ⟨mq_184, by decide +kernel, by decide, C_184_ok⟩
noncomputable def C_190 : eCode := [(12, [(0, .aload_n 0, 1, 0, 0, []), (1, .aload_n 2, 1, 0, 0, []), (2, .invokevirtual 397, 3, 1, 191, [19]), (5, .aload_n 2, 1, 0, 0, []), (6, .aload_n 0, 1, 0, 0, []), (7, .getfield 15, 3, 0, 0, [9]), (10, .iload_n 1, 1, 0, 0, []), (11, .aload_n 0, 1, 0, 0, [])]),
  (19, [(12, .getfield 22, 3, 0, 1, [10]), (15, .invokevirtual 399, 3, 192003, 150000, [20]), (18, .return_, 1, 0, 0, [])])]
theorem C_190_ok : codOk q_190.1.cls q_190.2.1 C_190 := codR_ok (own := "java/lang/AbstractStringBuilder") (cc := prog_16_method_73_code) RT_13_ok (by decide +kernel)
theorem h_190 : mQ 190 q_190 C_190 := ⟨mq_190, by decide +kernel, by decide, C_190_ok⟩
noncomputable def C_191 : eCode := [(22, [(0, .getstatic 18, 3, 0, 0, [1]), (3, .ifCond .eq 18, 3, 0, 0, []), (6, .aload_n 0, 1, 0, 0, []), (7, .getfield 22, 3, 0, 1, [10]), (10, .aload_n 1, 1, 0, 0, []), (11, .invokevirtual 40, 3, 35000, 150000, [21]), (14, .if_icmp .eq 7, 3, 0, 0, []), (21, .return_, 1, 0, 0, [])])]
theorem C_191_ok : codOk q_191.1.cls q_191.2.1 C_191 := codR_ok (own := "java/lang/AbstractStringBuilder") (cc := prog_16_method_71_code) RT_13_ok (by decide +kernel)
theorem h_191 : mQ 191 q_191 C_191 := ⟨mq_191, by decide +kernel, by decide, C_191_ok⟩
noncomputable def C_192 : eCode := [(14, [(0, .aload_n 0, 1, 0, 0, []), (1, .invokevirtual 335, 3, 35000, 150000, [1]), (4, .iload_n 3, 1, 0, 0, []), (5, .if_icmp .ne 23, 3, 0, 0, []), (8, .aload_n 0, 1, 0, 0, []), (9, .getfield 9, 3, 0, 150000, [0]), (12, .iconst 0, 1, 0, 0, []), (13, .aload_n 1, 1, 0, 0, [])]),
  (43, [(14, .iload_n 2, 1, 0, 0, []), (15, .iload_n 3, 1, 0, 0, []), (16, .ishl, 1, 0, 0, []), (17, .aload_n 0, 1, 0, 0, []), (18, .getfield 9, 3, 0, 150000, [0]), (21, .arraylength, 1, 0, 150000, []), (22, .invokestatic 212, 3, 0, 150000, [8]), (25, .goto 18, 3, 0, 0, [])]),
  (44, [(43, .return_, 1, 0, 0, [])])]
theorem C_192_ok : codOk q_192.1.cls q_192.2.1 C_192 := codR_ok (own := "java/lang/String") (cc := prog_26_method_147_code) RT_14_ok (by decide +kernel)
theorem h_192 : mQ 192 q_192 C_192 := ⟨mq_192, by decide +kernel, by decide, C_192_ok⟩
noncomputable def C_193 : eCode := [(8, [(0, .aload_n 0, 1, 0, 0, []), (1, .iload_n 1, 1, 0, 0, []), (2, .invokespecial 53, 3, 1001, 194, [4]), (5, .pop, 1, 0, 0, []), (6, .aload_n 0, 1, 0, 0, []), (7, .areturn, 1, 0, 0, [])])]
theorem C_193_ok : codOk q_193.1.cls q_193.2.1 C_193 := codR_ok (own := "java/lang/StringBuilder") (cc := prog_27_method_15_code) RT_12_ok (by decide +kernel)
theorem h_193 : mQ 193 q_193 C_193 := ⟨mq_193, by decide +kernel, by decide, C_193_ok⟩
noncomputable def C_194 : eCode := [(12, [(0, .aload_n 0, 1, 0, 0, []), (1, .getfield 79, 3, 0, 3, [6]), (4, .istore_n 2, 1, 0, 0, []), (5, .iload_n 2, 1, 0, 0, []), (6, .iload_n 1, 1, 0, 0, []), (7, .invokestatic 245, 3, 1, 195, [22]), (10, .iadd, 1, 0, 0, []), (11, .istore_n 3, 1, 0, 0, [])]),
  (26, [(12, .aload_n 0, 1, 0, 0, []), (13, .iload_n 3, 1, 0, 0, []), (14, .invokevirtual 100, 3, 1, 161, [5]), (17, .aload_n 0, 1, 0, 0, []), (18, .invokevirtual 83, 3, 0, 166, [15]), (21, .ifCond .eq 16, 3, 0, 0, []), (24, .iload_n 1, 1, 0, 0, []), (25, .iload_n 3, 1, 0, 0, [])]),
  (53, [(26, .aload_n 0, 1, 0, 0, []), (27, .getfield 15, 3, 0, 0, [9]), (30, .invokestatic 248, 3, 3, 196, [23]), (33, .pop, 1, 0, 0, []), (34, .goto 14, 3, 0, 0, []), (48, .aload_n 0, 1, 0, 0, []), (49, .iload_n 3, 1, 0, 0, []), (50, .putfield 79, 3, 0, 3, [8])]),
  (55, [(53, .aload_n 0, 1, 0, 0, []), (54, .areturn, 1, 0, 0, [])])]
theorem C_194_ok : codOk q_194.1.cls q_194.2.1 C_194 := codR_ok (own := "java/lang/AbstractStringBuilder") (cc := prog_16_method_32_code) RT_13_ok (by decide +kernel)
theorem h_194 : mQ 194 q_194 C_194 := ⟨mq_194, by decide +kernel, by decide, C_194_ok⟩
noncomputable def C_195 : eCode := [(10, [(0, .iconst 1, 1, 0, 0, []), (1, .istore_n 1, 1, 0, 0, []), (2, .iload_n 0, 1, 0, 0, []), (3, .ifCond .lt 8, 3, 0, 0, []), (6, .iconst 0, 1, 0, 0, []), (7, .istore_n 1, 1, 0, 0, []), (8, .iload_n 0, 1, 0, 0, []), (9, .ineg, 1, 0, 0, [])]),
  (22, [(10, .istore_n 0, 1, 0, 0, []), (11, .bipush (-10), 2, 0, 0, []), (13, .istore_n 2, 1, 0, 0, []), (14, .iconst 1, 1, 0, 0, []), (15, .istore_n 3, 1, 0, 0, []), (16, .iload_n 3, 1, 0, 0, []), (17, .bipush 10, 2, 0, 0, []), (19, .if_icmp .ge 23, 3, 0, 0, [])]),
  (33, [(22, .iload_n 0, 1, 0, 0, []), (23, .iload_n 2, 1, 0, 0, []), (24, .if_icmp .le 7, 3, 0, 0, []), (27, .iload_n 3, 1, 0, 0, []), (28, .iload_n 1, 1, 0, 0, []), (29, .iadd, 1, 0, 0, []), (30, .ireturn, 1, 0, 0, []), (31, .bipush 10, 2, 0, 0, [])]),
  (46, [(33, .iload_n 2, 1, 0, 0, []), (34, .imul, 1, 0, 0, []), (35, .istore_n 2, 1, 0, 0, []), (36, .iinc 3 1, 3, 0, 0, []), (39, .goto (-23), 3, 0, 0, []), (42, .bipush 10, 2, 0, 0, []), (44, .iload_n 1, 1, 0, 0, []), (45, .iadd, 1, 0, 0, [])]),
  (47, [(46, .ireturn, 1, 0, 0, [])])]
theorem C_195_ok : codOk q_195.1.cls q_195.2.1 C_195 := codR_ok (own := "java/lang/Integer") (cc := prog_22_method_13_code) RT_17_ok (by decide +kernel)
theorem h_195 : mQ 195 q_195 C_195 := ⟨mq_195, by decide +kernel, by decide, C_195_ok⟩
noncomputable def C_196 : eCode := [(14, [(0, .iload_n 1, 1, 0, 0, []), (1, .istore 5, 2, 0, 0, []), (3, .iload_n 0, 1, 0, 0, []), (4, .ifCond .ge 7, 3, 0, 0, []), (7, .iconst 1, 1, 0, 0, []), (8, .goto 4, 3, 0, 0, []), (11, .iconst 0, 1, 0, 0, []), (12, .istore 6, 2, 0, 0, [])]),
  (28, [(14, .iload 6, 2, 0, 0, []), (16, .ifCond .ne 6, 3, 0, 0, []), (19, .iload_n 0, 1, 0, 0, []), (20, .ineg, 1, 0, 0, []), (21, .istore_n 0, 1, 0, 0, []), (22, .iload_n 0, 1, 0, 0, []), (23, .bipush (-100), 2, 0, 0, []), (25, .if_icmp .gt 47, 3, 0, 0, [])]),
  (38, [(28, .iload_n 0, 1, 0, 0, []), (29, .bipush 100, 2, 0, 0, []), (31, .idiv, 1, 781, 0, []), (32, .istore_n 3, 1, 0, 0, []), (33, .iload_n 3, 1, 0, 0, []), (34, .bipush 100, 2, 0, 0, []), (36, .imul, 1, 0, 0, []), (37, .iload_n 0, 1, 0, 0, [])]),
  (52, [(38, .isub, 1, 0, 0, []), (39, .istore 4, 2, 0, 0, []), (41, .iload_n 3, 1, 0, 0, []), (42, .istore_n 0, 1, 0, 0, []), (43, .aload_n 2, 1, 0, 0, []), (44, .iinc 5 (-1), 3, 0, 0, []), (47, .iload 5, 2, 0, 0, []), (49, .getstatic 83, 3, 10, 150000, [3])]),
  (67, [(52, .iload 4, 2, 0, 0, []), (54, .baload, 1, 0, 150000, []), (55, .bastore, 1, 0, 0, []), (56, .aload_n 2, 1, 0, 0, []), (57, .iinc 5 (-1), 3, 0, 0, []), (60, .iload 5, 2, 0, 0, []), (62, .getstatic 87, 3, 11, 150000, [4]), (65, .iload 4, 2, 0, 0, [])]),
  (82, [(67, .baload, 1, 0, 150000, []), (68, .bastore, 1, 0, 0, []), (69, .goto (-47), 3, 0, 0, []), (72, .aload_n 2, 1, 0, 0, []), (73, .iinc 5 (-1), 3, 0, 0, []), (76, .iload 5, 2, 0, 0, []), (78, .getstatic 83, 3, 10, 150000, [3]), (81, .iload_n 0, 1, 0, 0, [])]),
  (95, [(82, .ineg, 1, 0, 0, []), (83, .baload, 1, 0, 150000, []), (84, .bastore, 1, 0, 0, []), (85, .iload_n 0, 1, 0, 0, []), (86, .bipush (-9), 2, 0, 0, []), (88, .if_icmp .ge 16, 3, 0, 0, []), (91, .aload_n 2, 1, 0, 0, []), (92, .iinc 5 (-1), 3, 0, 0, [])]),
  (109, [(95, .iload 5, 2, 0, 0, []), (97, .getstatic 87, 3, 11, 150000, [4]), (100, .iload_n 0, 1, 0, 0, []), (101, .ineg, 1, 0, 0, []), (102, .baload, 1, 0, 150000, []), (103, .bastore, 1, 0, 0, []), (104, .iload 6, 2, 0, 0, []), (106, .ifCond .eq 12, 3, 0, 0, [])]),
  (121, [(109, .aload_n 2, 1, 0, 0, []), (110, .iinc 5 (-1), 3, 0, 0, []), (113, .iload 5, 2, 0, 0, []), (115, .bipush 45, 2, 0, 0, []), (117, .bastore, 1, 0, 0, []), (118, .iload 5, 2, 0, 0, []), (120, .ireturn, 1, 0, 0, [])])]
theorem C_196_ok : codOk q_196.1.cls q_196.2.1 C_196 := codR_ok (own := "java/lang/Integer") (cc := prog_22_method_12_code) RT_17_ok (by decide +kernel)
theorem h_196 : mQ 196 q_196 C_196 := ⟨mq_196, by decide +kernel, by decide, C_196_ok⟩
noncomputable def C_199 : eCode := [(5, [(0, .aload_n 0, 1, 0, 0, []), (1, .invokespecial 343, 3, 1000, 200, [5]), (4, .ireturn, 1, 0, 0, [])])]
theorem C_199_ok : codOk q_199.1.cls q_199.2.1 C_199 := codR_ok (own := "java/lang/StringBuilder") (cc := prog_27_method_93_code) RT_12_ok (by decide +kernel)
theorem h_199 : mQ 199 q_199 C_199 := ⟨mq_199, by decide +kernel, by decide, C_199_ok⟩
noncomputable def C_200 : eCode := [(5, [(0, .aload_n 0, 1, 0, 0, []), (1, .getfield 79, 3, 0, 3, [6]), (4, .ireturn, 1, 0, 0, [])])]
theorem C_200_ok : codOk q_200.1.cls q_200.2.1 C_200 := codR_ok (own := "java/lang/AbstractStringBuilder") (cc := prog_16_method_6_code) RT_13_ok (by decide +kernel)
theorem h_200 : mQ 200 q_200 C_200 := ⟨mq_200, by decide +kernel, by decide, C_200_ok⟩
noncomputable def C_201 : eCode := [(16, [(0, .iload_n 1, 1, 0, 0, []), (1, .ifCond .lt 25, 3, 0, 0, []), (4, .iload_n 1, 1, 0, 0, []), (5, .aload_n 0, 1, 0, 0, []), (6, .getfield 100, 3, 12, 14, [109]), (9, .invokevirtual 336, 3, 0, 199, [117]), (12, .if_icmp .ge 14, 3, 779, 0, []), (15, .aload_n 0, 1, 0, 0, [])]),
  (28, [(16, .getfield 100, 3, 12, 14, [109]), (19, .iload_n 1, 1, 0, 0, []), (20, .invokevirtual 339, 3, 1, 202, [119]), (23, .goto 4, 3, 0, 0, []), (26, .iconst (-1), 1, 0, 0, []), (27, .ireturn, 1, 0, 0, [])])]
theorem C_201_ok : codOk q_201.1.cls q_201.2.1 C_201 := codR_ok (own := "DrownedRooms") (cc := prog_1_method_32_code) RT_0_ok (by decide +kernel)
theorem h_201 : mQ 201 q_201 C_201 := ⟨mq_201, by decide +kernel, by decide, C_201_ok⟩
noncomputable def C_202 : eCode := [(6, [(0, .aload_n 0, 1, 0, 0, []), (1, .iload_n 1, 1, 0, 0, []), (2, .invokespecial 329, 3, 1001, 203, [6]), (5, .ireturn, 1, 0, 0, [])])]
theorem C_202_ok : codOk q_202.1.cls q_202.2.1 C_202 := codR_ok (own := "java/lang/StringBuilder") (cc := prog_27_method_88_code) RT_12_ok (by decide +kernel)
theorem h_202 : mQ 202 q_202 C_202 := ⟨mq_202, by decide +kernel, by decide, C_202_ok⟩
noncomputable def C_203 : eCode := [(14, [(0, .aload_n 0, 1, 0, 0, []), (1, .getfield 22, 3, 0, 1, [10]), (4, .istore_n 2, 1, 0, 0, []), (5, .aload_n 0, 1, 0, 0, []), (6, .getfield 15, 3, 0, 0, [9]), (9, .astore_n 3, 1, 0, 0, []), (10, .aload_n 0, 1, 0, 0, []), (11, .getfield 79, 3, 0, 3, [6])]),
  (26, [(14, .aload_n 3, 1, 0, 0, []), (15, .arraylength, 1, 0, 0, []), (16, .iload_n 2, 1, 0, 0, []), (17, .ishr, 1, 0, 0, []), (18, .invokestatic 138, 3, 0, 100001, [24]), (21, .istore 4, 2, 0, 0, []), (23, .iload_n 1, 1, 0, 0, []), (24, .iload 4, 2, 0, 0, [])]),
  (40, [(26, .invokestatic 144, 3, 2, 39, [25]), (29, .iload_n 2, 1, 0, 0, []), (30, .ifCond .ne 12, 3, 0, 0, []), (33, .aload_n 3, 1, 0, 0, []), (34, .iload_n 1, 1, 0, 0, []), (35, .baload, 1, 0, 0, []), (36, .sipush 255, 3, 0, 0, []), (39, .iand, 1, 0, 0, [])]),
  (42, [(40, .i2c, 1, 0, 0, []), (41, .ireturn, 1, 0, 0, [])])]
theorem C_203_ok : codOk q_203.1.cls q_203.2.1 C_203 := codR_ok (own := "java/lang/AbstractStringBuilder") (cc := prog_16_method_14_code) RT_13_ok (by decide +kernel)
theorem h_203 : mQ 203 q_203 C_203 := ⟨mq_203, by decide +kernel, by decide, C_203_ok⟩
noncomputable def C_204 : eCode := [(13, [(0, .iload_n 1, 1, 0, 0, []), (1, .iconst 1, 1, 0, 0, []), (2, .bipush 60, 2, 0, 0, []), (4, .invokestatic 222, 3, 3, 53, [72]), (7, .ifCond .ne 5, 3, 0, 0, []), (10, .iconst (-1), 1, 0, 0, []), (11, .ireturn, 1, 0, 0, []), (12, .aload_n 0, 1, 0, 0, [])]),
  (33, [(13, .getfield 31, 3, 12, 3, [54]), (16, .invokevirtual 247, 3, 5000, 106, [82]), (19, .ifCond .le 14, 3, 0, 0, []), (22, .aload_n 0, 1, 0, 0, []), (23, .getfield 41, 3, 12, 5, [58]), (26, .aload_n 0, 1, 0, 0, []), (27, .getfield 31, 3, 12, 3, [54]), (30, .invokevirtual 230, 3, 3001, 96, [74])]),
  (43, [(33, .aload_n 0, 1, 0, 0, []), (34, .getfield 31, 3, 12, 3, [54]), (37, .iload_n 1, 1, 0, 0, []), (38, .iload_n 2, 1, 0, 0, []), (39, .invokevirtual 343, 3, 5002, 205, [120]), (42, .ireturn, 1, 0, 0, [])])]
theorem C_204_ok : codOk q_204.1.cls q_204.2.1 C_204 := codR_ok (own := "DrownedRooms") (cc := prog_1_method_33_code) RT_0_ok (by decide +kernel)
theorem h_204 : mQ 204 q_204 C_204 := ⟨mq_204, by decide +kernel, by decide, C_204_ok⟩
