/-! rows of code -/
def C_213 : eCode := [(14, [(0, .aload_n 0, 1, 0, 0, []), (1, .iconst 0, 1, 0, 0, []), (2, .putfield 76, 3, 2, 6, [437]), (5, .aload_n 0, 1, 0, 0, []), (6, .iconst 0, 1, 0, 0, []), (7, .putfield 79, 3, 2, 7, [438]), (10, .aload_n 0, 1, 0, 0, []), (11, .getfield 79, 3, 2, 7, [438])]),
  (64, [(14, .aload_n 0, 1, 0, 0, []), (15, .getfield 24, 3, 2, 4, [435]), (18, .if_icmp .ge 39, 3, 0, 0, []), (57, .aload_n 0, 1, 0, 0, []), (58, .iconst 1, 1, 0, 0, []), (59, .putfield 86, 3, 2, 5, [436]), (62, .aload_n 0, 1, 0, 0, []), (63, .aload_n 1, 1, 0, 0, [])]),
  (82, [(64, .getfield 90, 3, 5, 1, [332]), (67, .putfield 95, 3, 2, 8, [439]), (70, .aload_n 0, 1, 0, 0, []), (71, .aload_n 1, 1, 0, 0, []), (72, .getfield 98, 3, 5, 2, [337]), (75, .putfield 101, 3, 2, 9, [440]), (78, .aload_n 0, 1, 0, 0, []), (79, .getfield 76, 3, 2, 6, [437])]),
  (94, [(82, .ifCond .ne 7, 3, 0, 0, []), (85, .iconst (-1), 1, 0, 0, []), (86, .goto 7, 3, 0, 0, []), (93, .ireturn, 1, 0, 0, [])])]
theorem C_213_ok : codOk q_213.1.cls q_213.2.1 C_213 := codB_ok (by decide +kernel)
theorem h_213 : mQ 213 q_213 C_213 := ⟨mq_213, by decide +kernel, by decide, C_213_ok⟩
def C_218 : eCode := [(9, [(0, .aload_n 0, 1, 0, 0, []), (1, .getfield 58, 3, 12, 8, [616]), (4, .iload_n 1, 1, 0, 0, []), (5, .invokevirtual 352, 3, 2001, 219, [1508, 1509, 1510, 133]), (8, .ireturn, 1, 0, 0, [])])]
theorem C_218_ok : codOk q_218.1.cls q_218.2.1 C_218 := codB_ok (by decide +kernel)
theorem h_218 : mQ 218 q_218 C_218 := ⟨mq_218, by decide +kernel, by decide, C_218_ok⟩
def C_219 : eCode := [(9, [(0, .aload_n 0, 1, 0, 0, []), (1, .getfield 86, 3, 2, 5, [436]), (4, .ifCond .ne 5, 3, 0, 0, []), (7, .iconst (-1), 1, 0, 0, []), (8, .ireturn, 1, 0, 0, [])])]
theorem C_219_ok : codOk q_219.1.cls q_219.2.1 C_219 := codB_ok (by decide +kernel)
theorem h_219 : mQ 219 q_219 C_219 := ⟨mq_219, by decide +kernel, by decide, C_219_ok⟩
def C_220 : eCode := [(16, [(0, .aload_n 0, 1, 0, 0, []), (1, .getfield 52, 3, 12, 7, [615]), (4, .aload_n 0, 1, 0, 0, []), (5, .getfield 10, 3, 12, 0, [608]), (8, .aload_n 0, 1, 0, 0, []), (9, .getfield 19, 3, 12, 1, [609]), (12, .invokevirtual 355, 3, 8002, 221, [1516, 1517, 1518, 132]), (15, .aload_n 0, 1, 0, 0, [])]),
  (34, [(16, .invokevirtual 124, 3, 12000, 74, [878, 880, 17, 127]), (19, .aload_n 0, 1, 0, 0, []), (20, .getfield 127, 3, 12, 15, [623]), (23, .ifCond .eq 13, 3, 0, 0, []), (26, .iconst (-1), 1, 0, 0, []), (27, .aload_n 0, 1, 0, 0, []), (28, .getfield 10, 3, 12, 0, [608]), (31, .invokevirtual 131, 3, 10000, 77, [890, 891, 892, 128])]),
  (36, [(34, .isub, 1, 0, 0, []), (35, .ireturn, 1, 0, 0, [])])]
theorem C_220_ok : codOk q_220.1.cls q_220.2.1 C_220 := codB_ok (by decide +kernel)
theorem h_220 : mQ 220 q_220 C_220 := ⟨mq_220, by decide +kernel, by decide, C_220_ok⟩
def C_221 : eCode := [(16, [(0, .aload_n 0, 1, 0, 0, []), (1, .invokevirtual 37, 3, 8000, 79, [1520, 903, 904, 132]), (4, .aload_n 1, 1, 0, 0, []), (5, .sipush 200, 3, 0, 0, []), (8, .invokevirtual 40, 3, 10001, 27, [1521, 690, 691, 128]), (11, .aload_n 1, 1, 0, 0, []), (12, .invokevirtual 46, 3, 10000, 28, [1522, 694, 695, 128]), (15, .aload_n 0, 1, 0, 0, [])]),
  (39, [(16, .aload_n 1, 1, 0, 0, []), (17, .aload_n 2, 1, 0, 0, []), (18, .iconst 1, 1, 0, 0, []), (19, .invokevirtual 49, 3, 8003, 222, [1523, 1525, 40, 132]), (22, .ifCond .eq 16, 3, 0, 0, []), (38, .return_, 1, 0, 0, [])])]
theorem C_221_ok : codOk q_221.1.cls q_221.2.1 C_221 := codB_ok (by decide +kernel)
theorem h_221 : mQ 221 q_221 C_221 := ⟨mq_221, by decide +kernel, by decide, C_221_ok⟩
def C_222 : eCode := [(12, [(0, .aload_n 0, 1, 0, 0, []), (1, .aload_n 1, 1, 0, 0, []), (2, .aload_n 2, 1, 0, 0, []), (3, .iload_n 3, 1, 0, 0, []), (4, .invokevirtual 61, 3, 8003, 223, [1527, 1529, 41, 132]), (7, .istore 4, 2, 0, 0, []), (9, .iconst 0, 1, 0, 0, []), (10, .istore 5, 2, 0, 0, [])]),
  (74, [(12, .iload 5, 2, 0, 0, []), (14, .bipush 20, 2, 0, 0, []), (16, .if_icmp .ge 55, 3, 0, 0, []), (19, .iload 4, 2, 0, 0, []), (21, .ifCond .eq 50, 3, 0, 0, []), (71, .iload 4, 2, 0, 0, []), (73, .ireturn, 1, 0, 0, [])])]
theorem C_222_ok : codOk q_222.1.cls q_222.2.1 C_222 := codB_ok (by decide +kernel)
theorem h_222 : mQ 222 q_222 C_222 := ⟨mq_222, by decide +kernel, by decide, C_222_ok⟩
def C_223 : eCode := [(12, [(0, .aload_n 0, 1, 0, 0, []), (1, .aload_n 1, 1, 0, 0, []), (2, .aload_n 2, 1, 0, 0, []), (3, .iload_n 3, 1, 0, 0, []), (4, .invokevirtual 72, 3, 8003, 224, [1531, 1533, 42, 132]), (7, .istore 4, 2, 0, 0, []), (9, .iconst 0, 1, 0, 0, []), (10, .istore 5, 2, 0, 0, [])]),
  (74, [(12, .iload 5, 2, 0, 0, []), (14, .bipush 20, 2, 0, 0, []), (16, .if_icmp .ge 55, 3, 0, 0, []), (19, .iload 4, 2, 0, 0, []), (21, .ifCond .eq 50, 3, 0, 0, []), (71, .iload 4, 2, 0, 0, []), (73, .ireturn, 1, 0, 0, [])])]
theorem C_223_ok : codOk q_223.1.cls q_223.2.1 C_223 := codB_ok (by decide +kernel)
theorem h_223 : mQ 223 q_223 C_223 := ⟨mq_223, by decide +kernel, by decide, C_223_ok⟩
def C_224 : eCode := [(16, [(0, .aload_n 1, 1, 0, 0, []), (1, .invokevirtual 64, 3, 10000, 48, [1535, 774, 775, 128]), (4, .istore 4, 2, 0, 0, []), (6, .aload_n 1, 1, 0, 0, []), (7, .bipush 40, 2, 0, 0, []), (9, .invokevirtual 75, 3, 10001, 73, [1536, 875, 876, 128]), (12, .istore 5, 2, 0, 0, []), (14, .iload 5, 2, 0, 0, [])]),
  (33, [(16, .ifCond .ne 17, 3, 0, 0, []), (19, .iload 4, 2, 0, 0, []), (21, .invokestatic 79, 3, 1, 225, [1537, 1538, 132]), (24, .ifCond .ne 9, 3, 0, 0, []), (27, .aload_n 1, 1, 0, 0, []), (28, .iconst 1, 1, 0, 0, []), (29, .invokevirtual 57, 3, 10001, 50, [1540, 782, 783, 128]), (32, .ireturn, 1, 0, 0, [])])]
theorem C_224_ok : codOk q_224.1.cls q_224.2.1 C_224 := codB_ok (by decide +kernel)
theorem h_224 : mQ 224 q_224 C_224 := ⟨mq_224, by decide +kernel, by decide, C_224_ok⟩
def C_225 : eCode := [(18, [(0, .iload_n 0, 1, 0, 0, []), (1, .bipush 15, 2, 0, 0, []), (3, .if_icmp .lt 13, 3, 0, 0, []), (16, .iconst 0, 1, 0, 0, []), (17, .ireturn, 1, 0, 0, [])])]
theorem C_225_ok : codOk q_225.1.cls q_225.2.1 C_225 := codB_ok (by decide +kernel)
theorem h_225 : mQ 225 q_225 C_225 := ⟨mq_225, by decide +kernel, by decide, C_225_ok⟩
def C_230 : eCode := [(16, [(0, .aload_n 0, 1, 0, 0, []), (1, .aload_n 1, 1, 0, 0, []), (2, .getfield 28, 3, 8, 0, [405]), (5, .putfield 28, 3, 8, 0, [405]), (8, .aload_n 0, 1, 0, 0, []), (9, .aload_n 1, 1, 0, 0, []), (10, .getfield 24, 3, 8, 1, [407]), (13, .putfield 24, 3, 8, 1, [407])]),
  (31, [(16, .aload_n 1, 1, 0, 0, []), (17, .getfield 11, 3, 8, 2, [408]), (20, .iconst 0, 1, 0, 0, []), (21, .aload_n 0, 1, 0, 0, []), (22, .getfield 11, 3, 8, 2, [408]), (25, .iconst 0, 1, 0, 0, []), (26, .bipush 40, 2, 0, 0, []), (28, .invokestatic 31, 3, 0, 100003, [1565])]),
  (46, [(31, .aload_n 1, 1, 0, 0, []), (32, .getfield 15, 3, 8, 3, [409]), (35, .iconst 0, 1, 0, 0, []), (36, .aload_n 0, 1, 0, 0, []), (37, .getfield 15, 3, 8, 3, [409]), (40, .iconst 0, 1, 0, 0, []), (41, .bipush 40, 2, 0, 0, []), (43, .invokestatic 31, 3, 0, 100003, [1565])]),
  (61, [(46, .aload_n 1, 1, 0, 0, []), (47, .getfield 18, 3, 8, 4, [410]), (50, .iconst 0, 1, 0, 0, []), (51, .aload_n 0, 1, 0, 0, []), (52, .getfield 18, 3, 8, 4, [410]), (55, .iconst 0, 1, 0, 0, []), (56, .bipush 40, 2, 0, 0, []), (58, .invokestatic 31, 3, 0, 100003, [1565])]),
  (62, [(61, .return_, 1, 0, 0, [])])]
theorem C_230_ok : codOk q_230.1.cls q_230.2.1 C_230 := codB_ok (by decide +kernel)
theorem h_230 : mQ 230 q_230 C_230 := ⟨mq_230, by decide +kernel, by decide, C_230_ok⟩
def C_231 : eCode := [(12, [(0, .aload_n 0, 1, 0, 0, []), (1, .getfield 48, 3, 12, 6, [614]), (4, .invokevirtual 362, 3, 8000, 232, [1570, 1571, 1572, 132]), (7, .ifCond .ne 5, 3, 0, 0, []), (10, .iconst (-1), 1, 0, 0, []), (11, .ireturn, 1, 0, 0, [])])]
theorem C_231_ok : codOk q_231.1.cls q_231.2.1 C_231 := codB_ok (by decide +kernel)
theorem h_231 : mQ 231 q_231 C_231 := ⟨mq_231, by decide +kernel, by decide, C_231_ok⟩
def C_232 : eCode := [(13, [(0, .aload_n 0, 1, 0, 0, []), (1, .getfield 24, 3, 8, 1, [407]), (4, .ifCond .le 7, 3, 0, 0, []), (11, .iconst 0, 1, 0, 0, []), (12, .ireturn, 1, 0, 0, [])])]
theorem C_232_ok : codOk q_232.1.cls q_232.2.1 C_232 := codB_ok (by decide +kernel)
theorem h_232 : mQ 232 q_232 C_232 := ⟨mq_232, by decide +kernel, by decide, C_232_ok⟩
def C_239 : eCode := [(12, [(0, .iload_n 1, 1, 0, 0, []), (1, .iconst 0, 1, 0, 0, []), (2, .iconst 1, 1, 0, 0, []), (3, .invokestatic 222, 3, 3, 53, [954, 796, 127]), (6, .ifCond .ne 5, 3, 0, 0, []), (9, .iconst 0, 1, 0, 0, []), (10, .ireturn, 1, 0, 0, []), (11, .aload_n 0, 1, 0, 0, [])]),
  (26, [(12, .getfield 92, 3, 12, 13, [621]), (15, .iload_n 1, 1, 0, 0, []), (16, .aaload, 1, 0, 0, []), (17, .aload_n 0, 1, 0, 0, []), (18, .getfield 19, 3, 12, 1, [609]), (21, .aload_n 0, 1, 0, 0, []), (22, .getfield 31, 3, 12, 3, [611]), (25, .aload_n 0, 1, 0, 0, [])]),
  (34, [(26, .getfield 48, 3, 12, 6, [614]), (29, .invokevirtual 376, 3, 4003, 240, [1607, 1608, 1609, 138]), (32, .iconst 1, 1, 0, 0, []), (33, .ireturn, 1, 0, 0, [])])]
theorem C_239_ok : codOk q_239.1.cls q_239.2.1 C_239 := codB_ok (by decide +kernel)
theorem h_239 : mQ 239 q_239 C_239 := ⟨mq_239, by decide +kernel, by decide, C_239_ok⟩
def C_240 : eCode := [(16, [(0, .aload_n 0, 1, 0, 0, []), (1, .getfield 10, 3, 4, 0, [563]), (4, .aload_n 1, 1, 0, 0, []), (5, .invokevirtual 32, 3, 11001, 78, [1611, 895, 896, 129]), (8, .aload_n 0, 1, 0, 0, []), (9, .getfield 21, 3, 4, 1, [564]), (12, .aload_n 2, 1, 0, 0, []), (13, .invokevirtual 35, 3, 5001, 97, [1612, 975, 976, 130])]),
  (30, [(16, .aload_n 0, 1, 0, 0, []), (17, .getfield 28, 3, 4, 2, [565]), (20, .aload_n 3, 1, 0, 0, []), (21, .invokevirtual 38, 3, 8001, 230, [1613, 1562, 1563, 132]), (24, .aload_n 0, 1, 0, 0, []), (25, .iconst 1, 1, 0, 0, []), (26, .putfield 41, 3, 4, 3, [566]), (29, .return_, 1, 0, 0, [])])]
theorem C_240_ok : codOk q_240.1.cls q_240.2.1 C_240 := codB_ok (by decide +kernel)
theorem h_240 : mQ 240 q_240 C_240 := ⟨mq_240, by decide +kernel, by decide, C_240_ok⟩
def C_241 : eCode := [(14, [(0, .iload_n 1, 1, 0, 0, []), (1, .iconst 0, 1, 0, 0, []), (2, .iconst 1, 1, 0, 0, []), (3, .invokestatic 222, 3, 3, 53, [954, 796, 127]), (6, .ifCond .eq 15, 3, 0, 0, []), (9, .aload_n 0, 1, 0, 0, []), (10, .getfield 92, 3, 12, 13, [621]), (13, .iload_n 1, 1, 0, 0, [])]),
  (23, [(14, .aaload, 1, 0, 0, []), (15, .getfield 379, 3, 4, 3, [567]), (18, .ifCond .ne 5, 3, 0, 0, []), (21, .iconst 0, 1, 0, 0, []), (22, .ireturn, 1, 0, 0, [])])]
theorem C_241_ok : codOk q_241.1.cls q_241.2.1 C_241 := codB_ok (by decide +kernel)
theorem h_241 : mQ 241 q_241 C_241 := ⟨mq_241, by decide +kernel, by decide, C_241_ok⟩
def C_243 : eCode := [(60, [(0, .iload_n 1, 1, 0, 0, []), (1, .tableswitch 111 0 7 #[47, 55, 63, 71, 79, 87, 95, 103], 47, 0, 0, []), (48, .aload_n 0, 1, 0, 0, []), (49, .getfield 19, 3, 12, 1, [609]), (52, .getfield 385, 3, 11, 5, [230]), (55, .ireturn, 1, 0, 0, []), (56, .aload_n 0, 1, 0, 0, []), (57, .getfield 19, 3, 12, 1, [609])]),
  (76, [(60, .getfield 388, 3, 11, 6, [236]), (63, .ireturn, 1, 0, 0, []), (64, .aload_n 0, 1, 0, 0, []), (65, .getfield 19, 3, 12, 1, [609]), (68, .getfield 391, 3, 11, 7, [240]), (71, .ireturn, 1, 0, 0, []), (72, .aload_n 0, 1, 0, 0, []), (73, .getfield 19, 3, 12, 1, [609])]),
  (92, [(76, .getfield 394, 3, 11, 1, [218]), (79, .ireturn, 1, 0, 0, []), (80, .aload_n 0, 1, 0, 0, []), (81, .getfield 19, 3, 12, 1, [609]), (84, .getfield 397, 3, 11, 2, [221]), (87, .ireturn, 1, 0, 0, []), (88, .aload_n 0, 1, 0, 0, []), (89, .getfield 19, 3, 12, 1, [609])]),
  (108, [(92, .getfield 400, 3, 11, 3, [224]), (95, .ireturn, 1, 0, 0, []), (96, .aload_n 0, 1, 0, 0, []), (97, .getfield 19, 3, 12, 1, [609]), (100, .getfield 403, 3, 11, 4, [227]), (103, .ireturn, 1, 0, 0, []), (104, .aload_n 0, 1, 0, 0, []), (105, .getfield 10, 3, 12, 0, [608])]),
  (114, [(108, .invokevirtual 112, 3, 10000, 22, [669, 670, 671, 128]), (111, .ireturn, 1, 0, 0, []), (112, .iconst (-1), 1, 0, 0, []), (113, .ireturn, 1, 0, 0, [])])]
theorem C_243_ok : codOk q_243.1.cls q_243.2.1 C_243 := codB_ok (by decide +kernel)
theorem h_243 : mQ 243 q_243 C_243 := ⟨mq_243, by decide +kernel, by decide, C_243_ok⟩
def C_244 : eCode := [(6, [(0, .aload_n 0, 1, 0, 0, []), (1, .iload_n 1, 1, 0, 0, []), (2, .invokevirtual 144, 3, 12001, 91, [950, 952, 19, 127]), (5, .ifCond .ne 13, 3, 0, 0, [])])]
theorem C_244_ok : codOk q_244.1.cls q_244.2.1 C_244 := codB_ok (by decide +kernel)
theorem h_244 : mQ 244 q_244 C_244 := ⟨mq_244, by decide +kernel, by decide, C_244_ok⟩
def C_250 : eCode := [(6, [(0, .aload_n 0, 1, 0, 0, []), (1, .iload_n 1, 1, 0, 0, []), (2, .invokevirtual 176, 3, 12001, 90, [946, 948, 18, 127]), (5, .ifCond .ne 13, 3, 0, 0, [])])]
theorem C_250_ok : codOk q_250.1.cls q_250.2.1 C_250 := codB_ok (by decide +kernel)
theorem h_250 : mQ 250 q_250 C_250 := ⟨mq_250, by decide +kernel, by decide, C_250_ok⟩
def C_251 : eCode := [(5, [(0, .aload_n 0, 1, 0, 0, []), (1, .getfield 1, 3, 13, 0, [1740]), (4, .ireturn, 1, 0, 0, [])])]
theorem C_251_ok : codOk q_251.1.cls q_251.2.1 C_251 := codB_ok (by decide +kernel)
theorem h_251 : mQ 251 q_251 C_251 := ⟨mq_251, by decide +kernel, by decide, C_251_ok⟩
def C_252 : eCode := [(15, [(0, .aload_n 0, 1, 0, 0, []), (1, .iconst 0, 1, 0, 0, []), (2, .putfield 1, 3, 13, 0, [1740]), (5, .aload_n 0, 1, 0, 0, []), (6, .getfield 11, 3, 13, 2, [1742]), (9, .bipush 20, 2, 0, 0, []), (11, .iadd, 1, 0, 0, []), (12, .sipush 940, 3, 0, 0, [])]),
  (31, [(15, .if_icmp .le 5, 3, 0, 0, []), (20, .aload_n 0, 1, 0, 0, []), (21, .iload_n 1, 1, 0, 0, []), (22, .invokevirtual 14, 3, 13001, 253, [1718, 1720, 51, 143]), (25, .aload_n 0, 1, 0, 0, []), (26, .iload_n 2, 1, 0, 0, []), (27, .invokevirtual 14, 3, 13001, 253, [1718, 1720, 51, 143]), (30, .aload_n 0, 1, 0, 0, [])]),
  (47, [(31, .iload_n 3, 1, 0, 0, []), (32, .invokevirtual 14, 3, 13001, 253, [1718, 1720, 51, 143]), (35, .aload_n 0, 1, 0, 0, []), (36, .iload 4, 2, 0, 0, []), (38, .invokevirtual 14, 3, 13001, 253, [1718, 1720, 51, 143]), (41, .aload_n 0, 1, 0, 0, []), (42, .iload 5, 2, 0, 0, []), (44, .invokevirtual 14, 3, 13001, 253, [1718, 1720, 51, 143])]),
  (52, [(47, .aload_n 0, 1, 0, 0, []), (48, .getfield 11, 3, 13, 2, [1742]), (51, .ireturn, 1, 0, 0, [])])]
theorem C_252_ok : codOk q_252.1.cls q_252.2.1 C_252 := codB_ok (by decide +kernel)
theorem h_252 : mQ 252 q_252 C_252 := ⟨mq_252, by decide +kernel, by decide, C_252_ok⟩
def C_253 : eCode := [(15, [(0, .bipush 24, 2, 0, 0, []), (2, .istore_n 2, 1, 0, 0, []), (3, .iload_n 2, 1, 0, 0, []), (4, .ifCond .lt 35, 3, 0, 0, []), (7, .aload_n 0, 1, 0, 0, []), (8, .getfield 7, 3, 13, 1, [1741]), (11, .aload_n 0, 1, 0, 0, []), (12, .getfield 11, 3, 13, 2, [1742])]),
  (25, [(15, .iload_n 1, 1, 0, 0, []), (16, .iload_n 2, 1, 0, 0, []), (17, .iushr, 1, 0, 0, []), (18, .sipush 255, 3, 0, 0, []), (21, .iand, 1, 0, 0, []), (22, .iastore, 1, 0, 0, []), (23, .aload_n 0, 1, 0, 0, []), (24, .dup, 1, 0, 0, [])]),
  (40, [(25, .getfield 11, 3, 13, 2, [1742]), (28, .iconst 1, 1, 0, 0, []), (29, .iadd, 1, 0, 0, []), (30, .putfield 11, 3, 13, 2, [1742]), (33, .iinc 2 (-8), 3, 0, 0, []), (36, .goto (-33), 3, 0, 0, []), (39, .return_, 1, 0, 0, [])])]
theorem C_253_ok : codOk q_253.1.cls q_253.2.1 C_253 := codB_ok (by decide +kernel)
theorem h_253 : mQ 253 q_253 C_253 := ⟨mq_253, by decide +kernel, by decide, C_253_ok⟩
def C_254 : eCode := [(14, [(0, .aload_n 0, 1, 0, 0, []), (1, .iconst 0, 1, 0, 0, []), (2, .putfield 1, 3, 13, 0, [1740]), (5, .iload_n 1, 1, 0, 0, []), (6, .ifCond .lt 11, 3, 0, 0, []), (9, .iload_n 1, 1, 0, 0, []), (10, .aload_n 0, 1, 0, 0, []), (11, .getfield 11, 3, 13, 2, [1742])]),
  (26, [(14, .if_icmp .le 5, 3, 0, 0, []), (17, .iconst 0, 1, 0, 0, []), (18, .ireturn, 1, 0, 0, []), (19, .aload_n 0, 1, 0, 0, []), (20, .iload_n 1, 1, 0, 0, []), (21, .putfield 11, 3, 13, 2, [1742]), (24, .iconst 1, 1, 0, 0, []), (25, .ireturn, 1, 0, 0, [])])]
theorem C_254_ok : codOk q_254.1.cls q_254.2.1 C_254 := codB_ok (by decide +kernel)
theorem h_254 : mQ 254 q_254 C_254 := ⟨mq_254, by decide +kernel, by decide, C_254_ok⟩
def C_255 : eCode := [(17, [(0, .aload_n 0, 1, 0, 0, []), (1, .invokespecial 93, 3, 0, 100004, [1731]), (4, .aload_n 0, 1, 0, 0, []), (5, .sipush 940, 3, 0, 0, []), (8, .newarray .int, 2, 0, 0, [315]), (10, .putfield 7, 3, 13, 1, [1741]), (13, .aload_n 0, 1, 0, 0, []), (14, .sipush 350, 3, 0, 0, [])]),
  (34, [(17, .newarray .int, 2, 0, 0, [315]), (19, .putfield 98, 3, 13, 14, [1754]), (22, .aload_n 0, 1, 0, 0, []), (23, .bipush 72, 2, 0, 0, []), (25, .newarray .int, 2, 0, 0, [315]), (27, .putfield 101, 3, 13, 15, [1755]), (30, .aload_n 0, 1, 0, 0, []), (31, .sipush 700, 3, 0, 0, [])]),
  (51, [(34, .newarray .int, 2, 0, 0, [315]), (36, .putfield 104, 3, 13, 16, [1756]), (39, .aload_n 0, 1, 0, 0, []), (40, .sipush 288, 3, 0, 0, []), (43, .newarray .int, 2, 0, 0, [315]), (45, .putfield 107, 3, 13, 17, [1757]), (48, .aload_n 0, 1, 0, 0, []), (49, .bipush 36, 2, 0, 0, [])]),
  (67, [(51, .newarray .int, 2, 0, 0, [315]), (53, .putfield 110, 3, 13, 18, [1758]), (56, .aload_n 0, 1, 0, 0, []), (57, .bipush 19, 2, 0, 0, []), (59, .newarray .long, 2, 0, 0, [314]), (61, .putfield 113, 3, 13, 19, [1759]), (64, .aload_n 0, 1, 0, 0, []), (65, .bipush 19, 2, 0, 0, [])]),
  (82, [(67, .newarray .long, 2, 0, 0, [314]), (69, .putfield 117, 3, 13, 20, [1760]), (72, .aload_n 0, 1, 0, 0, []), (73, .bipush 38, 2, 0, 0, []), (75, .newarray .long, 2, 0, 0, [314]), (77, .putfield 120, 3, 13, 21, [1761]), (80, .aload_n 0, 1, 0, 0, []), (81, .iconst 2, 1, 0, 0, [])]),
  (98, [(82, .newarray .boolean, 2, 0, 0, [1903]), (84, .putfield 123, 3, 13, 22, [1762]), (87, .aload_n 0, 1, 0, 0, []), (88, .iconst 4, 1, 0, 0, []), (89, .newarray .boolean, 2, 0, 0, [1903]), (91, .putfield 127, 3, 13, 23, [1763]), (94, .aload_n 0, 1, 0, 0, []), (95, .sipush 287, 3, 0, 0, [])]),
  (112, [(98, .newarray .int, 2, 0, 0, [315]), (100, .putfield 130, 3, 13, 25, [1765]), (103, .aload_n 0, 1, 0, 0, []), (104, .iconst 5, 1, 0, 0, []), (105, .newarray .int, 2, 0, 0, [315]), (107, .putfield 133, 3, 13, 26, [1766]), (110, .aload_n 0, 1, 0, 0, []), (111, .iconst 5, 1, 0, 0, [])]),
  (126, [(112, .newarray .int, 2, 0, 0, [315]), (114, .putfield 136, 3, 13, 27, [1767]), (117, .aload_n 0, 1, 0, 0, []), (118, .iconst 5, 1, 0, 0, []), (119, .newarray .int, 2, 0, 0, [315]), (121, .putfield 139, 3, 13, 30, [1770]), (124, .aload_n 0, 1, 0, 0, []), (125, .iconst 5, 1, 0, 0, [])]),
  (140, [(126, .newarray .int, 2, 0, 0, [315]), (128, .putfield 142, 3, 13, 31, [1771]), (131, .aload_n 0, 1, 0, 0, []), (132, .iconst 5, 1, 0, 0, []), (133, .newarray .int, 2, 0, 0, [315]), (135, .putfield 145, 3, 13, 34, [1774]), (138, .aload_n 0, 1, 0, 0, []), (139, .iconst 5, 1, 0, 0, [])]),
  (155, [(140, .newarray .int, 2, 0, 0, [315]), (142, .putfield 148, 3, 13, 35, [1775]), (145, .aload_n 0, 1, 0, 0, []), (146, .iconst (-1), 1, 0, 0, []), (147, .putfield 151, 3, 13, 38, [1778]), (150, .aload_n 0, 1, 0, 0, []), (151, .iconst (-1), 1, 0, 0, []), (152, .putfield 154, 3, 13, 39, [1779])]),
  (169, [(155, .aload_n 0, 1, 0, 0, []), (156, .iconst (-1), 1, 0, 0, []), (157, .putfield 157, 3, 13, 40, [1780]), (160, .aload_n 0, 1, 0, 0, []), (161, .bipush 100, 2, 0, 0, []), (163, .newarray .int, 2, 0, 0, [315]), (165, .putfield 160, 3, 13, 41, [1781]), (168, .aload_n 0, 1, 0, 0, [])]),
  (186, [(169, .bipush 64, 2, 0, 0, []), (171, .newarray .int, 2, 0, 0, [315]), (173, .putfield 163, 3, 13, 42, [1782]), (176, .aload_n 0, 1, 0, 0, []), (177, .sipush 160, 3, 0, 0, []), (180, .newarray .int, 2, 0, 0, [315]), (182, .putfield 166, 3, 13, 45, [1785]), (185, .aload_n 0, 1, 0, 0, [])]),
  (202, [(186, .iconst 4, 1, 0, 0, []), (187, .newarray .int, 2, 0, 0, [315]), (189, .putfield 169, 3, 13, 46, [1786]), (192, .aload_n 0, 1, 0, 0, []), (193, .sipush 240, 3, 0, 0, []), (196, .newarray .int, 2, 0, 0, [315]), (198, .putfield 172, 3, 13, 49, [1789]), (201, .aload_n 0, 1, 0, 0, [])]),
  (217, [(202, .invokevirtual 175, 3, 13000, 256, [1732, 1734, 52, 143]), (205, .iconst 0, 1, 0, 0, []), (206, .istore_n 1, 1, 0, 0, []), (207, .iload_n 1, 1, 0, 0, []), (208, .bipush 72, 2, 0, 0, []), (210, .if_icmp .ge 21, 3, 0, 0, []), (213, .aload_n 0, 1, 0, 0, []), (214, .getfield 98, 3, 13, 14, [1754])]),
  (231, [(217, .iload_n 1, 1, 0, 0, []), (218, .aload_n 0, 1, 0, 0, []), (219, .getfield 101, 3, 13, 15, [1755]), (222, .iload_n 1, 1, 0, 0, []), (223, .iaload, 1, 0, 0, []), (224, .iastore, 1, 0, 0, []), (225, .iinc 1 1, 3, 0, 0, []), (228, .goto (-21), 3, 0, 0, [])]),
  (236, [(231, .aload_n 0, 1, 0, 0, []), (232, .invokevirtual 178, 3, 13000, 257, [1736, 1738, 53, 143]), (235, .return_, 1, 0, 0, [])])]
theorem C_255_ok : codOk q_255.1.cls q_255.2.1 C_255 := codB_ok (by decide +kernel)
theorem h_255 : mQ 255 q_255 C_255 := ⟨mq_255, by decide +kernel, by decide, C_255_ok⟩
def C_256 : eCode := [(13, [(0, .iconst 0, 1, 0, 0, []), (1, .istore_n 1, 1, 0, 0, []), (2, .iload_n 1, 1, 0, 0, []), (3, .bipush 72, 2, 0, 0, []), (5, .if_icmp .ge 16, 3, 0, 0, []), (8, .aload_n 0, 1, 0, 0, []), (9, .getfield 101, 3, 13, 15, [1755]), (12, .iload_n 1, 1, 0, 0, [])]),
  (25, [(13, .iconst 0, 1, 0, 0, []), (14, .iastore, 1, 0, 0, []), (15, .iinc 1 1, 3, 0, 0, []), (18, .goto (-16), 3, 0, 0, []), (21, .iconst 0, 1, 0, 0, []), (22, .istore_n 1, 1, 0, 0, []), (23, .iload_n 1, 1, 0, 0, []), (24, .iconst 4, 1, 0, 0, [])]),
  (41, [(25, .if_icmp .ge 16, 3, 0, 0, []), (28, .aload_n 0, 1, 0, 0, []), (29, .getfield 127, 3, 13, 23, [1763]), (32, .iload_n 1, 1, 0, 0, []), (33, .iconst 0, 1, 0, 0, []), (34, .bastore, 1, 0, 0, []), (35, .iinc 1 1, 3, 0, 0, []), (38, .goto (-15), 3, 0, 0, [])]),
  (55, [(41, .iconst 0, 1, 0, 0, []), (42, .istore_n 1, 1, 0, 0, []), (43, .iload_n 1, 1, 0, 0, []), (44, .bipush 6, 2, 0, 0, []), (46, .if_icmp .ge 19, 3, 0, 0, []), (49, .aload_n 0, 1, 0, 0, []), (50, .getfield 101, 3, 13, 15, [1755]), (53, .bipush 60, 2, 0, 0, [])]),
  (69, [(55, .iload_n 1, 1, 0, 0, []), (56, .iadd, 1, 0, 0, []), (57, .iconst (-1), 1, 0, 0, []), (58, .iastore, 1, 0, 0, []), (59, .iinc 1 1, 3, 0, 0, []), (62, .goto (-19), 3, 0, 0, []), (65, .aload_n 0, 1, 0, 0, []), (66, .getfield 101, 3, 13, 15, [1755])]),
  (82, [(69, .bipush 7, 2, 0, 0, []), (71, .bipush 20, 2, 0, 0, []), (73, .iastore, 1, 0, 0, []), (74, .aload_n 0, 1, 0, 0, []), (75, .getfield 101, 3, 13, 15, [1755]), (78, .iconst 3, 1, 0, 0, []), (79, .bipush 7, 2, 0, 0, []), (81, .iastore, 1, 0, 0, [])]),
  (94, [(82, .aload_n 0, 1, 0, 0, []), (83, .getfield 101, 3, 13, 15, [1755]), (86, .iconst 4, 1, 0, 0, []), (87, .iconst 3, 1, 0, 0, []), (88, .iastore, 1, 0, 0, []), (89, .aload_n 0, 1, 0, 0, []), (90, .getfield 101, 3, 13, 15, [1755]), (93, .iconst 5, 1, 0, 0, [])]),
  (98, [(94, .bipush 15, 2, 0, 0, []), (96, .iastore, 1, 0, 0, []), (97, .return_, 1, 0, 0, [])])]
theorem C_256_ok : codOk q_256.1.cls q_256.2.1 C_256 := codB_ok (by decide +kernel)
theorem h_256 : mQ 256 q_256 C_256 := ⟨mq_256, by decide +kernel, by decide, C_256_ok⟩
def C_257 : eCode := [(15, [(0, .bipush 72, 2, 0, 0, []), (2, .istore_n 1, 1, 0, 0, []), (3, .iload_n 1, 1, 0, 0, []), (4, .sipush 350, 3, 0, 0, []), (7, .if_icmp .ge 16, 3, 0, 0, []), (10, .aload_n 0, 1, 0, 0, []), (11, .getfield 98, 3, 13, 14, [1754]), (14, .iload_n 1, 1, 0, 0, [])]),
  (30, [(15, .iconst 0, 1, 0, 0, []), (16, .iastore, 1, 0, 0, []), (17, .iinc 1 1, 3, 0, 0, []), (20, .goto (-17), 3, 0, 0, []), (23, .aload_n 0, 1, 0, 0, []), (24, .getfield 98, 3, 13, 14, [1754]), (27, .bipush 73, 2, 0, 0, []), (29, .aload_n 0, 1, 0, 0, [])]),
  (44, [(30, .getfield 98, 3, 13, 14, [1754]), (33, .bipush 7, 2, 0, 0, []), (35, .iaload, 1, 0, 0, []), (36, .iastore, 1, 0, 0, []), (37, .aload_n 0, 1, 0, 0, []), (38, .getfield 98, 3, 13, 14, [1754]), (41, .bipush 74, 2, 0, 0, []), (43, .iconst 1, 1, 0, 0, [])]),
  (57, [(44, .iastore, 1, 0, 0, []), (45, .iconst 0, 1, 0, 0, []), (46, .istore_n 1, 1, 0, 0, []), (47, .iload_n 1, 1, 0, 0, []), (48, .bipush 6, 2, 0, 0, []), (50, .if_icmp .ge 63, 3, 0, 0, []), (53, .aload_n 0, 1, 0, 0, []), (54, .getfield 98, 3, 13, 14, [1754])]),
  (69, [(57, .bipush 76, 2, 0, 0, []), (59, .iload_n 1, 1, 0, 0, []), (60, .iadd, 1, 0, 0, []), (61, .aload_n 0, 1, 0, 0, []), (62, .getfield 98, 3, 13, 14, [1754]), (65, .bipush 42, 2, 0, 0, []), (67, .iload_n 1, 1, 0, 0, []), (68, .iadd, 1, 0, 0, [])]),
  (80, [(69, .iaload, 1, 0, 0, []), (70, .iastore, 1, 0, 0, []), (71, .aload_n 0, 1, 0, 0, []), (72, .getfield 98, 3, 13, 14, [1754]), (75, .bipush 82, 2, 0, 0, []), (77, .iload_n 1, 1, 0, 0, []), (78, .iadd, 1, 0, 0, []), (79, .aload_n 0, 1, 0, 0, [])]),
  (93, [(80, .getfield 98, 3, 13, 14, [1754]), (83, .bipush 60, 2, 0, 0, []), (85, .iload_n 1, 1, 0, 0, []), (86, .iadd, 1, 0, 0, []), (87, .iaload, 1, 0, 0, []), (88, .iastore, 1, 0, 0, []), (89, .aload_n 0, 1, 0, 0, []), (90, .getfield 98, 3, 13, 14, [1754])]),
  (105, [(93, .bipush 88, 2, 0, 0, []), (95, .iload_n 1, 1, 0, 0, []), (96, .iadd, 1, 0, 0, []), (97, .aload_n 0, 1, 0, 0, []), (98, .getfield 98, 3, 13, 14, [1754]), (101, .bipush 66, 2, 0, 0, []), (103, .iload_n 1, 1, 0, 0, []), (104, .iadd, 1, 0, 0, [])]),
  (114, [(105, .iaload, 1, 0, 0, []), (106, .iastore, 1, 0, 0, []), (107, .iinc 1 1, 3, 0, 0, []), (110, .goto (-63), 3, 0, 0, []), (113, .return_, 1, 0, 0, [])])]
theorem C_257_ok : codOk q_257.1.cls q_257.2.1 C_257 := codB_ok (by decide +kernel)
theorem h_257 : mQ 257 q_257 C_257 := ⟨mq_257, by decide +kernel, by decide, C_257_ok⟩
def C_258 : eCode := [(14, [(0, .aload_n 0, 1, 0, 0, []), (1, .sipush 900, 3, 0, 0, []), (4, .invokevirtual 233, 3, 13001, 259, [1908, 1910, 54, 143]), (7, .aload_n 0, 1, 0, 0, []), (8, .invokevirtual 175, 3, 13000, 256, [1732, 1734, 52, 143]), (11, .iconst 0, 1, 0, 0, []), (12, .istore_n 1, 1, 0, 0, []), (13, .aload_n 0, 1, 0, 0, [])]),
  (56, [(14, .getfield 30, 3, 13, 7, [1747]), (17, .ifCond .eq 30, 3, 0, 0, []), (47, .iconst 0, 1, 0, 0, []), (48, .istore_n 2, 1, 0, 0, []), (49, .iload_n 2, 1, 0, 0, []), (50, .bipush 72, 2, 0, 0, []), (52, .if_icmp .ge 21, 3, 0, 0, []), (55, .aload_n 0, 1, 0, 0, [])]),
  (70, [(56, .getfield 98, 3, 13, 14, [1754]), (59, .iload_n 2, 1, 0, 0, []), (60, .aload_n 0, 1, 0, 0, []), (61, .getfield 101, 3, 13, 15, [1755]), (64, .iload_n 2, 1, 0, 0, []), (65, .iaload, 1, 0, 0, []), (66, .iastore, 1, 0, 0, []), (67, .iinc 2 1, 3, 0, 0, [])]),
  (85, [(70, .goto (-21), 3, 0, 0, []), (73, .iconst 0, 1, 0, 0, []), (74, .istore_n 2, 1, 0, 0, []), (75, .iload_n 2, 1, 0, 0, []), (76, .bipush 19, 2, 0, 0, []), (78, .if_icmp .ge 21, 3, 0, 0, []), (81, .aload_n 0, 1, 0, 0, []), (82, .getfield 113, 3, 13, 19, [1759])]),
  (99, [(85, .iload_n 2, 1, 0, 0, []), (86, .aload_n 0, 1, 0, 0, []), (87, .getfield 117, 3, 13, 20, [1760]), (90, .iload_n 2, 1, 0, 0, []), (91, .laload, 1, 0, 0, []), (92, .lastore, 1, 0, 0, []), (93, .iinc 2 1, 3, 0, 0, []), (96, .goto (-21), 3, 0, 0, [])]),
  (110, [(99, .aload_n 0, 1, 0, 0, []), (100, .invokevirtual 178, 3, 13000, 257, [1736, 1738, 53, 143]), (103, .aload_n 0, 1, 0, 0, []), (104, .iconst 0, 1, 0, 0, []), (105, .putfield 242, 3, 13, 24, [1764]), (108, .iload_n 1, 1, 0, 0, []), (109, .ireturn, 1, 0, 0, [])])]
theorem C_258_ok : codOk q_258.1.cls q_258.2.1 C_258 := codB_ok (by decide +kernel)
theorem h_258 : mQ 258 q_258 C_258 := ⟨mq_258, by decide +kernel, by decide, C_258_ok⟩
def C_259 : eCode := [(14, [(0, .aload_n 0, 1, 0, 0, []), (1, .iconst 0, 1, 0, 0, []), (2, .putfield 1, 3, 13, 0, [1740]), (5, .aload_n 0, 1, 0, 0, []), (6, .aload_n 0, 1, 0, 0, []), (7, .invokevirtual 89, 3, 13000, 260, [1912, 1914, 55, 143]), (10, .putfield 18, 3, 13, 3, [1743]), (13, .aload_n 0, 1, 0, 0, [])]),
  (28, [(14, .iload_n 1, 1, 0, 0, []), (15, .putfield 27, 3, 13, 4, [1744]), (18, .aload_n 0, 1, 0, 0, []), (19, .iconst 0, 1, 0, 0, []), (20, .putfield 66, 3, 13, 10, [1750]), (23, .aload_n 0, 1, 0, 0, []), (24, .iconst 0, 1, 0, 0, []), (25, .putfield 21, 3, 13, 5, [1745])]),
  (33, [(28, .aload_n 0, 1, 0, 0, []), (29, .invokevirtual 82, 3, 13000, 261, [1916, 1918, 56, 143]), (32, .return_, 1, 0, 0, [])])]
theorem C_259_ok : codOk q_259.1.cls q_259.2.1 C_259 := codB_ok (by decide +kernel)
theorem h_259 : mQ 259 q_259 C_259 := ⟨mq_259, by decide +kernel, by decide, C_259_ok⟩
def C_260 : eCode := [(12, [(0, .aload_n 0, 1, 0, 0, []), (1, .getfield 11, 3, 13, 2, [1742]), (4, .istore_n 1, 1, 0, 0, []), (5, .aload_n 0, 1, 0, 0, []), (6, .iconst 0, 1, 0, 0, []), (7, .putfield 11, 3, 13, 2, [1742]), (10, .iload_n 1, 1, 0, 0, []), (11, .ireturn, 1, 0, 0, [])])]
theorem C_260_ok : codOk q_260.1.cls q_260.2.1 C_260 := codB_ok (by decide +kernel)
theorem h_260 : mQ 260 q_260 C_260 := ⟨mq_260, by decide +kernel, by decide, C_260_ok⟩
def C_261 : eCode := [(57, [(0, .aload_n 0, 1, 0, 0, []), (1, .getfield 21, 3, 13, 5, [1745]), (4, .aload_n 0, 1, 0, 0, []), (5, .getfield 18, 3, 13, 3, [1743]), (8, .if_icmp .ge 44, 3, 0, 0, []), (52, .aload_n 0, 1, 0, 0, []), (53, .aload_n 0, 1, 0, 0, []), (54, .getfield 21, 3, 13, 5, [1745])]),
  (100, [(57, .putfield 24, 3, 13, 6, [1746]), (60, .aload_n 0, 1, 0, 0, []), (61, .getfield 18, 3, 13, 3, [1743]), (64, .aload_n 0, 1, 0, 0, []), (65, .getfield 27, 3, 13, 4, [1744]), (68, .if_icmp .le 28, 3, 0, 0, []), (96, .aload_n 0, 1, 0, 0, []), (97, .getfield 21, 3, 13, 5, [1745])]),
  (113, [(100, .aload_n 0, 1, 0, 0, []), (101, .getfield 18, 3, 13, 3, [1743]), (104, .if_icmp .lt 9, 3, 0, 0, []), (107, .aload_n 0, 1, 0, 0, []), (108, .iconst 0, 1, 0, 0, []), (109, .putfield 30, 3, 13, 7, [1747]), (112, .return_, 1, 0, 0, [])])]
theorem C_261_ok : codOk q_261.1.cls q_261.2.1 C_261 := codB_ok (by decide +kernel)
theorem h_261 : mQ 261 q_261 C_261 := ⟨mq_261, by decide +kernel, by decide, C_261_ok⟩
def C_266 : eCode := [(26, [(0, .aload_n 0, 1, 0, 0, []), (1, .getfield 30, 3, 13, 7, [1747]), (4, .iconst 2, 1, 0, 0, []), (5, .if_icmp .ne 19, 3, 0, 0, []), (24, .iconst 0, 1, 0, 0, []), (25, .ireturn, 1, 0, 0, [])])]
theorem C_266_ok : codOk q_266.1.cls q_266.2.1 C_266 := codB_ok (by decide +kernel)
theorem h_266 : mQ 266 q_266 C_266 := ⟨mq_266, by decide +kernel, by decide, C_266_ok⟩
def C_270 : eCode := [(18, [(0, .aload_n 0, 1, 0, 0, []), (1, .aload_n 0, 1, 0, 0, []), (2, .getfield 30, 3, 13, 7, [1747]), (5, .iconst 1, 1, 0, 0, []), (6, .if_icmp .ne 7, 3, 0, 0, []), (13, .iload_n 1, 1, 0, 0, []), (14, .putfield 66, 3, 13, 10, [1750]), (17, .aload_n 0, 1, 0, 0, [])]),
  (27, [(18, .aload_n 0, 1, 0, 0, []), (19, .getfield 24, 3, 13, 6, [1746]), (22, .putfield 69, 3, 13, 11, [1751]), (25, .iconst 0, 1, 0, 0, []), (26, .ireturn, 1, 0, 0, [])])]
theorem C_270_ok : codOk q_270.1.cls q_270.2.1 C_270 := codB_ok (by decide +kernel)
theorem h_270 : mQ 270 q_270 C_270 := ⟨mq_270, by decide +kernel, by decide, C_270_ok⟩
def C_272 : eCode := [(14, [(0, .iload_n 0, 1, 0, 0, []), (1, .iload_n 1, 1, 0, 0, []), (2, .if_icmp .lt 12, 3, 0, 0, []), (5, .iload_n 0, 1, 0, 0, []), (6, .iload_n 2, 1, 0, 0, []), (7, .if_icmp .gt 7, 3, 0, 0, []), (10, .iconst 1, 1, 0, 0, []), (11, .goto 4, 3, 0, 0, [])]),
  (16, [(14, .iconst 0, 1, 0, 0, []), (15, .ireturn, 1, 0, 0, [])])]
theorem C_272_ok : codOk q_272.1.cls q_272.2.1 C_272 := codB_ok (by decide +kernel)
theorem h_272 : mQ 272 q_272 C_272 := ⟨mq_272, by decide +kernel, by decide, C_272_ok⟩
def C_287 : eCode := [(22, [(0, .aload_n 0, 1, 0, 0, []), (1, .getfield 30, 3, 13, 7, [1747]), (4, .iconst 4, 1, 0, 0, []), (5, .if_icmp .ne 15, 3, 0, 0, []), (20, .iconst 0, 1, 0, 0, []), (21, .ireturn, 1, 0, 0, [])])]
theorem C_287_ok : codOk q_287.1.cls q_287.2.1 C_287 := codB_ok (by decide +kernel)
theorem h_287 : mQ 287 q_287 C_287 := ⟨mq_287, by decide +kernel, by decide, C_287_ok⟩
def C_288 : eCode := [(10, [(0, .aload_n 0, 1, 0, 0, []), (1, .iconst 0, 1, 0, 0, []), (2, .putfield 1, 3, 13, 0, [1740]), (5, .aload_n 0, 1, 0, 0, []), (6, .getfield 66, 3, 13, 10, [1750]), (9, .ireturn, 1, 0, 0, [])])]
theorem C_288_ok : codOk q_288.1.cls q_288.2.1 C_288 := codB_ok (by decide +kernel)
theorem h_288 : mQ 288 q_288 C_288 := ⟨mq_288, by decide +kernel, by decide, C_288_ok⟩
def C_289 : eCode := [(14, [(0, .aload_n 0, 1, 0, 0, []), (1, .iconst 0, 1, 0, 0, []), (2, .putfield 1, 3, 13, 0, [1740]), (5, .aload_n 0, 1, 0, 0, []), (6, .iload_n 1, 1, 0, 0, []), (7, .invokevirtual 248, 3, 13001, 290, [2027, 2029, 76, 143]), (10, .ifCond .ne 8, 3, 0, 0, []), (13, .aload_n 0, 1, 0, 0, [])]),
  (18, [(14, .invokevirtual 251, 3, 13000, 291, [2031, 2033, 77, 143]), (17, .ireturn, 1, 0, 0, [])])]
theorem C_289_ok : codOk q_289.1.cls q_289.2.1 C_289 := codB_ok (by decide +kernel)
theorem h_289 : mQ 289 q_289 C_289 := ⟨mq_289, by decide +kernel, by decide, C_289_ok⟩
def C_290 : eCode := [(10, [(0, .iload_n 1, 1, 0, 0, []), (1, .iconst 0, 1, 0, 0, []), (2, .aload_n 0, 1, 0, 0, []), (3, .getfield 98, 3, 13, 14, [1754]), (6, .iconst 1, 1, 0, 0, []), (7, .iaload, 1, 0, 0, []), (8, .iconst 1, 1, 0, 0, []), (9, .isub, 1, 0, 0, [])]),
  (14, [(10, .invokestatic 75, 3, 3, 272, [1958, 1959, 143]), (13, .ireturn, 1, 0, 0, [])])]
theorem C_290_ok : codOk q_290.1.cls q_290.2.1 C_290 := codB_ok (by decide +kernel)
theorem h_290 : mQ 290 q_290 C_290 := ⟨mq_290, by decide +kernel, by decide, C_290_ok⟩
def C_291 : eCode := [(7, [(0, .aload_n 0, 1, 0, 0, []), (1, .iconst 1, 1, 0, 0, []), (2, .putfield 1, 3, 13, 0, [1740]), (5, .iconst 0, 1, 0, 0, []), (6, .ireturn, 1, 0, 0, [])])]
theorem C_291_ok : codOk q_291.1.cls q_291.2.1 C_291 := codB_ok (by decide +kernel)
theorem h_291 : mQ 291 q_291 C_291 := ⟨mq_291, by decide +kernel, by decide, C_291_ok⟩
def C_294 : eCode := [(14, [(0, .aload_n 0, 1, 0, 0, []), (1, .iconst 0, 1, 0, 0, []), (2, .putfield 1, 3, 13, 0, [1740]), (5, .aload_n 0, 1, 0, 0, []), (6, .iload_n 1, 1, 0, 0, []), (7, .invokevirtual 257, 3, 13001, 295, [2047, 2049, 80, 143]), (10, .ifCond .ne 8, 3, 0, 0, []), (13, .aload_n 0, 1, 0, 0, [])]),
  (18, [(14, .invokevirtual 251, 3, 13000, 291, [2031, 2033, 77, 143]), (17, .ireturn, 1, 0, 0, [])])]
theorem C_294_ok : codOk q_294.1.cls q_294.2.1 C_294 := codB_ok (by decide +kernel)
theorem h_294 : mQ 294 q_294 C_294 := ⟨mq_294, by decide +kernel, by decide, C_294_ok⟩
def C_295 : eCode := [(10, [(0, .iload_n 1, 1, 0, 0, []), (1, .iconst 0, 1, 0, 0, []), (2, .aload_n 0, 1, 0, 0, []), (3, .getfield 98, 3, 13, 14, [1754]), (6, .iconst 2, 1, 0, 0, []), (7, .iaload, 1, 0, 0, []), (8, .iconst 1, 1, 0, 0, []), (9, .isub, 1, 0, 0, [])]),
  (14, [(10, .invokestatic 75, 3, 3, 272, [1958, 1959, 143]), (13, .ireturn, 1, 0, 0, [])])]
theorem C_295_ok : codOk q_295.1.cls q_295.2.1 C_295 := codB_ok (by decide +kernel)
theorem h_295 : mQ 295 q_295 C_295 := ⟨mq_295, by decide +kernel, by decide, C_295_ok⟩
def C_296 : eCode := [(53, [(0, .aload_n 0, 1, 0, 0, []), (1, .iconst 0, 1, 0, 0, []), (2, .putfield 1, 3, 13, 0, [1740]), (5, .iconst 0, 1, 0, 0, []), (6, .istore_n 2, 1, 0, 0, []), (7, .iload_n 1, 1, 0, 0, []), (8, .tableswitch 132 0 6 #[44, 52, 60, 68, 76, 81, 123], 44, 0, 0, []), (52, .aload_n 0, 1, 0, 0, [])]),
  (67, [(53, .getfield 98, 3, 13, 14, [1754]), (56, .bipush 72, 2, 0, 0, []), (58, .iaload, 1, 0, 0, []), (59, .ireturn, 1, 0, 0, []), (60, .aload_n 0, 1, 0, 0, []), (61, .getfield 98, 3, 13, 14, [1754]), (64, .bipush 73, 2, 0, 0, []), (66, .iaload, 1, 0, 0, [])]),
  (80, [(67, .ireturn, 1, 0, 0, []), (68, .aload_n 0, 1, 0, 0, []), (69, .getfield 98, 3, 13, 14, [1754]), (72, .bipush 74, 2, 0, 0, []), (74, .iaload, 1, 0, 0, []), (75, .ireturn, 1, 0, 0, []), (76, .aload_n 0, 1, 0, 0, []), (77, .getfield 98, 3, 13, 14, [1754])]),
  (91, [(80, .bipush 75, 2, 0, 0, []), (82, .iaload, 1, 0, 0, []), (83, .ireturn, 1, 0, 0, []), (84, .aload_n 0, 1, 0, 0, []), (85, .invokevirtual 260, 3, 13000, 297, [2055, 2057, 81, 143]), (88, .ireturn, 1, 0, 0, []), (89, .iconst 0, 1, 0, 0, []), (90, .istore_n 3, 1, 0, 0, [])]),
  (131, [(91, .iload_n 3, 1, 0, 0, []), (92, .aload_n 0, 1, 0, 0, []), (93, .getfield 98, 3, 13, 14, [1754]), (96, .iconst 2, 1, 0, 0, []), (97, .iaload, 1, 0, 0, []), (98, .if_icmp .ge 31, 3, 0, 0, []), (129, .iload_n 2, 1, 0, 0, []), (130, .ireturn, 1, 0, 0, [])]),
  (142, [(131, .aload_n 0, 1, 0, 0, []), (132, .bipush 100, 2, 0, 0, []), (134, .bipush 8, 2, 0, 0, []), (136, .invokevirtual 266, 3, 13002, 299, [2063, 2065, 83, 143]), (139, .ireturn, 1, 0, 0, []), (140, .iconst (-1), 1, 0, 0, []), (141, .ireturn, 1, 0, 0, [])])]
theorem C_296_ok : codOk q_296.1.cls q_296.2.1 C_296 := codB_ok (by decide +kernel)
theorem h_296 : mQ 296 q_296 C_296 := ⟨mq_296, by decide +kernel, by decide, C_296_ok⟩
def C_297 : eCode := [(10, [(0, .iconst 0, 1, 0, 0, []), (1, .istore_n 1, 1, 0, 0, []), (2, .iconst 0, 1, 0, 0, []), (3, .istore_n 2, 1, 0, 0, []), (4, .iload_n 2, 1, 0, 0, []), (5, .aload_n 0, 1, 0, 0, []), (6, .getfield 98, 3, 13, 14, [1754]), (9, .iconst 1, 1, 0, 0, [])]),
  (36, [(10, .iaload, 1, 0, 0, []), (11, .if_icmp .ge 23, 3, 0, 0, []), (34, .iload_n 1, 1, 0, 0, []), (35, .ireturn, 1, 0, 0, [])])]
theorem C_297_ok : codOk q_297.1.cls q_297.2.1 C_297 := codB_ok (by decide +kernel)
theorem h_297 : mQ 297 q_297 C_297 := ⟨mq_297, by decide +kernel, by decide, C_297_ok⟩
def C_299 : eCode := [(12, [(0, .iconst 0, 1, 0, 0, []), (1, .istore_n 3, 1, 0, 0, []), (2, .iconst 0, 1, 0, 0, []), (3, .istore 4, 2, 0, 0, []), (5, .iload 4, 2, 0, 0, []), (7, .iload_n 2, 1, 0, 0, []), (8, .if_icmp .ge 21, 3, 0, 0, []), (11, .iload_n 3, 1, 0, 0, [])]),
  (23, [(12, .aload_n 0, 1, 0, 0, []), (13, .getfield 98, 3, 13, 14, [1754]), (16, .iload_n 1, 1, 0, 0, []), (17, .iload 4, 2, 0, 0, []), (19, .iadd, 1, 0, 0, []), (20, .iaload, 1, 0, 0, []), (21, .iadd, 1, 0, 0, []), (22, .istore_n 3, 1, 0, 0, [])]),
  (31, [(23, .iinc 4 1, 3, 0, 0, []), (26, .goto (-21), 3, 0, 0, []), (29, .iload_n 3, 1, 0, 0, []), (30, .ireturn, 1, 0, 0, [])])]
theorem C_299_ok : codOk q_299.1.cls q_299.2.1 C_299 := codB_ok (by decide +kernel)
theorem h_299 : mQ 299 q_299 C_299 := ⟨mq_299, by decide +kernel, by decide, C_299_ok⟩
def C_300 : eCode := [(10, [(0, .aload_n 0, 1, 0, 0, []), (1, .iconst 0, 1, 0, 0, []), (2, .putfield 1, 3, 13, 0, [1740]), (5, .aload_n 0, 1, 0, 0, []), (6, .iconst 0, 1, 0, 0, []), (7, .iload_n 1, 1, 0, 0, []), (8, .iload_n 2, 1, 0, 0, []), (9, .iload_n 3, 1, 0, 0, [])]),
  (45, [(10, .aload_n 0, 1, 0, 0, []), (11, .iload_n 1, 1, 0, 0, []), (12, .invokevirtual 257, 3, 13001, 295, [2047, 2049, 80, 143]), (15, .ifCond .eq 25, 3, 0, 0, []), (40, .iconst 0, 1, 0, 0, []), (41, .invokevirtual 284, 3, 13005, 301, [2071, 2073, 84, 143]), (44, .ireturn, 1, 0, 0, [])])]
theorem C_300_ok : codOk q_300.1.cls q_300.2.1 C_300 := codB_ok (by decide +kernel)
theorem h_300 : mQ 300 q_300 C_300 := ⟨mq_300, by decide +kernel, by decide, C_300_ok⟩
def C_301 : eCode := [(11, [(0, .iload 5, 2, 0, 0, []), (2, .ifCond .ne 5, 3, 0, 0, []), (5, .iconst (-1), 1, 0, 0, []), (6, .ireturn, 1, 0, 0, []), (7, .aload_n 0, 1, 0, 0, []), (8, .iload_n 1, 1, 0, 0, []), (9, .iload_n 2, 1, 0, 0, []), (10, .iload_n 3, 1, 0, 0, [])]),
  (28, [(11, .invokevirtual 273, 3, 13003, 302, [2075, 2077, 85, 143]), (14, .istore 6, 2, 0, 0, []), (16, .iload 6, 2, 0, 0, []), (18, .ifCond .eq 6, 3, 0, 0, []), (21, .iload 6, 2, 0, 0, []), (23, .ireturn, 1, 0, 0, []), (24, .aload_n 0, 1, 0, 0, []), (25, .invokevirtual 277, 3, 13000, 303, [2079, 2081, 86, 143])]),
  (39, [(28, .aload_n 0, 1, 0, 0, []), (29, .iload_n 1, 1, 0, 0, []), (30, .iload_n 2, 1, 0, 0, []), (31, .iload_n 3, 1, 0, 0, []), (32, .iload 4, 2, 0, 0, []), (34, .invokevirtual 280, 3, 13004, 304, [2083, 2085, 87, 143]), (37, .iconst 0, 1, 0, 0, []), (38, .ireturn, 1, 0, 0, [])])]
theorem C_301_ok : codOk q_301.1.cls q_301.2.1 C_301 := codB_ok (by decide +kernel)
theorem h_301 : mQ 301 q_301 C_301 := ⟨mq_301, by decide +kernel, by decide, C_301_ok⟩
