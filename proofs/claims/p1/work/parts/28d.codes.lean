/-! rows of code -/
def C_302 : eCode := [(101, [(0, .iload_n 1, 1, 0, 0, []), (1, .lookupswitch 89 #[(0, 27), (1, 75)], 27, 0, 0, []), (90, .aload_n 0, 1, 0, 0, []), (91, .getfield 98, 3, 13, 14, [1754]), (94, .bipush 74, 2, 0, 0, []), (96, .iaload, 1, 0, 0, []), (97, .iload_n 2, 1, 0, 0, []), (98, .if_icmp .ne 7, 3, 0, 0, [])]),
  (107, [(101, .iconst 1, 1, 0, 0, []), (102, .goto 4, 3, 0, 0, []), (105, .iconst 0, 1, 0, 0, []), (106, .ireturn, 1, 0, 0, [])])]
theorem C_302_ok : codOk q_302.1.cls q_302.2.1 C_302 := codB_ok (by decide +kernel)
theorem h_302 : mQ 302 q_302 C_302 := ⟨mq_302, by decide +kernel, by decide, C_302_ok⟩
def C_303 : eCode := [(54, [(0, .aload_n 0, 1, 0, 0, []), (1, .getfield 242, 3, 13, 24, [1764]), (4, .bipush 8, 2, 0, 0, []), (6, .if_icmp .ne 43, 3, 0, 0, []), (49, .iconst 0, 1, 0, 0, []), (50, .istore_n 1, 1, 0, 0, []), (51, .iload_n 1, 1, 0, 0, []), (52, .bipush 36, 2, 0, 0, [])]),
  (69, [(54, .if_icmp .ge 32, 3, 0, 0, []), (57, .aload_n 0, 1, 0, 0, []), (58, .getfield 107, 3, 13, 17, [1757]), (61, .bipush 36, 2, 0, 0, []), (63, .aload_n 0, 1, 0, 0, []), (64, .getfield 242, 3, 13, 24, [1764]), (67, .imul, 1, 0, 0, []), (68, .iload_n 1, 1, 0, 0, [])]),
  (80, [(69, .iadd, 1, 0, 0, []), (70, .aload_n 0, 1, 0, 0, []), (71, .getfield 98, 3, 13, 14, [1754]), (74, .bipush 72, 2, 0, 0, []), (76, .iload_n 1, 1, 0, 0, []), (77, .iadd, 1, 0, 0, []), (78, .iaload, 1, 0, 0, []), (79, .iastore, 1, 0, 0, [])]),
  (96, [(80, .iinc 1 1, 3, 0, 0, []), (83, .goto (-32), 3, 0, 0, []), (86, .aload_n 0, 1, 0, 0, []), (87, .dup, 1, 0, 0, []), (88, .getfield 242, 3, 13, 24, [1764]), (91, .iconst 1, 1, 0, 0, []), (92, .iadd, 1, 0, 0, []), (93, .putfield 242, 3, 13, 24, [1764])]),
  (97, [(96, .return_, 1, 0, 0, [])])]
theorem C_303_ok : codOk q_303.1.cls q_303.2.1 C_303 := codB_ok (by decide +kernel)
theorem h_303 : mQ 303 q_303 C_303 := ⟨mq_303, by decide +kernel, by decide, C_303_ok⟩
def C_304 : eCode := [(65, [(0, .iload_n 1, 1, 0, 0, []), (1, .lookupswitch 55 #[(0, 27), (1, 49)], 27, 0, 0, []), (56, .aload_n 0, 1, 0, 0, []), (57, .getfield 98, 3, 13, 14, [1754]), (60, .bipush 74, 2, 0, 0, []), (62, .iload_n 2, 1, 0, 0, []), (63, .iastore, 1, 0, 0, []), (64, .return_, 1, 0, 0, [])])]
theorem C_304_ok : codOk q_304.1.cls q_304.2.1 C_304 := codB_ok (by decide +kernel)
theorem h_304 : mQ 304 q_304 C_304 := ⟨mq_304, by decide +kernel, by decide, C_304_ok⟩
def C_306 : eCode := [(10, [(0, .aload_n 0, 1, 0, 0, []), (1, .iconst 0, 1, 0, 0, []), (2, .putfield 1, 3, 13, 0, [1740]), (5, .aload_n 0, 1, 0, 0, []), (6, .iconst 1, 1, 0, 0, []), (7, .iload_n 1, 1, 0, 0, []), (8, .iconst 0, 1, 0, 0, []), (9, .iconst 0, 1, 0, 0, [])]),
  (19, [(10, .aload_n 0, 1, 0, 0, []), (11, .iload_n 1, 1, 0, 0, []), (12, .invokevirtual 257, 3, 13001, 295, [2047, 2049, 80, 143]), (15, .invokevirtual 284, 3, 13005, 301, [2071, 2073, 84, 143]), (18, .ireturn, 1, 0, 0, [])])]
theorem C_306_ok : codOk q_306.1.cls q_306.2.1 C_306 := codB_ok (by decide +kernel)
theorem h_306 : mQ 306 q_306 C_306 := ⟨mq_306, by decide +kernel, by decide, C_306_ok⟩
def C_307 : eCode := [(10, [(0, .aload_n 0, 1, 0, 0, []), (1, .iconst 0, 1, 0, 0, []), (2, .putfield 1, 3, 13, 0, [1740]), (5, .aload_n 0, 1, 0, 0, []), (6, .iconst 2, 1, 0, 0, []), (7, .iload_n 1, 1, 0, 0, []), (8, .iconst 0, 1, 0, 0, []), (9, .iconst 0, 1, 0, 0, [])]),
  (20, [(10, .iload_n 1, 1, 0, 0, []), (11, .iconst 0, 1, 0, 0, []), (12, .iconst 5, 1, 0, 0, []), (13, .invokestatic 75, 3, 3, 272, [1958, 1959, 143]), (16, .invokevirtual 284, 3, 13005, 301, [2071, 2073, 84, 143]), (19, .ireturn, 1, 0, 0, [])])]
theorem C_307_ok : codOk q_307.1.cls q_307.2.1 C_307 := codB_ok (by decide +kernel)
theorem h_307 : mQ 307 q_307 C_307 := ⟨mq_307, by decide +kernel, by decide, C_307_ok⟩
def C_308 : eCode := [(14, [(0, .aload_n 0, 1, 0, 0, []), (1, .iconst 0, 1, 0, 0, []), (2, .putfield 1, 3, 13, 0, [1740]), (5, .aload_n 0, 1, 0, 0, []), (6, .getfield 242, 3, 13, 24, [1764]), (9, .ifCond .ne 5, 3, 0, 0, []), (12, .iconst (-1), 1, 0, 0, []), (13, .ireturn, 1, 0, 0, [])])]
theorem C_308_ok : codOk q_308.1.cls q_308.2.1 C_308 := codB_ok (by decide +kernel)
theorem h_308 : mQ 308 q_308 C_308 := ⟨mq_308, by decide +kernel, by decide, C_308_ok⟩
def C_309 : eCode := [(15, [(0, .aload_n 0, 1, 0, 0, []), (1, .iconst 0, 1, 0, 0, []), (2, .putfield 1, 3, 13, 0, [1740]), (5, .iload_n 1, 1, 0, 0, []), (6, .iconst 1, 1, 0, 0, []), (7, .bipush 60, 2, 0, 0, []), (9, .invokestatic 75, 3, 3, 272, [1958, 1959, 143]), (12, .ifCond .ne 5, 3, 0, 0, [])]),
  (32, [(15, .iconst (-1), 1, 0, 0, []), (16, .ireturn, 1, 0, 0, []), (17, .aload_n 0, 1, 0, 0, []), (18, .getfield 98, 3, 13, 14, [1754]), (21, .bipush 72, 2, 0, 0, []), (23, .iaload, 1, 0, 0, []), (24, .sipush 400, 3, 0, 0, []), (27, .if_icmp .ne 5, 3, 0, 0, [])]),
  (42, [(32, .aload_n 0, 1, 0, 0, []), (33, .invokevirtual 277, 3, 13000, 303, [2079, 2081, 86, 143]), (36, .aload_n 0, 1, 0, 0, []), (37, .iload_n 1, 1, 0, 0, []), (38, .invokevirtual 300, 3, 13001, 310, [2107, 2109, 89, 143]), (41, .ireturn, 1, 0, 0, [])])]
theorem C_309_ok : codOk q_309.1.cls q_309.2.1 C_309 := codB_ok (by decide +kernel)
theorem h_309 : mQ 309 q_309 C_309 := ⟨mq_309, by decide +kernel, by decide, C_309_ok⟩
def C_310 : eCode := [(15, [(0, .iload_n 1, 1, 0, 0, []), (1, .sipush 400, 3, 0, 0, []), (4, .aload_n 0, 1, 0, 0, []), (5, .getfield 98, 3, 13, 14, [1754]), (8, .bipush 72, 2, 0, 0, []), (10, .iaload, 1, 0, 0, []), (11, .isub, 1, 0, 0, []), (12, .invokestatic 288, 3, 2, 311, [2111, 2112, 143])]),
  (27, [(15, .istore_n 2, 1, 0, 0, []), (16, .iconst 0, 1, 0, 0, []), (17, .istore_n 3, 1, 0, 0, []), (18, .iload_n 3, 1, 0, 0, []), (19, .iload_n 2, 1, 0, 0, []), (20, .if_icmp .ge 13, 3, 0, 0, []), (23, .aload_n 0, 1, 0, 0, []), (24, .invokevirtual 297, 3, 13000, 312, [2114, 2116, 90, 143])]),
  (35, [(27, .iinc 3 1, 3, 0, 0, []), (30, .goto (-12), 3, 0, 0, []), (33, .iload_n 2, 1, 0, 0, []), (34, .ireturn, 1, 0, 0, [])])]
theorem C_310_ok : codOk q_310.1.cls q_310.2.1 C_310 := codB_ok (by decide +kernel)
theorem h_310 : mQ 310 q_310 C_310 := ⟨mq_310, by decide +kernel, by decide, C_310_ok⟩
def C_311 : eCode := [(11, [(0, .iload_n 0, 1, 0, 0, []), (1, .iload_n 1, 1, 0, 0, []), (2, .if_icmp .ge 7, 3, 0, 0, []), (5, .iload_n 0, 1, 0, 0, []), (6, .goto 4, 3, 0, 0, []), (9, .iload_n 1, 1, 0, 0, []), (10, .ireturn, 1, 0, 0, [])])]
theorem C_311_ok : codOk q_311.1.cls q_311.2.1 C_311 := codB_ok (by decide +kernel)
theorem h_311 : mQ 311 q_311 C_311 := ⟨mq_311, by decide +kernel, by decide, C_311_ok⟩
def C_312 : eCode := [(13, [(0, .aload_n 0, 1, 0, 0, []), (1, .getfield 98, 3, 13, 14, [1754]), (4, .bipush 73, 2, 0, 0, []), (6, .iaload, 1, 0, 0, []), (7, .aload_n 0, 1, 0, 0, []), (8, .getfield 98, 3, 13, 14, [1754]), (11, .iconst 5, 1, 0, 0, []), (12, .iaload, 1, 0, 0, [])]),
  (28, [(13, .if_icmp .lt 20, 3, 0, 0, []), (16, .aload_n 0, 1, 0, 0, []), (17, .getfield 98, 3, 13, 14, [1754]), (20, .bipush 75, 2, 0, 0, []), (22, .dup2, 1, 0, 0, []), (23, .iaload, 1, 0, 0, []), (24, .aload_n 0, 1, 0, 0, []), (25, .getfield 98, 3, 13, 14, [1754])]),
  (40, [(28, .bipush 74, 2, 0, 0, []), (30, .iaload, 1, 0, 0, []), (31, .iadd, 1, 0, 0, []), (32, .iastore, 1, 0, 0, []), (33, .aload_n 0, 1, 0, 0, []), (34, .getfield 98, 3, 13, 14, [1754]), (37, .bipush 73, 2, 0, 0, []), (39, .aload_n 0, 1, 0, 0, [])]),
  (54, [(40, .aload_n 0, 1, 0, 0, []), (41, .getfield 98, 3, 13, 14, [1754]), (44, .bipush 72, 2, 0, 0, []), (46, .iaload, 1, 0, 0, []), (47, .aload_n 0, 1, 0, 0, []), (48, .getfield 98, 3, 13, 14, [1754]), (51, .bipush 73, 2, 0, 0, []), (53, .iaload, 1, 0, 0, [])]),
  (67, [(54, .aload_n 0, 1, 0, 0, []), (55, .getfield 98, 3, 13, 14, [1754]), (58, .bipush 74, 2, 0, 0, []), (60, .iaload, 1, 0, 0, []), (61, .invokevirtual 291, 3, 13003, 313, [2118, 2120, 91, 143]), (64, .iastore, 1, 0, 0, []), (65, .iconst 0, 1, 0, 0, []), (66, .istore_n 1, 1, 0, 0, [])]),
  (100, [(67, .iload_n 1, 1, 0, 0, []), (68, .aload_n 0, 1, 0, 0, []), (69, .getfield 98, 3, 13, 14, [1754]), (72, .iconst 2, 1, 0, 0, []), (73, .iaload, 1, 0, 0, []), (74, .if_icmp .ge 22, 3, 0, 0, []), (96, .aload_n 0, 1, 0, 0, []), (97, .getfield 98, 3, 13, 14, [1754])]),
  (108, [(100, .bipush 72, 2, 0, 0, []), (102, .dup2, 1, 0, 0, []), (103, .iaload, 1, 0, 0, []), (104, .iconst 1, 1, 0, 0, []), (105, .iadd, 1, 0, 0, []), (106, .iastore, 1, 0, 0, []), (107, .return_, 1, 0, 0, [])])]
theorem C_312_ok : codOk q_312.1.cls q_312.2.1 C_312 := codB_ok (by decide +kernel)
theorem h_312 : mQ 312 q_312 C_312 := ⟨mq_312, by decide +kernel, by decide, C_312_ok⟩
def C_313 : eCode := [(10, [(0, .iload_n 2, 1, 0, 0, []), (1, .iload_n 3, 1, 0, 0, []), (2, .isub, 1, 0, 0, []), (3, .iload_n 1, 1, 0, 0, []), (4, .iconst 1, 1, 0, 0, []), (5, .iadd, 1, 0, 0, []), (6, .aload_n 0, 1, 0, 0, []), (7, .getfield 98, 3, 13, 14, [1754])]),
  (22, [(10, .iconst 3, 1, 0, 0, []), (11, .iaload, 1, 0, 0, []), (12, .irem, 1, 0, 0, []), (13, .ifCond .ne 12, 3, 0, 0, []), (16, .aload_n 0, 1, 0, 0, []), (17, .getfield 98, 3, 13, 14, [1754]), (20, .iconst 4, 1, 0, 0, []), (21, .iaload, 1, 0, 0, [])]),
  (38, [(22, .goto 4, 3, 0, 0, []), (25, .iconst 0, 1, 0, 0, []), (26, .iadd, 1, 0, 0, []), (27, .istore 4, 2, 0, 0, []), (29, .iload 4, 2, 0, 0, []), (31, .ifCond .ge 7, 3, 0, 0, []), (34, .iconst 0, 1, 0, 0, []), (35, .goto 10, 3, 0, 0, [])]),
  (46, [(38, .bipush 99, 2, 0, 0, []), (40, .iload 4, 2, 0, 0, []), (42, .invokestatic 288, 3, 2, 311, [2111, 2112, 143]), (45, .ireturn, 1, 0, 0, [])])]
theorem C_313_ok : codOk q_313.1.cls q_313.2.1 C_313 := codB_ok (by decide +kernel)
theorem h_313 : mQ 313 q_313 C_313 := ⟨mq_313, by decide +kernel, by decide, C_313_ok⟩
def C_315 : eCode := [(15, [(0, .aload_n 0, 1, 0, 0, []), (1, .iconst 0, 1, 0, 0, []), (2, .putfield 1, 3, 13, 0, [1740]), (5, .iload_n 1, 1, 0, 0, []), (6, .iconst 0, 1, 0, 0, []), (7, .bipush 60, 2, 0, 0, []), (9, .invokestatic 75, 3, 3, 272, [1958, 1959, 143]), (12, .ifCond .eq 18, 3, 0, 0, [])]),
  (30, [(15, .aload_n 0, 1, 0, 0, []), (16, .getfield 98, 3, 13, 14, [1754]), (19, .bipush 72, 2, 0, 0, []), (21, .iaload, 1, 0, 0, []), (22, .iload_n 1, 1, 0, 0, []), (23, .iadd, 1, 0, 0, []), (24, .sipush 400, 3, 0, 0, []), (27, .if_icmp .le 5, 3, 0, 0, [])]),
  (42, [(30, .iconst (-1), 1, 0, 0, []), (31, .ireturn, 1, 0, 0, []), (32, .aload_n 0, 1, 0, 0, []), (33, .invokevirtual 303, 3, 13000, 316, [2130, 2132, 93, 143]), (36, .aload_n 0, 1, 0, 0, []), (37, .iload_n 1, 1, 0, 0, []), (38, .invokevirtual 300, 3, 13001, 310, [2107, 2109, 89, 143]), (41, .pop, 1, 0, 0, [])]),
  (55, [(42, .aload_n 0, 1, 0, 0, []), (43, .getfield 98, 3, 13, 14, [1754]), (46, .bipush 73, 2, 0, 0, []), (48, .iaload, 1, 0, 0, []), (49, .istore_n 2, 1, 0, 0, []), (50, .aload_n 0, 1, 0, 0, []), (51, .invokevirtual 306, 3, 13000, 317, [2134, 2136, 94, 143]), (54, .iload_n 2, 1, 0, 0, [])]),
  (56, [(55, .ireturn, 1, 0, 0, [])])]
theorem C_315_ok : codOk q_315.1.cls q_315.2.1 C_315 := codB_ok (by decide +kernel)
theorem h_315 : mQ 315 q_315 C_315 := ⟨mq_315, by decide +kernel, by decide, C_315_ok⟩
def C_316 : eCode := [(13, [(0, .iconst 0, 1, 0, 0, []), (1, .istore_n 1, 1, 0, 0, []), (2, .iload_n 1, 1, 0, 0, []), (3, .bipush 36, 2, 0, 0, []), (5, .if_icmp .ge 24, 3, 0, 0, []), (8, .aload_n 0, 1, 0, 0, []), (9, .getfield 110, 3, 13, 18, [1758]), (12, .iload_n 1, 1, 0, 0, [])]),
  (26, [(13, .aload_n 0, 1, 0, 0, []), (14, .getfield 98, 3, 13, 14, [1754]), (17, .bipush 72, 2, 0, 0, []), (19, .iload_n 1, 1, 0, 0, []), (20, .iadd, 1, 0, 0, []), (21, .iaload, 1, 0, 0, []), (22, .iastore, 1, 0, 0, []), (23, .iinc 1 1, 3, 0, 0, [])]),
  (30, [(26, .goto (-24), 3, 0, 0, []), (29, .return_, 1, 0, 0, [])])]
theorem C_316_ok : codOk q_316.1.cls q_316.2.1 C_316 := codB_ok (by decide +kernel)
theorem h_316 : mQ 316 q_316 C_316 := ⟨mq_316, by decide +kernel, by decide, C_316_ok⟩
def C_317 : eCode := [(14, [(0, .iconst 0, 1, 0, 0, []), (1, .istore_n 1, 1, 0, 0, []), (2, .iload_n 1, 1, 0, 0, []), (3, .bipush 36, 2, 0, 0, []), (5, .if_icmp .ge 24, 3, 0, 0, []), (8, .aload_n 0, 1, 0, 0, []), (9, .getfield 98, 3, 13, 14, [1754]), (12, .bipush 72, 2, 0, 0, [])]),
  (26, [(14, .iload_n 1, 1, 0, 0, []), (15, .iadd, 1, 0, 0, []), (16, .aload_n 0, 1, 0, 0, []), (17, .getfield 110, 3, 13, 18, [1758]), (20, .iload_n 1, 1, 0, 0, []), (21, .iaload, 1, 0, 0, []), (22, .iastore, 1, 0, 0, []), (23, .iinc 1 1, 3, 0, 0, [])]),
  (30, [(26, .goto (-24), 3, 0, 0, []), (29, .return_, 1, 0, 0, [])])]
theorem C_317_ok : codOk q_317.1.cls q_317.2.1 C_317 := codB_ok (by decide +kernel)
theorem h_317 : mQ 317 q_317 C_317 := ⟨mq_317, by decide +kernel, by decide, C_317_ok⟩
def C_318 : eCode := [(24, [(0, .aload_n 0, 1, 0, 0, []), (1, .iconst 0, 1, 0, 0, []), (2, .putfield 1, 3, 13, 0, [1740]), (5, .aload_n 0, 1, 0, 0, []), (6, .iload_n 1, 1, 0, 0, []), (7, .invokevirtual 248, 3, 13001, 290, [2027, 2029, 76, 143]), (10, .ifCond .eq 13, 3, 0, 0, []), (23, .iconst (-1), 1, 0, 0, [])]),
  (25, [(24, .ireturn, 1, 0, 0, [])])]
theorem C_318_ok : codOk q_318.1.cls q_318.2.1 C_318 := codB_ok (by decide +kernel)
theorem h_318 : mQ 318 q_318 C_318 := ⟨mq_318, by decide +kernel, by decide, C_318_ok⟩
def C_319 : eCode := [(14, [(0, .aload_n 0, 1, 0, 0, []), (1, .iconst 0, 1, 0, 0, []), (2, .putfield 1, 3, 13, 0, [1740]), (5, .aload_n 0, 1, 0, 0, []), (6, .iload_n 1, 1, 0, 0, []), (7, .invokevirtual 248, 3, 13001, 290, [2027, 2029, 76, 143]), (10, .ifCond .ne 5, 3, 0, 0, []), (13, .iconst (-1), 1, 0, 0, [])]),
  (15, [(14, .ireturn, 1, 0, 0, [])])]
theorem C_319_ok : codOk q_319.1.cls q_319.2.1 C_319 := codB_ok (by decide +kernel)
theorem h_319 : mQ 319 q_319 C_319 := ⟨mq_319, by decide +kernel, by decide, C_319_ok⟩
def C_320 : eCode := [(12, [(0, .aload_n 0, 1, 0, 0, []), (1, .iconst 0, 1, 0, 0, []), (2, .putfield 1, 3, 13, 0, [1740]), (5, .aload_n 0, 1, 0, 0, []), (6, .invokevirtual 89, 3, 13000, 260, [1912, 1914, 55, 143]), (9, .istore_n 1, 1, 0, 0, []), (10, .iload_n 1, 1, 0, 0, []), (11, .iconst 3, 1, 0, 0, [])]),
  (24, [(12, .irem, 1, 0, 0, []), (13, .ifCond .ne 14, 3, 0, 0, []), (16, .iload_n 1, 1, 0, 0, []), (17, .iconst 3, 1, 0, 0, []), (18, .idiv, 1, 0, 0, []), (19, .iconst 1, 1, 0, 0, []), (20, .iconst 5, 1, 0, 0, []), (21, .invokestatic 75, 3, 3, 272, [1958, 1959, 143])]),
  (29, [(24, .ifCond .ne 5, 3, 0, 0, []), (27, .iconst (-1), 1, 0, 0, []), (28, .ireturn, 1, 0, 0, [])])]
theorem C_320_ok : codOk q_320.1.cls q_320.2.1 C_320 := codB_ok (by decide +kernel)
theorem h_320 : mQ 320 q_320 C_320 := ⟨mq_320, by decide +kernel, by decide, C_320_ok⟩
def C_324 : eCode := [(12, [(0, .aload_n 0, 1, 0, 0, []), (1, .iconst 0, 1, 0, 0, []), (2, .putfield 1, 3, 13, 0, [1740]), (5, .iload_n 1, 1, 0, 0, []), (6, .iconst 0, 1, 0, 0, []), (7, .aload_n 0, 1, 0, 0, []), (8, .getfield 322, 3, 13, 29, [1769]), (11, .iconst 1, 1, 0, 0, [])]),
  (30, [(12, .isub, 1, 0, 0, []), (13, .invokestatic 75, 3, 3, 272, [1958, 1959, 143]), (16, .ifCond .eq 12, 3, 0, 0, []), (28, .iconst (-1), 1, 0, 0, []), (29, .ireturn, 1, 0, 0, [])])]
theorem C_324_ok : codOk q_324.1.cls q_324.2.1 C_324 := codB_ok (by decide +kernel)
theorem h_324 : mQ 324 q_324 C_324 := ⟨mq_324, by decide +kernel, by decide, C_324_ok⟩
def C_325 : eCode := [(38, [(0, .aload_n 0, 1, 0, 0, []), (1, .iconst 0, 1, 0, 0, []), (2, .putfield 1, 3, 13, 0, [1740]), (5, .aload_n 0, 1, 0, 0, []), (6, .iload_n 1, 1, 0, 0, []), (7, .invokevirtual 248, 3, 13001, 290, [2027, 2029, 76, 143]), (10, .ifCond .eq 27, 3, 0, 0, []), (37, .iconst (-1), 1, 0, 0, [])]),
  (39, [(38, .ireturn, 1, 0, 0, [])])]
theorem C_325_ok : codOk q_325.1.cls q_325.2.1 C_325 := codB_ok (by decide +kernel)
theorem h_325 : mQ 325 q_325 C_325 := ⟨mq_325, by decide +kernel, by decide, C_325_ok⟩
def C_327 : eCode := [(12, [(0, .aload_n 0, 1, 0, 0, []), (1, .iconst 0, 1, 0, 0, []), (2, .putfield 1, 3, 13, 0, [1740]), (5, .iload_n 1, 1, 0, 0, []), (6, .iconst 0, 1, 0, 0, []), (7, .aload_n 0, 1, 0, 0, []), (8, .getfield 332, 3, 13, 33, [1773]), (11, .iconst 1, 1, 0, 0, [])]),
  (30, [(12, .isub, 1, 0, 0, []), (13, .invokestatic 75, 3, 3, 272, [1958, 1959, 143]), (16, .ifCond .eq 12, 3, 0, 0, []), (28, .iconst (-1), 1, 0, 0, []), (29, .ireturn, 1, 0, 0, [])])]
theorem C_327_ok : codOk q_327.1.cls q_327.2.1 C_327 := codB_ok (by decide +kernel)
theorem h_327 : mQ 327 q_327 C_327 := ⟨mq_327, by decide +kernel, by decide, C_327_ok⟩
def C_328 : eCode := [(10, [(0, .aload_n 0, 1, 0, 0, []), (1, .iconst 0, 1, 0, 0, []), (2, .putfield 1, 3, 13, 0, [1740]), (5, .iconst 0, 1, 0, 0, []), (6, .istore_n 1, 1, 0, 0, []), (7, .iconst 0, 1, 0, 0, []), (8, .istore_n 2, 1, 0, 0, []), (9, .iload_n 2, 1, 0, 0, [])]),
  (62, [(10, .aload_n 0, 1, 0, 0, []), (11, .getfield 98, 3, 13, 14, [1754]), (14, .iconst 2, 1, 0, 0, []), (15, .iaload, 1, 0, 0, []), (16, .if_icmp .ge 39, 3, 0, 0, []), (55, .aload_n 0, 1, 0, 0, []), (56, .ldc_w 349, 3, 100000, 0, [2182]), (59, .putfield 337, 3, 13, 36, [1776])]),
  (72, [(62, .aload_n 0, 1, 0, 0, []), (63, .iconst 0, 1, 0, 0, []), (64, .iload_n 1, 1, 0, 0, []), (65, .iconst 0, 1, 0, 0, []), (66, .iconst 0, 1, 0, 0, []), (67, .iconst 0, 1, 0, 0, []), (68, .invokevirtual 346, 3, 13005, 329, [2183, 2185, 99, 143]), (71, .aload_n 0, 1, 0, 0, [])]),
  (76, [(72, .getfield 337, 3, 13, 36, [1776]), (75, .ireturn, 1, 0, 0, [])])]
theorem C_328_ok : codOk q_328.1.cls q_328.2.1 C_328 := codB_ok (by decide +kernel)
theorem h_328 : mQ 328 q_328 C_328 := ⟨mq_328, by decide +kernel, by decide, C_328_ok⟩
def C_329 : eCode := [(12, [(0, .iload_n 2, 1, 0, 0, []), (1, .ifCond .ne 64, 3, 0, 0, []), (4, .iload 5, 2, 0, 0, []), (6, .iload_n 3, 1, 0, 0, []), (7, .iadd, 1, 0, 0, []), (8, .iload 4, 2, 0, 0, []), (10, .iadd, 1, 0, 0, []), (11, .aload_n 0, 1, 0, 0, [])]),
  (27, [(12, .getfield 337, 3, 13, 36, [1776]), (15, .if_icmp .lt 4, 3, 0, 0, []), (19, .aload_n 0, 1, 0, 0, []), (20, .iload 5, 2, 0, 0, []), (22, .iload_n 3, 1, 0, 0, []), (23, .iadd, 1, 0, 0, []), (24, .iload 4, 2, 0, 0, []), (26, .iadd, 1, 0, 0, [])]),
  (61, [(27, .putfield 337, 3, 13, 36, [1776]), (30, .iconst 0, 1, 0, 0, []), (31, .istore 6, 2, 0, 0, []), (33, .iload 6, 2, 0, 0, []), (35, .iload_n 1, 1, 0, 0, []), (36, .if_icmp .ge 23, 3, 0, 0, []), (59, .aload_n 0, 1, 0, 0, []), (60, .iload_n 1, 1, 0, 0, [])]),
  (65, [(61, .putfield 340, 3, 13, 37, [1777]), (64, .return_, 1, 0, 0, [])])]
theorem C_329_ok : codOk q_329.1.cls q_329.2.1 C_329 := codB_ok (by decide +kernel)
theorem h_329 : mQ 329 q_329 C_329 := ⟨mq_329, by decide +kernel, by decide, C_329_ok⟩
def C_332 : eCode := [(12, [(0, .aload_n 0, 1, 0, 0, []), (1, .iconst 0, 1, 0, 0, []), (2, .putfield 1, 3, 13, 0, [1740]), (5, .iload_n 1, 1, 0, 0, []), (6, .iconst 0, 1, 0, 0, []), (7, .aload_n 0, 1, 0, 0, []), (8, .getfield 340, 3, 13, 37, [1777]), (11, .iconst 1, 1, 0, 0, [])]),
  (30, [(12, .isub, 1, 0, 0, []), (13, .invokestatic 75, 3, 3, 272, [1958, 1959, 143]), (16, .ifCond .eq 12, 3, 0, 0, []), (28, .iconst (-1), 1, 0, 0, []), (29, .ireturn, 1, 0, 0, [])])]
theorem C_332_ok : codOk q_332.1.cls q_332.2.1 C_332 := codB_ok (by decide +kernel)
theorem h_332 : mQ 332 q_332 C_332 := ⟨mq_332, by decide +kernel, by decide, C_332_ok⟩
def C_333 : eCode := [(12, [(0, .aload_n 0, 1, 0, 0, []), (1, .iconst 0, 1, 0, 0, []), (2, .putfield 1, 3, 13, 0, [1740]), (5, .aload_n 0, 1, 0, 0, []), (6, .invokevirtual 89, 3, 13000, 260, [1912, 1914, 55, 143]), (9, .istore_n 1, 1, 0, 0, []), (10, .iload_n 1, 1, 0, 0, []), (11, .iconst 2, 1, 0, 0, [])]),
  (25, [(12, .irem, 1, 0, 0, []), (13, .ifCond .ne 15, 3, 0, 0, []), (16, .iload_n 1, 1, 0, 0, []), (17, .iconst 2, 1, 0, 0, []), (18, .idiv, 1, 0, 0, []), (19, .iconst 1, 1, 0, 0, []), (20, .bipush 8, 2, 0, 0, []), (22, .invokestatic 75, 3, 3, 272, [1958, 1959, 143])]),
  (30, [(25, .ifCond .ne 5, 3, 0, 0, []), (28, .iconst (-1), 1, 0, 0, []), (29, .ireturn, 1, 0, 0, [])])]
theorem C_333_ok : codOk q_333.1.cls q_333.2.1 C_333 := codB_ok (by decide +kernel)
theorem h_333 : mQ 333 q_333 C_333 := ⟨mq_333, by decide +kernel, by decide, C_333_ok⟩
def C_336 : eCode := [(10, [(0, .aload_n 0, 1, 0, 0, []), (1, .iconst 0, 1, 0, 0, []), (2, .putfield 1, 3, 13, 0, [1740]), (5, .aload_n 0, 1, 0, 0, []), (6, .getfield 151, 3, 13, 38, [1778]), (9, .ireturn, 1, 0, 0, [])])]
theorem C_336_ok : codOk q_336.1.cls q_336.2.1 C_336 := codB_ok (by decide +kernel)
theorem h_336 : mQ 336 q_336 C_336 := ⟨mq_336, by decide +kernel, by decide, C_336_ok⟩
def C_337 : eCode := [(10, [(0, .aload_n 0, 1, 0, 0, []), (1, .iconst 0, 1, 0, 0, []), (2, .putfield 1, 3, 13, 0, [1740]), (5, .aload_n 0, 1, 0, 0, []), (6, .getfield 154, 3, 13, 39, [1779]), (9, .ireturn, 1, 0, 0, [])])]
theorem C_337_ok : codOk q_337.1.cls q_337.2.1 C_337 := codB_ok (by decide +kernel)
theorem h_337 : mQ 337 q_337 C_337 := ⟨mq_337, by decide +kernel, by decide, C_337_ok⟩
def C_338 : eCode := [(10, [(0, .aload_n 0, 1, 0, 0, []), (1, .iconst 0, 1, 0, 0, []), (2, .putfield 1, 3, 13, 0, [1740]), (5, .aload_n 0, 1, 0, 0, []), (6, .getfield 157, 3, 13, 40, [1780]), (9, .ireturn, 1, 0, 0, [])])]
theorem C_338_ok : codOk q_338.1.cls q_338.2.1 C_338 := codB_ok (by decide +kernel)
theorem h_338 : mQ 338 q_338 C_338 := ⟨mq_338, by decide +kernel, by decide, C_338_ok⟩
def C_339 : eCode := [(14, [(0, .aload_n 0, 1, 0, 0, []), (1, .iconst 0, 1, 0, 0, []), (2, .putfield 1, 3, 13, 0, [1740]), (5, .aload_n 0, 1, 0, 0, []), (6, .iload_n 1, 1, 0, 0, []), (7, .invokevirtual 257, 3, 13001, 295, [2047, 2049, 80, 143]), (10, .ifCond .ne 5, 3, 0, 0, []), (13, .iconst (-1), 1, 0, 0, [])]),
  (15, [(14, .ireturn, 1, 0, 0, [])])]
theorem C_339_ok : codOk q_339.1.cls q_339.2.1 C_339 := codB_ok (by decide +kernel)
theorem h_339 : mQ 339 q_339 C_339 := ⟨mq_339, by decide +kernel, by decide, C_339_ok⟩
def C_340 : eCode := [(14, [(0, .aload_n 0, 1, 0, 0, []), (1, .iconst 0, 1, 0, 0, []), (2, .putfield 1, 3, 13, 0, [1740]), (5, .aload_n 0, 1, 0, 0, []), (6, .iload_n 1, 1, 0, 0, []), (7, .invokevirtual 257, 3, 13001, 295, [2047, 2049, 80, 143]), (10, .ifCond .ne 5, 3, 0, 0, []), (13, .iconst (-1), 1, 0, 0, [])]),
  (15, [(14, .ireturn, 1, 0, 0, [])])]
theorem C_340_ok : codOk q_340.1.cls q_340.2.1 C_340 := codB_ok (by decide +kernel)
theorem h_340 : mQ 340 q_340 C_340 := ⟨mq_340, by decide +kernel, by decide, C_340_ok⟩
def C_342 : eCode := [(10, [(0, .aload_n 0, 1, 0, 0, []), (1, .iconst 0, 1, 0, 0, []), (2, .putfield 1, 3, 13, 0, [1740]), (5, .iconst 0, 1, 0, 0, []), (6, .istore_n 1, 1, 0, 0, []), (7, .iconst 0, 1, 0, 0, []), (8, .istore_n 2, 1, 0, 0, []), (9, .iload_n 2, 1, 0, 0, [])]),
  (119, [(10, .aload_n 0, 1, 0, 0, []), (11, .getfield 98, 3, 13, 14, [1754]), (14, .iconst 2, 1, 0, 0, []), (15, .iaload, 1, 0, 0, []), (16, .if_icmp .ge 101, 3, 0, 0, []), (117, .iload_n 1, 1, 0, 0, []), (118, .ireturn, 1, 0, 0, [])])]
theorem C_342_ok : codOk q_342.1.cls q_342.2.1 C_342 := codB_ok (by decide +kernel)
theorem h_342 : mQ 342 q_342 C_342 := ⟨mq_342, by decide +kernel, by decide, C_342_ok⟩
def C_343 : eCode := [(15, [(0, .aload_n 0, 1, 0, 0, []), (1, .iconst 0, 1, 0, 0, []), (2, .putfield 1, 3, 13, 0, [1740]), (5, .iload_n 1, 1, 0, 0, []), (6, .iconst 1, 1, 0, 0, []), (7, .bipush 60, 2, 0, 0, []), (9, .invokestatic 75, 3, 3, 272, [1958, 1959, 143]), (12, .ifCond .ne 5, 3, 0, 0, [])]),
  (29, [(15, .iconst (-1), 1, 0, 0, []), (16, .ireturn, 1, 0, 0, []), (17, .aload_n 0, 1, 0, 0, []), (18, .invokevirtual 303, 3, 13000, 316, [2130, 2132, 93, 143]), (21, .aload_n 0, 1, 0, 0, []), (22, .bipush 100, 2, 0, 0, []), (24, .bipush 8, 2, 0, 0, []), (26, .invokevirtual 266, 3, 13002, 299, [2063, 2065, 83, 143])]),
  (41, [(29, .istore_n 2, 1, 0, 0, []), (30, .aload_n 0, 1, 0, 0, []), (31, .iload_n 1, 1, 0, 0, []), (32, .invokevirtual 300, 3, 13001, 310, [2107, 2109, 89, 143]), (35, .pop, 1, 0, 0, []), (36, .aload_n 0, 1, 0, 0, []), (37, .bipush 100, 2, 0, 0, []), (39, .bipush 8, 2, 0, 0, [])]),
  (53, [(41, .invokevirtual 266, 3, 13002, 299, [2063, 2065, 83, 143]), (44, .iload_n 2, 1, 0, 0, []), (45, .isub, 1, 0, 0, []), (46, .istore_n 3, 1, 0, 0, []), (47, .aload_n 0, 1, 0, 0, []), (48, .invokevirtual 306, 3, 13000, 317, [2134, 2136, 94, 143]), (51, .iload_n 3, 1, 0, 0, []), (52, .ireturn, 1, 0, 0, [])])]
theorem C_343_ok : codOk q_343.1.cls q_343.2.1 C_343 := codB_ok (by decide +kernel)
theorem h_343 : mQ 343 q_343 C_343 := ⟨mq_343, by decide +kernel, by decide, C_343_ok⟩
def C_344 : eCode := [(14, [(0, .aload_n 0, 1, 0, 0, []), (1, .iconst 0, 1, 0, 0, []), (2, .putfield 1, 3, 13, 0, [1740]), (5, .aload_n 0, 1, 0, 0, []), (6, .iload_n 1, 1, 0, 0, []), (7, .invokevirtual 257, 3, 13001, 295, [2047, 2049, 80, 143]), (10, .ifCond .ne 5, 3, 0, 0, []), (13, .iconst (-1), 1, 0, 0, [])]),
  (15, [(14, .ireturn, 1, 0, 0, [])])]
theorem C_344_ok : codOk q_344.1.cls q_344.2.1 C_344 := codB_ok (by decide +kernel)
theorem h_344 : mQ 344 q_344 C_344 := ⟨mq_344, by decide +kernel, by decide, C_344_ok⟩
def C_349 : eCode := [(12, [(0, .aload_n 0, 1, 0, 0, []), (1, .iconst 0, 1, 0, 0, []), (2, .putfield 1, 3, 13, 0, [1740]), (5, .iload_n 1, 1, 0, 0, []), (6, .iconst 0, 1, 0, 0, []), (7, .aload_n 0, 1, 0, 0, []), (8, .getfield 359, 3, 13, 43, [1783]), (11, .iconst 1, 1, 0, 0, [])]),
  (30, [(12, .isub, 1, 0, 0, []), (13, .invokestatic 75, 3, 3, 272, [1958, 1959, 143]), (16, .ifCond .eq 12, 3, 0, 0, []), (28, .iconst (-1), 1, 0, 0, []), (29, .ireturn, 1, 0, 0, [])])]
theorem C_349_ok : codOk q_349.1.cls q_349.2.1 C_349 := codB_ok (by decide +kernel)
theorem h_349 : mQ 349 q_349 C_349 := ⟨mq_349, by decide +kernel, by decide, C_349_ok⟩
def C_350 : eCode := [(15, [(0, .aload_n 0, 1, 0, 0, []), (1, .iconst 0, 1, 0, 0, []), (2, .putfield 1, 3, 13, 0, [1740]), (5, .iload_n 1, 1, 0, 0, []), (6, .iconst 1, 1, 0, 0, []), (7, .bipush 60, 2, 0, 0, []), (9, .invokestatic 75, 3, 3, 272, [1958, 1959, 143]), (12, .ifCond .ne 5, 3, 0, 0, [])]),
  (32, [(15, .iconst (-1), 1, 0, 0, []), (16, .ireturn, 1, 0, 0, []), (17, .aload_n 0, 1, 0, 0, []), (18, .getfield 98, 3, 13, 14, [1754]), (21, .bipush 72, 2, 0, 0, []), (23, .iaload, 1, 0, 0, []), (24, .sipush 400, 3, 0, 0, []), (27, .if_icmp .ne 5, 3, 0, 0, [])]),
  (43, [(32, .aload_n 0, 1, 0, 0, []), (33, .invokevirtual 277, 3, 13000, 303, [2079, 2081, 86, 143]), (36, .aload_n 0, 1, 0, 0, []), (37, .iload_n 1, 1, 0, 0, []), (38, .iload_n 2, 1, 0, 0, []), (39, .invokevirtual 385, 3, 13002, 351, [2270, 2272, 108, 143]), (42, .ireturn, 1, 0, 0, [])])]
theorem C_350_ok : codOk q_350.1.cls q_350.2.1 C_350 := codB_ok (by decide +kernel)
theorem h_350 : mQ 350 q_350 C_350 := ⟨mq_350, by decide +kernel, by decide, C_350_ok⟩
def C_351 : eCode := [(15, [(0, .aload_n 0, 1, 0, 0, []), (1, .iload_n 2, 1, 0, 0, []), (2, .putfield 375, 3, 13, 44, [1784]), (5, .iload_n 1, 1, 0, 0, []), (6, .sipush 400, 3, 0, 0, []), (9, .aload_n 0, 1, 0, 0, []), (10, .getfield 98, 3, 13, 14, [1754]), (13, .bipush 72, 2, 0, 0, [])]),
  (27, [(15, .iaload, 1, 0, 0, []), (16, .isub, 1, 0, 0, []), (17, .invokestatic 288, 3, 2, 311, [2111, 2112, 143]), (20, .istore_n 3, 1, 0, 0, []), (21, .iconst 0, 1, 0, 0, []), (22, .istore 4, 2, 0, 0, []), (24, .iload 4, 2, 0, 0, []), (26, .iload_n 3, 1, 0, 0, [])]),
  (41, [(27, .if_icmp .ge 76, 3, 0, 0, []), (30, .iconst 0, 1, 0, 0, []), (31, .istore 5, 2, 0, 0, []), (33, .iload 5, 2, 0, 0, []), (35, .aload_n 0, 1, 0, 0, []), (36, .getfield 98, 3, 13, 14, [1754]), (39, .iconst 2, 1, 0, 0, []), (40, .iaload, 1, 0, 0, [])]),
  (69, [(41, .if_icmp .ge 15, 3, 0, 0, []), (56, .aload_n 0, 1, 0, 0, []), (57, .bipush 12, 2, 0, 0, []), (59, .invokevirtual 379, 3, 13001, 353, [2278, 2280, 110, 143]), (62, .aload_n 0, 1, 0, 0, []), (63, .getfield 98, 3, 13, 14, [1754]), (66, .bipush 6, 2, 0, 0, []), (68, .iaload, 1, 0, 0, [])]),
  (105, [(69, .if_icmp .ge 24, 3, 0, 0, []), (93, .aload_n 0, 1, 0, 0, []), (94, .invokevirtual 297, 3, 13000, 312, [2114, 2116, 90, 143]), (97, .iinc 4 1, 3, 0, 0, []), (100, .goto (-76), 3, 0, 0, []), (103, .iload_n 3, 1, 0, 0, []), (104, .ireturn, 1, 0, 0, [])])]
theorem C_351_ok : codOk q_351.1.cls q_351.2.1 C_351 := codB_ok (by decide +kernel)
theorem h_351 : mQ 351 q_351 C_351 := ⟨mq_351, by decide +kernel, by decide, C_351_ok⟩
def C_353 : eCode := [(16, [(0, .aload_n 0, 1, 0, 0, []), (1, .aload_n 0, 1, 0, 0, []), (2, .getfield 375, 3, 13, 44, [1784]), (5, .ldc_w 378, 3, 1103515245, 0, [2282]), (8, .imul, 1, 0, 0, []), (9, .sipush 12345, 3, 0, 0, []), (12, .iadd, 1, 0, 0, []), (13, .putfield 375, 3, 13, 44, [1784])]),
  (26, [(16, .aload_n 0, 1, 0, 0, []), (17, .getfield 375, 3, 13, 44, [1784]), (20, .bipush 8, 2, 0, 0, []), (22, .iushr, 1, 0, 0, []), (23, .iload_n 1, 1, 0, 0, []), (24, .irem, 1, 0, 0, []), (25, .ireturn, 1, 0, 0, [])])]
theorem C_353_ok : codOk q_353.1.cls q_353.2.1 C_353 := codB_ok (by decide +kernel)
theorem h_353 : mQ 353 q_353 C_353 := ⟨mq_353, by decide +kernel, by decide, C_353_ok⟩
def C_354 : eCode := [(24, [(0, .aload_n 0, 1, 0, 0, []), (1, .iconst 0, 1, 0, 0, []), (2, .putfield 1, 3, 13, 0, [1740]), (5, .aload_n 0, 1, 0, 0, []), (6, .iload_n 1, 1, 0, 0, []), (7, .invokevirtual 248, 3, 13001, 290, [2027, 2029, 76, 143]), (10, .ifCond .eq 13, 3, 0, 0, []), (23, .iconst (-1), 1, 0, 0, [])]),
  (25, [(24, .ireturn, 1, 0, 0, [])])]
theorem C_354_ok : codOk q_354.1.cls q_354.2.1 C_354 := codB_ok (by decide +kernel)
theorem h_354 : mQ 354 q_354 C_354 := ⟨mq_354, by decide +kernel, by decide, C_354_ok⟩
def C_355 : eCode := [(14, [(0, .aload_n 0, 1, 0, 0, []), (1, .iconst 0, 1, 0, 0, []), (2, .putfield 1, 3, 13, 0, [1740]), (5, .iload_n 1, 1, 0, 0, []), (6, .iconst 0, 1, 0, 0, []), (7, .iconst 1, 1, 0, 0, []), (8, .invokestatic 75, 3, 3, 272, [1958, 1959, 143]), (11, .ifCond .ne 7, 3, 777, 0, [])]),
  (30, [(14, .sipush (-1000), 3, 0, 0, []), (17, .ireturn, 1, 0, 0, []), (18, .aload_n 0, 1, 0, 0, []), (19, .sipush 400, 3, 0, 0, []), (22, .invokevirtual 233, 3, 13001, 259, [1908, 1910, 54, 143]), (25, .aload_n 0, 1, 0, 0, []), (26, .iconst 0, 1, 0, 0, []), (27, .putfield 394, 3, 13, 47, [1787])]),
  (72, [(30, .aload_n 0, 1, 0, 0, []), (31, .getfield 30, 3, 13, 7, [1747]), (34, .ifCond .eq 31, 3, 777, 0, []), (65, .aload_n 0, 1, 0, 0, []), (66, .invokevirtual 303, 3, 13000, 316, [2130, 2132, 93, 143]), (69, .iconst 0, 1, 0, 0, []), (70, .istore_n 2, 1, 0, 0, []), (71, .iconst 0, 1, 0, 0, [])]),
  (108, [(72, .istore_n 3, 1, 0, 0, []), (73, .iload_n 2, 1, 0, 0, []), (74, .aload_n 0, 1, 0, 0, []), (75, .getfield 394, 3, 13, 47, [1787]), (78, .if_icmp .ge 25, 3, 0, 0, []), (103, .aload_n 0, 1, 0, 0, []), (104, .getfield 169, 3, 13, 46, [1786]), (107, .iconst 0, 1, 0, 0, [])]),
  (118, [(108, .iload_n 3, 1, 0, 0, []), (109, .iastore, 1, 0, 0, []), (110, .aload_n 0, 1, 0, 0, []), (111, .getfield 169, 3, 13, 46, [1786]), (114, .iconst 1, 1, 0, 0, []), (115, .iload_n 2, 1, 0, 0, []), (116, .iastore, 1, 0, 0, []), (117, .aload_n 0, 1, 0, 0, [])]),
  (131, [(118, .getfield 169, 3, 13, 46, [1786]), (121, .iconst 2, 1, 0, 0, []), (122, .aload_n 0, 1, 0, 0, []), (123, .getfield 98, 3, 13, 14, [1754]), (126, .bipush 72, 2, 0, 0, []), (128, .iaload, 1, 0, 0, []), (129, .iastore, 1, 0, 0, []), (130, .aload_n 0, 1, 0, 0, [])]),
  (144, [(131, .getfield 169, 3, 13, 46, [1786]), (134, .iconst 3, 1, 0, 0, []), (135, .aload_n 0, 1, 0, 0, []), (136, .getfield 98, 3, 13, 14, [1754]), (139, .bipush 73, 2, 0, 0, []), (141, .iaload, 1, 0, 0, []), (142, .iastore, 1, 0, 0, []), (143, .aload_n 0, 1, 0, 0, [])]),
  (162, [(144, .iconst 1, 1, 0, 0, []), (145, .putfield 406, 3, 13, 48, [1788]), (148, .aload_n 0, 1, 0, 0, []), (149, .iload_n 1, 1, 0, 0, []), (150, .iconst 1, 1, 0, 0, []), (151, .if_icmp .ne 11, 3, 777, 0, []), (154, .iload_n 2, 1, 0, 0, []), (155, .ifCond .le 7, 3, 0, 0, [])]),
  (176, [(162, .iconst 0, 1, 0, 0, []), (163, .invokevirtual 410, 3, 13001, 361, [2311, 2313, 116, 143]), (166, .iload_n 3, 1, 0, 0, []), (167, .ifCond .ne 7, 3, 777, 0, []), (170, .iconst (-1), 1, 0, 0, []), (171, .goto 4, 3, 0, 0, []), (175, .ireturn, 1, 0, 0, [])])]
theorem C_355_ok : codOk q_355.1.cls q_355.2.1 C_355 := codB_ok (by decide +kernel)
theorem h_355 : mQ 355 q_355 C_355 := ⟨mq_355, by decide +kernel, by decide, C_355_ok⟩
def C_361 : eCode := [(14, [(0, .iconst 0, 1, 0, 0, []), (1, .istore_n 2, 1, 0, 0, []), (2, .iload_n 2, 1, 0, 0, []), (3, .bipush 36, 2, 0, 0, []), (5, .if_icmp .ge 41, 3, 0, 0, []), (8, .aload_n 0, 1, 0, 0, []), (9, .getfield 98, 3, 13, 14, [1754]), (12, .bipush 72, 2, 0, 0, [])]),
  (25, [(14, .iload_n 2, 1, 0, 0, []), (15, .iadd, 1, 0, 0, []), (16, .iaload, 1, 0, 0, []), (17, .istore_n 3, 1, 0, 0, []), (18, .aload_n 0, 1, 0, 0, []), (19, .getfield 98, 3, 13, 14, [1754]), (22, .bipush 72, 2, 0, 0, []), (24, .iload_n 2, 1, 0, 0, [])]),
  (37, [(25, .iadd, 1, 0, 0, []), (26, .aload_n 0, 1, 0, 0, []), (27, .getfield 110, 3, 13, 18, [1758]), (30, .iload_n 2, 1, 0, 0, []), (31, .iaload, 1, 0, 0, []), (32, .iastore, 1, 0, 0, []), (33, .aload_n 0, 1, 0, 0, []), (34, .getfield 110, 3, 13, 18, [1758])]),
  (51, [(37, .iload_n 2, 1, 0, 0, []), (38, .iload_n 3, 1, 0, 0, []), (39, .iastore, 1, 0, 0, []), (40, .iinc 2 1, 3, 0, 0, []), (43, .goto (-41), 3, 0, 0, []), (46, .iload_n 1, 1, 0, 0, []), (47, .ifCond .ne 4, 3, 0, 0, []), (50, .return_, 1, 0, 0, [])])]
theorem C_361_ok : codOk q_361.1.cls q_361.2.1 C_361 := codB_ok (by decide +kernel)
theorem h_361 : mQ 361 q_361 C_361 := ⟨mq_361, by decide +kernel, by decide, C_361_ok⟩
def C_362 : eCode := [(32, [(0, .aload_n 0, 1, 0, 0, []), (1, .iconst 0, 1, 0, 0, []), (2, .putfield 1, 3, 13, 0, [1740]), (5, .aload_n 0, 1, 0, 0, []), (6, .getfield 406, 3, 13, 48, [1788]), (9, .ifCond .eq 21, 3, 0, 0, []), (30, .iconst (-1), 1, 0, 0, []), (31, .ireturn, 1, 0, 0, [])])]
theorem C_362_ok : codOk q_362.1.cls q_362.2.1 C_362 := codB_ok (by decide +kernel)
theorem h_362 : mQ 362 q_362 C_362 := ⟨mq_362, by decide +kernel, by decide, C_362_ok⟩
def C_363 : eCode := [(14, [(0, .aload_n 0, 1, 0, 0, []), (1, .sipush 200, 3, 0, 0, []), (4, .invokevirtual 233, 3, 13001, 259, [1908, 1910, 54, 143]), (7, .aload_n 0, 1, 0, 0, []), (8, .iconst 0, 1, 0, 0, []), (9, .putfield 414, 3, 13, 50, [1790]), (12, .aload_n 0, 1, 0, 0, []), (13, .iconst 0, 1, 0, 0, [])]),
  (30, [(14, .putfield 430, 3, 13, 51, [1791]), (17, .aload_n 0, 1, 0, 0, []), (18, .iconst 0, 1, 0, 0, []), (19, .putfield 433, 3, 13, 52, [1792]), (22, .aload_n 0, 1, 0, 0, []), (23, .invokevirtual 448, 3, 13000, 364, [2323, 2325, 117, 143]), (26, .ifCond .ne 10, 3, 0, 0, []), (29, .iconst (-1), 1, 0, 0, [])]),
  (36, [(30, .aload_n 0, 1, 0, 0, []), (31, .getfield 69, 3, 13, 11, [1751]), (34, .isub, 1, 0, 0, []), (35, .ireturn, 1, 0, 0, [])])]
theorem C_363_ok : codOk q_363.1.cls q_363.2.1 C_363 := codB_ok (by decide +kernel)
theorem h_363 : mQ 363 q_363 C_363 := ⟨mq_363, by decide +kernel, by decide, C_363_ok⟩
def C_364 : eCode := [(9, [(0, .aload_n 0, 1, 0, 0, []), (1, .invokevirtual 417, 3, 13000, 365, [2327, 2329, 118, 143]), (4, .ifCond .ne 5, 3, 0, 0, []), (7, .iconst 0, 1, 0, 0, []), (8, .ireturn, 1, 0, 0, [])])]
theorem C_364_ok : codOk q_364.1.cls q_364.2.1 C_364 := codB_ok (by decide +kernel)
theorem h_364 : mQ 364 q_364 C_364 := ⟨mq_364, by decide +kernel, by decide, C_364_ok⟩
def C_365 : eCode := [(9, [(0, .aload_n 0, 1, 0, 0, []), (1, .invokevirtual 427, 3, 13000, 366, [2331, 2333, 119, 143]), (4, .ifCond .ne 5, 3, 0, 0, []), (7, .iconst 0, 1, 0, 0, []), (8, .ireturn, 1, 0, 0, [])])]
theorem C_365_ok : codOk q_365.1.cls q_365.2.1 C_365 := codB_ok (by decide +kernel)
theorem h_365 : mQ 365 q_365 C_365 := ⟨mq_365, by decide +kernel, by decide, C_365_ok⟩
def C_366 : eCode := [(13, [(0, .aload_n 0, 1, 0, 0, []), (1, .bipush 40, 2, 0, 0, []), (3, .invokevirtual 86, 3, 13001, 287, [2015, 2017, 75, 143]), (6, .istore_n 1, 1, 0, 0, []), (7, .bipush 15, 2, 0, 0, []), (9, .istore_n 2, 1, 0, 0, []), (10, .iload_n 2, 1, 0, 0, []), (11, .bipush 23, 2, 0, 0, [])]),
  (31, [(13, .if_icmp .gt 17, 3, 0, 0, []), (16, .aload_n 0, 1, 0, 0, []), (17, .iload_n 2, 1, 0, 0, []), (18, .invokevirtual 212, 3, 13001, 266, [1936, 1938, 59, 143]), (21, .ifCond .ne 9, 3, 0, 0, []), (24, .iinc 2 1, 3, 0, 0, []), (27, .goto (-17), 3, 0, 0, []), (30, .iload_n 1, 1, 0, 0, [])]),
  (46, [(31, .ifCond .ne 15, 3, 0, 0, []), (34, .iload_n 2, 1, 0, 0, []), (35, .bipush 23, 2, 0, 0, []), (37, .if_icmp .le 9, 3, 0, 0, []), (40, .aload_n 0, 1, 0, 0, []), (41, .iconst 1, 1, 0, 0, []), (42, .invokevirtual 72, 3, 13001, 270, [1950, 1952, 61, 143]), (45, .ireturn, 1, 0, 0, [])])]
theorem C_366_ok : codOk q_366.1.cls q_366.2.1 C_366 := codB_ok (by decide +kernel)
theorem h_366 : mQ 366 q_366 C_366 := ⟨mq_366, by decide +kernel, by decide, C_366_ok⟩
def C_372 : eCode := [(15, [(0, .aload_n 0, 1, 0, 0, []), (1, .iconst 0, 1, 0, 0, []), (2, .putfield 1, 3, 13, 0, [1740]), (5, .aload_n 0, 1, 0, 0, []), (6, .getfield 98, 3, 13, 14, [1754]), (9, .bipush 108, 2, 0, 0, []), (11, .iaload, 1, 0, 0, []), (12, .ifCond .ne 5, 3, 0, 0, [])]),
  (17, [(15, .iconst (-1), 1, 0, 0, []), (16, .ireturn, 1, 0, 0, [])])]
theorem C_372_ok : codOk q_372.1.cls q_372.2.1 C_372 := codB_ok (by decide +kernel)
theorem h_372 : mQ 372 q_372 C_372 := ⟨mq_372, by decide +kernel, by decide, C_372_ok⟩
def C_374 : eCode := [(14, [(0, .aload_n 0, 1, 0, 0, []), (1, .iconst 0, 1, 0, 0, []), (2, .putfield 1, 3, 13, 0, [1740]), (5, .iload_n 1, 1, 0, 0, []), (6, .iconst 0, 1, 0, 0, []), (7, .iconst 1, 1, 0, 0, []), (8, .invokestatic 75, 3, 3, 272, [1958, 1959, 143]), (11, .ifCond .ne 5, 3, 0, 0, [])]),
  (26, [(14, .iconst 0, 1, 0, 0, []), (15, .ireturn, 1, 0, 0, []), (16, .iconst 0, 1, 0, 0, []), (17, .istore_n 2, 1, 0, 0, []), (18, .iload_n 2, 1, 0, 0, []), (19, .sipush 350, 3, 0, 0, []), (22, .if_icmp .ge 27, 3, 0, 0, []), (25, .aload_n 0, 1, 0, 0, [])]),
  (40, [(26, .getfield 104, 3, 13, 16, [1756]), (29, .sipush 350, 3, 0, 0, []), (32, .iload_n 1, 1, 0, 0, []), (33, .imul, 1, 0, 0, []), (34, .iload_n 2, 1, 0, 0, []), (35, .iadd, 1, 0, 0, []), (36, .aload_n 0, 1, 0, 0, []), (37, .getfield 98, 3, 13, 14, [1754])]),
  (52, [(40, .iload_n 2, 1, 0, 0, []), (41, .iaload, 1, 0, 0, []), (42, .iastore, 1, 0, 0, []), (43, .iinc 2 1, 3, 0, 0, []), (46, .goto (-28), 3, 0, 0, []), (49, .iconst 0, 1, 0, 0, []), (50, .istore_n 2, 1, 0, 0, []), (51, .iload_n 2, 1, 0, 0, [])]),
  (66, [(52, .bipush 19, 2, 0, 0, []), (54, .if_icmp .ge 26, 3, 0, 0, []), (57, .aload_n 0, 1, 0, 0, []), (58, .getfield 120, 3, 13, 21, [1761]), (61, .bipush 19, 2, 0, 0, []), (63, .iload_n 1, 1, 0, 0, []), (64, .imul, 1, 0, 0, []), (65, .iload_n 2, 1, 0, 0, [])]),
  (80, [(66, .iadd, 1, 0, 0, []), (67, .aload_n 0, 1, 0, 0, []), (68, .getfield 113, 3, 13, 19, [1759]), (71, .iload_n 2, 1, 0, 0, []), (72, .laload, 1, 0, 0, []), (73, .lastore, 1, 0, 0, []), (74, .iinc 2 1, 3, 0, 0, []), (77, .goto (-26), 3, 0, 0, [])]),
  (89, [(80, .aload_n 0, 1, 0, 0, []), (81, .getfield 123, 3, 13, 22, [1762]), (84, .iload_n 1, 1, 0, 0, []), (85, .iconst 1, 1, 0, 0, []), (86, .bastore, 1, 0, 0, []), (87, .iconst 1, 1, 0, 0, []), (88, .ireturn, 1, 0, 0, [])])]
theorem C_374_ok : codOk q_374.1.cls q_374.2.1 C_374 := codB_ok (by decide +kernel)
theorem h_374 : mQ 374 q_374 C_374 := ⟨mq_374, by decide +kernel, by decide, C_374_ok⟩
def C_375 : eCode := [(14, [(0, .aload_n 0, 1, 0, 0, []), (1, .iconst 0, 1, 0, 0, []), (2, .putfield 1, 3, 13, 0, [1740]), (5, .iload_n 1, 1, 0, 0, []), (6, .iconst 0, 1, 0, 0, []), (7, .iconst 1, 1, 0, 0, []), (8, .invokestatic 75, 3, 3, 272, [1958, 1959, 143]), (11, .ifCond .eq 12, 3, 0, 0, [])]),
  (25, [(14, .aload_n 0, 1, 0, 0, []), (15, .getfield 123, 3, 13, 22, [1762]), (18, .iload_n 1, 1, 0, 0, []), (19, .baload, 1, 0, 0, []), (20, .ifCond .ne 5, 3, 0, 0, []), (23, .iconst 0, 1, 0, 0, []), (24, .ireturn, 1, 0, 0, [])])]
theorem C_375_ok : codOk q_375.1.cls q_375.2.1 C_375 := codB_ok (by decide +kernel)
theorem h_375 : mQ 375 q_375 C_375 := ⟨mq_375, by decide +kernel, by decide, C_375_ok⟩
