/-! rows of code -/
def C_376 : eCode := [(57, [(0, .aload_n 0, 1, 0, 0, []), (1, .iconst 0, 1, 0, 0, []), (2, .putfield 1, 3, 13, 0, [1740]), (5, .iload_n 1, 1, 0, 0, []), (6, .tableswitch 101 0 7 #[46, 53, 60, 67, 74, 81, 88, 96], 46, 0, 0, []), (52, .aload_n 0, 1, 0, 0, []), (53, .getfield 98, 3, 13, 14, [1754]), (56, .iconst 0, 1, 0, 0, [])]),
  (67, [(57, .iaload, 1, 0, 0, []), (58, .ireturn, 1, 0, 0, []), (59, .aload_n 0, 1, 0, 0, []), (60, .getfield 98, 3, 13, 14, [1754]), (63, .iconst 1, 1, 0, 0, []), (64, .iaload, 1, 0, 0, []), (65, .ireturn, 1, 0, 0, []), (66, .aload_n 0, 1, 0, 0, [])]),
  (79, [(67, .getfield 98, 3, 13, 14, [1754]), (70, .iconst 2, 1, 0, 0, []), (71, .iaload, 1, 0, 0, []), (72, .ireturn, 1, 0, 0, []), (73, .aload_n 0, 1, 0, 0, []), (74, .getfield 98, 3, 13, 14, [1754]), (77, .iconst 3, 1, 0, 0, []), (78, .iaload, 1, 0, 0, [])]),
  (91, [(79, .ireturn, 1, 0, 0, []), (80, .aload_n 0, 1, 0, 0, []), (81, .getfield 98, 3, 13, 14, [1754]), (84, .iconst 4, 1, 0, 0, []), (85, .iaload, 1, 0, 0, []), (86, .ireturn, 1, 0, 0, []), (87, .aload_n 0, 1, 0, 0, []), (88, .getfield 98, 3, 13, 14, [1754])]),
  (102, [(91, .iconst 5, 1, 0, 0, []), (92, .iaload, 1, 0, 0, []), (93, .ireturn, 1, 0, 0, []), (94, .aload_n 0, 1, 0, 0, []), (95, .getfield 98, 3, 13, 14, [1754]), (98, .bipush 6, 2, 0, 0, []), (100, .iaload, 1, 0, 0, []), (101, .ireturn, 1, 0, 0, [])]),
  (109, [(102, .aload_n 0, 1, 0, 0, []), (103, .getfield 11, 3, 13, 2, [1742]), (106, .ireturn, 1, 0, 0, []), (107, .iconst (-1), 1, 0, 0, []), (108, .ireturn, 1, 0, 0, [])])]
theorem C_376_ok : codOk q_376.1.cls q_376.2.1 C_376 := codB_ok (by decide +kernel)
theorem h_376 : mQ 376 q_376 C_376 := ⟨mq_376, by decide +kernel, by decide, C_376_ok⟩
def CW_guest : eCode := [(17, [(0, .aload_n 3, 1, 0, 0, []), (1, .iconst 0, 1, 0, 0, []), (2, .aload_n 0, 1, 0, 0, []), (3, .iload_n 1, 1, 0, 0, []), (4, .iload_n 2, 1, 0, 0, []), (13, .astore 4, 2, 0, 0, []), (15, .iconst 1, 1, 0, 0, []), (16, .ireturn, 1, 0, 0, [])])]
theorem CW_guest_ok : codOk "DrownedRoomsLaw" method_4_code CW_guest := codB_ok (by decide +kernel)
def CW_room : eCode := [(17, [(0, .aload_n 3, 1, 0, 0, []), (1, .iconst 0, 1, 0, 0, []), (2, .aload_n 0, 1, 0, 0, []), (3, .iload_n 1, 1, 0, 0, []), (4, .iload_n 2, 1, 0, 0, []), (13, .astore 4, 2, 0, 0, []), (15, .iconst 1, 1, 0, 0, []), (16, .ireturn, 1, 0, 0, [])])]
theorem CW_room_ok : codOk "DrownedRoomsLaw" method_3_code CW_room := codB_ok (by decide +kernel)
