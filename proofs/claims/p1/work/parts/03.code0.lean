/-- PeopleStoreLaw.law([I)Z -/
def mt_q0 : mt_Q := (⟨"PeopleStoreLaw", "law", "([I)Z"⟩, code, 4, (some .boolean), 1, 0, [[(0, .new 7), (3, .dup), (4, .invokespecial 9), (7, .astore_n 1), (8, .new 10), (11, .dup), (12, .invokespecial 12), (15, .astore_n 2)],
  [(16, .iconst 0), (17, .istore_n 3), (18, .iload_n 3), (19, .aload_n 0), (20, .arraylength), (21, .iconst 5), (22, .isub), (23, .if_icmp .gt 404), (26, .aload_n 0), (27, .iload_n 3), (28, .iaload), (29, .bipush 15), (31, .iand)],
  [(32, .tableswitch 389 0 10 #[60, 93, 106, 139, 172, 205, 274, 297, 310, 333, 356])],
  [],
  [],
  [(92, .aload_n 1), (93, .aload_n 0), (94, .iload_n 3), (95, .iconst 1)],
  [(96, .iadd), (97, .iaload), (98, .aload_n 0), (99, .iload_n 3), (100, .iconst 2), (101, .iadd), (102, .iaload), (103, .invokevirtual 13), (106, .aload_n 2), (107, .aload_n 0), (108, .iload_n 3), (109, .iconst 1), (110, .iadd), (111, .iaload)],
  [(112, .aload_n 0), (113, .iload_n 3), (114, .iconst 2), (115, .iadd), (116, .iaload), (117, .invokevirtual 17), (120, .if_icmp .eq 301), (123, .iconst 0), (124, .ireturn), (125, .aload_n 1), (126, .invokevirtual 18)],
  [(129, .aload_n 2), (130, .invokevirtual 22), (133, .if_icmp .eq 288), (136, .iconst 0), (137, .ireturn), (138, .aload_n 1), (139, .aload_n 0), (140, .iload_n 3), (141, .iconst 1), (142, .iadd), (143, .iaload)],
  [(144, .aload_n 0), (145, .iload_n 3), (146, .iconst 2), (147, .iadd), (148, .iaload), (149, .invokevirtual 23), (152, .aload_n 2), (153, .aload_n 0), (154, .iload_n 3), (155, .iconst 1), (156, .iadd), (157, .iaload), (158, .aload_n 0), (159, .iload_n 3)],
  [(160, .iconst 2), (161, .iadd), (162, .iaload), (163, .invokevirtual 27), (166, .if_icmp .eq 255), (169, .iconst 0), (170, .ireturn), (171, .aload_n 1), (172, .aload_n 0), (173, .iload_n 3), (174, .iconst 1), (175, .iadd)],
  [(176, .iaload), (177, .aload_n 0), (178, .iload_n 3), (179, .iconst 2), (180, .iadd), (181, .iaload), (182, .invokevirtual 28), (185, .aload_n 2), (186, .aload_n 0), (187, .iload_n 3), (188, .iconst 1), (189, .iadd), (190, .iaload), (191, .aload_n 0)],
  [(192, .iload_n 3), (193, .iconst 2), (194, .iadd), (195, .iaload), (196, .invokevirtual 31), (199, .if_icmp .eq 222), (202, .iconst 0), (203, .ireturn), (204, .aload_n 1), (205, .aload_n 0), (206, .iload_n 3), (207, .iconst 1)],
  [(208, .iadd), (209, .iaload), (210, .aload_n 0), (211, .iload_n 3), (212, .iconst 2), (213, .iadd), (214, .iaload), (215, .invokevirtual 32), (218, .aload_n 2), (219, .aload_n 0), (220, .iload_n 3), (221, .iconst 1), (222, .iadd), (223, .iaload)],
  [(224, .aload_n 0), (225, .iload_n 3), (226, .iconst 2), (227, .iadd), (228, .iaload), (229, .invokevirtual 35), (232, .if_icmp .eq 189), (235, .iconst 0), (236, .ireturn), (237, .aload_n 1), (238, .aload_n 0), (239, .iload_n 3)],
  [(240, .iconst 1), (241, .iadd), (242, .iaload), (243, .aload_n 0), (244, .iload_n 3), (245, .iconst 2), (246, .iadd), (247, .iaload), (248, .ifCond .eq 7), (251, .iconst 1), (252, .goto 4), (255, .iconst 0)],
  [(256, .aload_n 0), (257, .iload_n 3), (258, .iconst 3), (259, .iadd), (260, .iaload), (261, .aload_n 0), (262, .iload_n 3), (263, .iconst 4), (264, .iadd), (265, .iaload), (266, .invokevirtual 36), (269, .aload_n 2), (270, .aload_n 0), (271, .iload_n 3)],
  [(272, .iconst 1), (273, .iadd), (274, .iaload), (275, .aload_n 0), (276, .iload_n 3), (277, .iconst 2), (278, .iadd), (279, .iaload), (280, .ifCond .eq 7), (283, .iconst 1), (284, .goto 4), (287, .iconst 0)],
  [(288, .aload_n 0), (289, .iload_n 3), (290, .iconst 3), (291, .iadd), (292, .iaload), (293, .aload_n 0), (294, .iload_n 3), (295, .iconst 4), (296, .iadd), (297, .iaload), (298, .invokevirtual 40), (301, .if_icmp .eq 120)],
  [(304, .iconst 0), (305, .ireturn), (306, .aload_n 1), (307, .aload_n 0), (308, .iload_n 3), (309, .iconst 1), (310, .iadd), (311, .iaload), (312, .invokevirtual 41), (315, .aload_n 2), (316, .aload_n 0), (317, .iload_n 3), (318, .iconst 1), (319, .iadd)],
  [(320, .iaload), (321, .invokevirtual 45), (324, .if_icmp .eq 97), (327, .iconst 0), (328, .ireturn), (329, .aload_n 1), (330, .invokevirtual 46), (333, .aload_n 2), (334, .invokevirtual 49)],
  [(337, .if_icmp .eq 84), (340, .iconst 0), (341, .ireturn), (342, .aload_n 1), (343, .aload_n 0), (344, .iload_n 3), (345, .iconst 1), (346, .iadd), (347, .iaload), (348, .invokevirtual 50), (351, .aload_n 2)],
  [(352, .aload_n 0), (353, .iload_n 3), (354, .iconst 1), (355, .iadd), (356, .iaload), (357, .invokevirtual 53), (360, .if_icmp .eq 61), (363, .iconst 0), (364, .ireturn), (365, .aload_n 1), (366, .aload_n 0), (367, .iload_n 3)],
  [(368, .iconst 1), (369, .iadd), (370, .iaload), (371, .invokevirtual 54), (374, .aload_n 2), (375, .aload_n 0), (376, .iload_n 3), (377, .iconst 1), (378, .iadd), (379, .iaload), (380, .invokevirtual 57), (383, .if_icmp .eq 38)],
  [(386, .iconst 0), (387, .ireturn), (388, .aload_n 1), (389, .aload_n 0), (390, .iload_n 3), (391, .iconst 1), (392, .iadd), (393, .iaload), (394, .aload_n 0), (395, .iload_n 3), (396, .iconst 2), (397, .iadd), (398, .iaload), (399, .invokevirtual 58)],
  [(402, .aload_n 2), (403, .aload_n 0), (404, .iload_n 3), (405, .iconst 1), (406, .iadd), (407, .iaload), (408, .aload_n 0), (409, .iload_n 3), (410, .iconst 2), (411, .iadd), (412, .iaload), (413, .invokevirtual 61)],
  [(416, .if_icmp .eq 5), (419, .iconst 0), (420, .ireturn), (421, .iinc 3 5), (424, .goto (-406)), (427, .iconst 1), (428, .ireturn)]])
theorem mt_g0 : mx_goodB mt_q0 = true := by decide +kernel
/-- PeopleStore.<init>()V -/
def mt_q1 : mt_Q := (⟨"PeopleStore", "<init>", "()V"⟩, prog_1_method_1_code, 1, none, 1, 1, [[(0, .aload_n 0), (1, .invokespecial 1), (4, .aload_n 0), (5, .new 7), (8, .dup), (9, .invokespecial 9), (12, .putfield 10), (15, .aload_n 0)],
  [(16, .new 16), (19, .dup), (20, .invokespecial 18), (23, .putfield 19), (26, .aload_n 0), (27, .new 16), (30, .dup), (31, .invokespecial 18)],
  [(34, .putfield 23), (37, .aload_n 0), (38, .bipush 8), (40, .newarray .int), (42, .putfield 26), (45, .aload_n 0), (46, .new 30)],
  [(49, .dup), (50, .invokespecial 32), (53, .putfield 33), (56, .return_)]])
theorem mt_g1 : mx_goodB mt_q1 = true := by decide +kernel
/-- PeopleStore$Buffer.<init>()V -/
def mt_q2 : mt_Q := (⟨"PeopleStore$Buffer", "<init>", "()V"⟩, prog_3_method_1_code, 1, none, 1, 2, [[(0, .aload_n 0), (1, .invokespecial 1), (4, .aload_n 0), (5, .bipush 120), (7, .newarray .char), (9, .putfield 9), (12, .aload_n 0), (13, .bipush 121), (15, .newarray .int)],
  [(17, .putfield 13), (20, .aload_n 0), (21, .bipush 121), (23, .newarray .int), (25, .putfield 17), (28, .aload_n 0), (29, .bipush 121), (31, .newarray .int)],
  [(33, .putfield 20), (36, .aload_n 0), (37, .new 23), (40, .dup), (41, .invokespecial 25), (44, .putfield 26), (47, .return_)]])
theorem mt_g2 : mx_goodB mt_q2 = true := by decide +kernel
/-- java/lang/StringBuilder.<init>()V -/
def mt_q3 : mt_Q := (⟨"java/lang/StringBuilder", "<init>", "()V"⟩, prog_20_method_1_code, 1, none, 1, 3, [[(0, .aload_n 0), (1, .bipush 16), (3, .invokespecial 1), (6, .return_)]])
theorem mt_g3 : mx_goodB mt_q3 = true := by decide +kernel
/-- java/lang/AbstractStringBuilder.<init>(I)V -/
def mt_q4 : mt_Q := (⟨"java/lang/AbstractStringBuilder", "<init>", "(I)V"⟩, prog_13_method_2_code, 2, none, 2, 4, [[(0, .aload_n 0), (1, .invokespecial 3), (4, .getstatic 18), (7, .ifCond .eq 18), (10, .aload_n 0), (11, .iload_n 1), (12, .newarray .byte), (14, .putfield 15)],
  [(17, .aload_n 0), (18, .iconst 0), (19, .putfield 22), (22, .goto 16), (25, .aload_n 0), (26, .iload_n 1), (27, .invokestatic 26), (30, .putfield 15)],
  [(33, .aload_n 0), (34, .iconst 1), (35, .putfield 22), (38, .return_)]])
theorem mt_g4 : mx_goodB mt_q4 = true := by decide +kernel
/-- java/lang/StringUTF16.newBytesFor(I)[B -/
def mt_q5 : mt_Q := (⟨"java/lang/StringUTF16", "newBytesFor", "(I)[B"⟩, prog_22_method_2_code, 1, (some (.array .byte)), 1, 5, [[(0, .iload_n 0), (1, .invokestatic 11), (4, .newarray .byte), (6, .areturn)]])
theorem mt_g5 : mx_goodB mt_q5 = true := by decide +kernel
/-- java/lang/StringUTF16.newBytesLength(I)I -/
def mt_q6 : mt_Q := (⟨"java/lang/StringUTF16", "newBytesLength", "(I)I"⟩, prog_22_method_3_code, 1, (some .int), 1, 5, [[(0, .iload_n 0), (1, .ifCond .ge 11), (4, .new 17), (7, .dup), (8, .invokespecial 19), (11, .athrow), (12, .iload_n 0), (13, .ldc 20), (15, .if_icmp .lt 40)],
  [(18, .new 21), (21, .dup), (22, .new 23), (25, .dup), (26, .invokespecial 25), (29, .ldc 26), (31, .invokevirtual 28)],
  [(34, .iload_n 0), (35, .invokevirtual 32), (38, .ldc 35), (40, .invokevirtual 28), (43, .ldc 20), (45, .invokevirtual 32)],
  [(48, .invokevirtual 37), (51, .invokespecial 41), (54, .athrow), (55, .iload_n 0), (56, .iconst 1), (57, .ishl), (58, .ireturn)]])
theorem mt_g6 : mx_goodB mt_q6 = true := by decide +kernel
/-- java/util/ArrayList.<init>()V -/
def mt_q7 : mt_Q := (⟨"java/util/ArrayList", "<init>", "()V"⟩, prog_26_method_2_code, 1, none, 1, 6, [[(0, .aload_n 0), (1, .invokespecial 1), (4, .aload_n 0), (5, .getstatic 39), (8, .putfield 9), (11, .return_)]])
theorem mt_g7 : mx_goodB mt_q7 = true := by decide +kernel
/-- java/util/AbstractList.<init>()V -/
def mt_q8 : mt_Q := (⟨"java/util/AbstractList", "<init>", "()V"⟩, prog_25_method_1_code, 1, none, 1, 7, [[(0, .aload_n 0), (1, .invokespecial 1), (4, .aload_n 0), (5, .iconst 0), (6, .putfield 7), (9, .return_)]])
theorem mt_g8 : mx_goodB mt_q8 = true := by decide +kernel
/-- java/util/AbstractCollection.<init>()V -/
def mt_q9 : mt_Q := (⟨"java/util/AbstractCollection", "<init>", "()V"⟩, prog_24_method_1_code, 1, none, 1, 8, [[(0, .aload_n 0), (1, .invokespecial 1), (4, .return_)]])
theorem mt_g9 : mx_goodB mt_q9 = true := by decide +kernel
/-- PeopleStore.put(II)Z -/
def mt_q10 : mt_Q := (⟨"PeopleStore", "put", "(II)Z"⟩, prog_1_method_2_code, 4, (some .boolean), 3, 1, [[(0, .iload_n 2), (1, .iconst 1), (2, .if_icmp .lt 19), (5, .iload_n 2), (6, .iconst 4), (7, .if_icmp .gt 14), (10, .aload_n 0), (11, .getfield 10), (14, .iload_n 2), (15, .invokevirtual 37)],
  [(18, .ifCond .ne 5), (21, .iconst 0), (22, .ireturn), (23, .iload_n 2), (24, .iconst 1), (25, .isub), (26, .istore_n 3), (27, .iload_n 3), (28, .ifCond .lt 22), (31, .iload_n 1)],
  [(32, .iload_n 3), (33, .invokestatic 41), (36, .invokestatic 45), (39, .ifCond .ne 5), (42, .iconst 0), (43, .ireturn), (44, .iinc 3 (-1)), (47, .goto (-20))],
  [(50, .iload_n 2), (51, .iconst 1), (52, .isub), (53, .istore_n 3), (54, .iload_n 3), (55, .ifCond .lt 21), (58, .aload_n 0), (59, .getfield 10), (62, .iload_n 1), (63, .iload_n 3)],
  [(64, .invokestatic 41), (67, .invokevirtual 49), (70, .iinc 3 (-1)), (73, .goto (-19)), (76, .iconst 1), (77, .ireturn)]])
theorem mt_g10 : mx_goodB mt_q10 = true := by decide +kernel
/-- PeopleStore$Buffer.hasRoomFor(I)Z -/
def mt_q11 : mt_Q := (⟨"PeopleStore$Buffer", "hasRoomFor", "(I)Z"⟩, prog_3_method_3_code, 2, (some .boolean), 2, 2, [[(0, .iload_n 1), (1, .bipush 120), (3, .aload_n 0), (4, .getfield 30), (7, .isub), (8, .if_icmp .gt 7), (11, .iconst 1), (12, .goto 4), (15, .iconst 0)],
  [(16, .ireturn)]])
theorem mt_g11 : mx_goodB mt_q11 = true := by decide +kernel
/-- PeopleStore.byteAt(II)C -/
def mt_q12 : mt_Q := (⟨"PeopleStore", "byteAt", "(II)C"⟩, prog_1_method_13_code, 2, (some .char), 2, 1, [[(0, .iload_n 0), (1, .bipush 8), (3, .iload_n 1), (4, .imul), (5, .iushr), (6, .sipush 255), (9, .iand), (10, .i2c), (11, .ireturn)]])
theorem mt_g12 : mx_goodB mt_q12 = true := by decide +kernel
/-- PeopleStore$Buffer.isAllowed(C)Z -/
def mt_q13 : mt_Q := (⟨"PeopleStore$Buffer", "isAllowed", "(C)Z"⟩, prog_3_method_2_code, 1, (some .boolean), 1, 2, [[(0, .iload_n 0), (1, .bipush 10), (3, .if_icmp .eq 15), (6, .iload_n 0), (7, .bipush 32), (9, .if_icmp .lt 13), (12, .iload_n 0), (13, .bipush 126), (15, .if_icmp .gt 7)],
  [(18, .iconst 1), (19, .goto 4), (22, .iconst 0), (23, .ireturn)]])
theorem mt_g13 : mx_goodB mt_q13 = true := by decide +kernel
/-- PeopleStore$Buffer.append(C)V -/
def mt_q14 : mt_Q := (⟨"PeopleStore$Buffer", "append", "(C)V"⟩, prog_3_method_4_code, 2, none, 2, 2, [[(0, .aload_n 0), (1, .getfield 30), (4, .bipush 120), (6, .if_icmp .ge 23), (9, .aload_n 0), (10, .getfield 9), (13, .aload_n 0), (14, .getfield 30)],
  [(17, .iload_n 1), (18, .castore), (19, .aload_n 0), (20, .dup), (21, .getfield 30), (24, .iconst 1), (25, .iadd), (26, .putfield 30), (29, .return_)]])
theorem mt_g14 : mx_goodB mt_q14 = true := by decide +kernel
/-- PeopleStore.create()I -/
def mt_q15 : mt_Q := (⟨"PeopleStore", "create", "()I"⟩, prog_1_method_3_code, 3, (some .int), 1, 1, [[(0, .aload_n 0), (1, .invokevirtual 53), (4, .astore_n 1), (5, .aload_n 1), (6, .ifnonnull 7), (9, .sipush (-400)), (12, .ireturn), (13, .aload_n 1), (14, .aload_n 0), (15, .getfield 57)],
  [(18, .iconst 1), (19, .iadd), (20, .invokestatic 61), (23, .astore_n 2), (24, .aload_n 2), (25, .ifnonnull 7), (28, .sipush (-401)), (31, .ireturn)],
  [(32, .aload_n 0), (33, .aload_n 2), (34, .invokevirtual 67), (37, .ifCond .eq 7), (40, .sipush (-409)), (43, .ireturn), (44, .aload_n 0), (45, .getfield 19)],
  [(48, .invokevirtual 71), (51, .bipush 8), (53, .if_icmp .lt 7), (56, .sipush (-413)), (59, .ireturn), (60, .aload_n 0), (61, .getfield 19)],
  [(64, .aload_n 2), (65, .invokevirtual 75), (68, .pop), (69, .aload_n 0), (70, .dup), (71, .getfield 57), (74, .iconst 1), (75, .iadd), (76, .putfield 57), (79, .aload_n 0)],
  [(80, .getfield 57), (83, .ireturn)]])
theorem mt_g15 : mx_goodB mt_q15 = true := by decide +kernel
def mt_qk0 : List mt_Q := [mt_q0, mt_q1, mt_q2, mt_q3, mt_q4, mt_q5, mt_q6, mt_q7, mt_q8, mt_q9, mt_q10, mt_q11, mt_q12, mt_q13, mt_q14, mt_q15]
theorem mt_gk0 : ∀ q ∈ mt_qk0, mx_goodB q = true := List.forall_mem_cons.mpr ⟨mt_g0, List.forall_mem_cons.mpr ⟨mt_g1, List.forall_mem_cons.mpr ⟨mt_g2, List.forall_mem_cons.mpr ⟨mt_g3, List.forall_mem_cons.mpr ⟨mt_g4, List.forall_mem_cons.mpr ⟨mt_g5, List.forall_mem_cons.mpr ⟨mt_g6, List.forall_mem_cons.mpr ⟨mt_g7, List.forall_mem_cons.mpr ⟨mt_g8, List.forall_mem_cons.mpr ⟨mt_g9, List.forall_mem_cons.mpr ⟨mt_g10, List.forall_mem_cons.mpr ⟨mt_g11, List.forall_mem_cons.mpr ⟨mt_g12, List.forall_mem_cons.mpr ⟨mt_g13, List.forall_mem_cons.mpr ⟨mt_g14, List.forall_mem_cons.mpr ⟨mt_g15, fun _ h => absurd h List.not_mem_nil⟩⟩⟩⟩⟩⟩⟩⟩⟩⟩⟩⟩⟩⟩⟩⟩
/-- PeopleStore.takeObject()LPeopleStore$Value; -/
def mt_q16 : mt_Q := (⟨"PeopleStore", "takeObject", "()LPeopleStore$Value;"⟩, prog_1_method_16_code, 3, (some (.object "PeopleStore$Value")), 1, 1, [[(0, .aload_n 0), (1, .getfield 10), (4, .invokevirtual 119), (7, .aload_n 0), (8, .getfield 10), (11, .iconst 0), (12, .invokestatic 183), (15, .astore_n 1)],
  [(16, .aload_n 0), (17, .getfield 10), (20, .iconst 0), (21, .invokevirtual 122), (24, .istore_n 2), (25, .aload_n 0), (26, .getfield 10), (29, .invokevirtual 97)],
  [(32, .aload_n 1), (33, .ifnull 19), (36, .iload_n 2), (37, .ifCond .eq 15), (40, .aload_n 1), (41, .getfield 187), (44, .iconst 3), (45, .if_icmp .ne 7)],
  [(48, .aload_n 1), (49, .goto 4), (52, .aconst_null), (53, .areturn)]])
theorem mt_g16 : mx_goodB mt_q16 = true := by decide +kernel
/-- PeopleStore$Buffer.split()V -/
def mt_q17 : mt_Q := (⟨"PeopleStore$Buffer", "split", "()V"⟩, prog_3_method_6_code, 2, none, 1, 2, [[(0, .aload_n 0), (1, .iconst 0), (2, .putfield 34), (5, .aload_n 0), (6, .iconst 0), (7, .invokevirtual 37), (10, .istore_n 1), (11, .aload_n 0), (12, .iconst 0), (13, .putfield 41)],
  [(16, .aload_n 0), (17, .getfield 41), (20, .bipush 120), (22, .if_icmp .ge 43), (25, .iload_n 1), (26, .aload_n 0), (27, .getfield 30), (30, .if_icmp .ge 35)],
  [(33, .aload_n 0), (34, .iload_n 1), (35, .invokevirtual 44), (38, .aload_n 0), (39, .aload_n 0), (40, .getfield 20), (43, .aload_n 0), (44, .getfield 41), (47, .iaload)],
  [(48, .invokevirtual 37), (51, .istore_n 1), (52, .aload_n 0), (53, .dup), (54, .getfield 41), (57, .iconst 1), (58, .iadd), (59, .putfield 41), (62, .goto (-46))],
  [(65, .aload_n 0), (66, .getfield 13), (69, .aload_n 0), (70, .getfield 41), (73, .iconst 0), (74, .iastore), (75, .return_)]])
theorem mt_g17 : mx_goodB mt_q17 = true := by decide +kernel
/-- PeopleStore$Buffer.skipSpaces(I)I -/
def mt_q18 : mt_Q := (⟨"PeopleStore$Buffer", "skipSpaces", "(I)I"⟩, prog_3_method_15_code, 3, (some .int), 2, 2, [[(0, .iload_n 1), (1, .istore_n 2), (2, .iload_n 2), (3, .aload_n 0), (4, .getfield 30), (7, .if_icmp .ge 20), (10, .aload_n 0), (11, .getfield 9), (14, .iload_n 2), (15, .caload)],
  [(16, .bipush 32), (18, .if_icmp .ne 9), (21, .iinc 2 1), (24, .goto (-22)), (27, .iload_n 2), (28, .ireturn)]])
theorem mt_g18 : mx_goodB mt_q18 = true := by decide +kernel
/-- PeopleStore$Buffer.splitOff(I)V -/
def mt_q19 : mt_Q := (⟨"PeopleStore$Buffer", "splitOff", "(I)V"⟩, prog_3_method_16_code, 5, none, 2, 2, [[(0, .aload_n 0), (1, .getfield 9), (4, .iload_n 1), (5, .caload), (6, .istore_n 2), (7, .ldc 77), (9, .iload_n 2), (10, .invokevirtual 79), (13, .ifCond .lt 7)],
  [(16, .iload_n 2), (17, .goto 4), (20, .iconst 4), (21, .istore_n 3), (22, .iload_n 1), (23, .iconst 1), (24, .iadd), (25, .istore 4), (27, .aload_n 0), (28, .iload_n 1), (29, .invokevirtual 82)],
  [(32, .ifCond .eq 15), (35, .iconst 1), (36, .istore_n 3), (37, .aload_n 0), (38, .iload_n 1), (39, .invokevirtual 86), (42, .istore 4), (44, .goto 75), (47, .aload_n 0)],
  [(48, .iload_n 1), (49, .invokevirtual 89), (52, .ifCond .ne 19), (55, .iload_n 2), (56, .bipush 45), (58, .if_icmp .ne 37), (61, .aload_n 0), (62, .iload_n 1), (63, .iconst 1)],
  [(64, .iadd), (65, .invokevirtual 89), (68, .ifCond .eq 27), (71, .iconst 2), (72, .istore_n 3), (73, .aload_n 0), (74, .iload_n 2), (75, .bipush 45), (77, .if_icmp .ne 9)],
  [(80, .iload_n 1), (81, .iconst 1), (82, .iadd), (83, .goto 4), (86, .iload_n 1), (87, .invokevirtual 92), (90, .istore 4), (92, .goto 27), (95, .iload_n 2)],
  [(96, .bipush 34), (98, .if_icmp .ne 21), (101, .aload_n 0), (102, .iload_n 1), (103, .invokevirtual 95), (106, .iload_n 1), (107, .if_icmp .le 12), (110, .iconst 3), (111, .istore_n 3)],
  [(112, .aload_n 0), (113, .iload_n 1), (114, .invokevirtual 95), (117, .istore 4), (119, .aload_n 0), (120, .getfield 13), (123, .aload_n 0), (124, .getfield 41), (127, .iload_n 3)],
  [(128, .iastore), (129, .aload_n 0), (130, .getfield 17), (133, .aload_n 0), (134, .getfield 41), (137, .iload_n 1), (138, .iastore), (139, .aload_n 0), (140, .getfield 20), (143, .aload_n 0)],
  [(144, .getfield 41), (147, .iload 4), (149, .iastore), (150, .return_)]])
theorem mt_g19 : mx_goodB mt_q19 = true := by decide +kernel
/-- java/lang/String.indexOf(I)I -/
def mt_q20 : mt_Q := (⟨"java/lang/String", "indexOf", "(I)I"⟩, prog_19_method_79_code, 2, (some .int), 2, 9, [[(0, .aload_n 0), (1, .iload_n 1), (2, .iconst 0), (3, .invokevirtual 633), (6, .ireturn)]])
theorem mt_g20 : mx_goodB mt_q20 = true := by decide +kernel
/-- java/lang/String.indexOf(II)I -/
def mt_q21 : mt_Q := (⟨"java/lang/String", "indexOf", "(II)I"⟩, prog_19_method_80_code, 3, (some .int), 3, 9, [[(0, .aload_n 0), (1, .invokevirtual 492), (4, .ifCond .eq 19), (7, .aload_n 0), (8, .getfield 9), (11, .iload_n 1), (12, .iload_n 2), (13, .aload_n 0), (14, .invokevirtual 505)],
  [(17, .invokestatic 637), (20, .goto 16), (23, .aload_n 0), (24, .getfield 9), (27, .iload_n 1), (28, .iload_n 2), (29, .aload_n 0), (30, .invokevirtual 505)],
  [(33, .invokestatic 640), (36, .ireturn)]])
theorem mt_g21 : mx_goodB mt_q21 = true := by decide +kernel
/-- java/lang/String.isLatin1()Z -/
def mt_q22 : mt_Q := (⟨"java/lang/String", "isLatin1", "()Z"⟩, prog_19_method_154_code, 1, (some .boolean), 1, 9, [[(0, .getstatic 38), (3, .ifCond .eq 14), (6, .aload_n 0), (7, .getfield 15), (10, .ifCond .ne 7), (13, .iconst 1), (14, .goto 4)],
  [(17, .iconst 0), (18, .ireturn)]])
theorem mt_g22 : mx_goodB mt_q22 = true := by decide +kernel
/-- java/lang/String.length()I -/
def mt_q23 : mt_Q := (⟨"java/lang/String", "length", "()I"⟩, prog_19_method_54_code, 1, (some .int), 1, 9, [[(0, .aload_n 0), (1, .getfield 9), (4, .arraylength), (5, .aload_n 0), (6, .invokevirtual 335), (9, .ishr), (10, .ireturn)]])
theorem mt_g23 : mx_goodB mt_q23 = true := by decide +kernel
/-- java/lang/String.coder()B -/
def mt_q24 : mt_Q := (⟨"java/lang/String", "coder", "()B"⟩, prog_19_method_152_code, 1, (some .byte), 1, 9, [[(0, .getstatic 38), (3, .ifCond .eq 10), (6, .aload_n 0), (7, .getfield 15), (10, .goto 4), (13, .iconst 1), (14, .ireturn)]])
theorem mt_g24 : mx_goodB mt_q24 = true := by decide +kernel
/-- java/lang/StringLatin1.indexOf([BIII)I -/
def mt_q25 : mt_Q := (⟨"java/lang/StringLatin1", "indexOf", "([BIII)I"⟩, prog_21_method_22_code, 4, (some .int), 4, 10, [[(0, .iload_n 1), (1, .invokestatic 88), (4, .ifCond .ne 5), (7, .iconst (-1)), (8, .ireturn), (9, .iload_n 2), (10, .iconst 0), (11, .invokestatic 92), (14, .istore_n 2), (15, .iload_n 3)],
  [(16, .aload_n 0), (17, .arraylength), (18, .invokestatic 38), (21, .istore_n 3), (22, .iload_n 2), (23, .iload_n 3), (24, .if_icmp .lt 5), (27, .iconst (-1)), (28, .ireturn), (29, .aload_n 0), (30, .iload_n 1), (31, .iload_n 2)],
  [(32, .iload_n 3), (33, .invokestatic 95), (36, .ireturn)]])
theorem mt_g25 : mx_goodB mt_q25 = true := by decide +kernel
/-- java/lang/StringLatin1.canEncode(I)Z -/
def mt_q26 : mt_Q := (⟨"java/lang/StringLatin1", "canEncode", "(I)Z"⟩, prog_21_method_4_code, 1, (some .boolean), 1, 10, [[(0, .iload_n 0), (1, .ifCond .lt 14), (4, .iload_n 0), (5, .sipush 255), (8, .if_icmp .gt 7), (11, .iconst 1), (12, .goto 4), (15, .iconst 0)],
  [(16, .ireturn)]])
theorem mt_g26 : mx_goodB mt_q26 = true := by decide +kernel
/-- java/lang/Math.max(II)I -/
def mt_q27 : mt_Q := (⟨"java/lang/Math", "max", "(II)I"⟩, prog_18_method_65_code, 2, (some .int), 2, 11, [[(0, .iload_n 0), (1, .iload_n 1), (2, .if_icmp .lt 7), (5, .iload_n 0), (6, .goto 4), (9, .iload_n 1), (10, .ireturn)]])
theorem mt_g27 : mx_goodB mt_q27 = true := by decide +kernel
/-- java/lang/Math.min(II)I -/
def mt_q28 : mt_Q := (⟨"java/lang/Math", "min", "(II)I"⟩, prog_18_method_69_code, 2, (some .int), 2, 11, [[(0, .iload_n 0), (1, .iload_n 1), (2, .if_icmp .gt 7), (5, .iload_n 0), (6, .goto 4), (9, .iload_n 1), (10, .ireturn)]])
theorem mt_g28 : mx_goodB mt_q28 = true := by decide +kernel
/-- java/lang/StringLatin1.indexOfChar([BIII)I -/
def mt_q29 : mt_Q := (⟨"java/lang/StringLatin1", "indexOfChar", "([BIII)I"⟩, prog_21_method_23_code, 6, (some .int), 4, 10, [[(0, .iload_n 1), (1, .i2b), (2, .istore 4), (4, .iload_n 2), (5, .istore 5), (7, .iload 5), (9, .iload_n 3), (10, .if_icmp .ge 21), (13, .aload_n 0), (14, .iload 5)],
  [(16, .baload), (17, .iload 4), (19, .if_icmp .ne 6), (22, .iload 5), (24, .ireturn), (25, .iinc 5 1), (28, .goto (-21)), (31, .iconst (-1))],
  [(32, .ireturn)]])
theorem mt_g29 : mx_goodB mt_q29 = true := by decide +kernel
/-- java/lang/StringUTF16.indexOf([BIII)I -/
def mt_q30 : mt_Q := (⟨"java/lang/StringUTF16", "indexOf", "([BIII)I"⟩, prog_22_method_40_code, 4, (some .int), 4, 5, [[(0, .iload_n 2), (1, .iconst 0), (2, .invokestatic 224), (5, .istore_n 2), (6, .iload_n 3), (7, .aload_n 0), (8, .arraylength), (9, .iconst 1), (10, .ishr), (11, .invokestatic 183), (14, .istore_n 3), (15, .iload_n 2)],
  [(16, .iload_n 3), (17, .if_icmp .lt 5), (20, .iconst (-1)), (21, .ireturn), (22, .iload_n 1), (23, .ldc 227), (25, .if_icmp .ge 11), (28, .aload_n 0), (29, .iload_n 1), (30, .iload_n 2), (31, .iload_n 3)],
  [(32, .invokestatic 228), (35, .ireturn), (36, .aload_n 0), (37, .iload_n 1), (38, .iload_n 2), (39, .iload_n 3), (40, .invokestatic 232), (43, .ireturn)]])
theorem mt_g30 : mx_goodB mt_q30 = true := by decide +kernel
/-- java/lang/StringUTF16.indexOfChar([BIII)I -/
def mt_q31 : mt_Q := (⟨"java/lang/StringUTF16", "indexOfChar", "([BIII)I"⟩, prog_22_method_47_code, 4, (some .int), 4, 5, [[(0, .iload_n 2), (1, .iload_n 3), (2, .aload_n 0), (3, .invokestatic 96), (6, .aload_n 0), (7, .iload_n 1), (8, .iload_n 2), (9, .iload_n 3), (10, .invokestatic 244), (13, .ireturn)]])
theorem mt_g31 : mx_goodB mt_q31 = true := by decide +kernel
def mt_qk1 : List mt_Q := [mt_q16, mt_q17, mt_q18, mt_q19, mt_q20, mt_q21, mt_q22, mt_q23, mt_q24, mt_q25, mt_q26, mt_q27, mt_q28, mt_q29, mt_q30, mt_q31]
theorem mt_gk1 : ∀ q ∈ mt_qk1, mx_goodB q = true := List.forall_mem_cons.mpr ⟨mt_g16, List.forall_mem_cons.mpr ⟨mt_g17, List.forall_mem_cons.mpr ⟨mt_g18, List.forall_mem_cons.mpr ⟨mt_g19, List.forall_mem_cons.mpr ⟨mt_g20, List.forall_mem_cons.mpr ⟨mt_g21, List.forall_mem_cons.mpr ⟨mt_g22, List.forall_mem_cons.mpr ⟨mt_g23, List.forall_mem_cons.mpr ⟨mt_g24, List.forall_mem_cons.mpr ⟨mt_g25, List.forall_mem_cons.mpr ⟨mt_g26, List.forall_mem_cons.mpr ⟨mt_g27, List.forall_mem_cons.mpr ⟨mt_g28, List.forall_mem_cons.mpr ⟨mt_g29, List.forall_mem_cons.mpr ⟨mt_g30, List.forall_mem_cons.mpr ⟨mt_g31, fun _ h => absurd h List.not_mem_nil⟩⟩⟩⟩⟩⟩⟩⟩⟩⟩⟩⟩⟩⟩⟩⟩
/-- java/lang/StringUTF16.checkBoundsBeginEnd(II[B)V -/
def mt_q32 : mt_Q := (⟨"java/lang/StringUTF16", "checkBoundsBeginEnd", "(II[B)V"⟩, prog_22_method_93_code, 3, none, 3, 5, [[(0, .iload_n 0), (1, .iload_n 1), (2, .aload_n 2), (3, .invokestatic 48), (6, .invokestatic 241), (9, .return_)]])
theorem mt_g32 : mx_goodB mt_q32 = true := by decide +kernel
/-- java/lang/StringUTF16.length([B)I -/
def mt_q33 : mt_Q := (⟨"java/lang/StringUTF16", "length", "([B)I"⟩, prog_22_method_6_code, 1, (some .int), 1, 5, [[(0, .aload_n 0), (1, .arraylength), (2, .iconst 1), (3, .ishr), (4, .ireturn)]])
theorem mt_g33 : mx_goodB mt_q33 = true := by decide +kernel
/-- java/lang/String.checkBoundsBeginEnd(III)V -/
def mt_q34 : mt_Q := (⟨"java/lang/String", "checkBoundsBeginEnd", "(III)V"⟩, prog_19_method_158_code, 3, none, 3, 9, [[(0, .iload_n 0), (1, .iload_n 1), (2, .iload_n 2), (3, .getstatic 1053), (6, .invokestatic 1062), (9, .pop), (10, .return_)]])
theorem mt_g34 : mx_goodB mt_q34 = true := by decide +kernel
/-- jdk/internal/util/Preconditions.checkFromToIndex(IIILjava/util/function/BiFunction;)I -/
def mt_q35 : mt_Q := (⟨"jdk/internal/util/Preconditions", "checkFromToIndex", "(IIILjava/util/function/BiFunction;)I"⟩, prog_34_method_12_code, 4, (some .int), 4, 12, [[(0, .iload_n 0), (1, .ifCond .lt 13), (4, .iload_n 0), (5, .iload_n 1), (6, .if_icmp .gt 8), (9, .iload_n 1), (10, .iload_n 2), (11, .if_icmp .le 11), (14, .aload_n 3), (15, .iload_n 0)],
  [(16, .iload_n 1), (17, .iload_n 2), (18, .invokestatic 99), (21, .athrow), (22, .iload_n 0), (23, .ireturn)]])
theorem mt_g35 : mx_goodB mt_q35 = true := by decide +kernel
/-- java/lang/StringUTF16.indexOfCharUnsafe([BIII)I -/
def mt_q36 : mt_Q := (⟨"java/lang/StringUTF16", "indexOfCharUnsafe", "([BIII)I"⟩, prog_22_method_48_code, 5, (some .int), 4, 5, [[(0, .iload_n 2), (1, .istore 4), (3, .iload 4), (5, .iload_n 3), (6, .if_icmp .ge 22), (9, .aload_n 0), (10, .iload 4), (12, .invokestatic 71), (15, .iload_n 1)],
  [(16, .if_icmp .ne 6), (19, .iload 4), (21, .ireturn), (22, .iinc 4 1), (25, .goto (-22)), (28, .iconst (-1)), (29, .ireturn)]])
theorem mt_g36 : mx_goodB mt_q36 = true := by decide +kernel
/-- java/lang/StringUTF16.getChar([BI)C -/
def mt_q37 : mt_Q := (⟨"java/lang/StringUTF16", "getChar", "([BI)C"⟩, prog_22_method_5_code, 2, (some .char), 2, 5, [[(0, .getstatic 44), (3, .ifCond .ne 25), (6, .iload_n 1), (7, .ifCond .lt 11), (10, .iload_n 1), (11, .aload_n 0), (12, .invokestatic 48), (15, .if_icmp .lt 13)],
  [(18, .new 52), (21, .dup), (22, .ldc 54), (24, .invokespecial 56), (27, .athrow), (28, .iload_n 1), (29, .iconst 1), (30, .ishl), (31, .istore_n 1)],
  [(32, .aload_n 0), (33, .iload_n 1), (34, .iinc 1 1), (37, .baload), (38, .sipush 255), (41, .iand), (42, .getstatic 59), (45, .ishl), (46, .aload_n 0), (47, .iload_n 1)],
  [(48, .baload), (49, .sipush 255), (52, .iand), (53, .getstatic 63), (56, .ishl), (57, .ior), (58, .i2c), (59, .ireturn)]])
theorem mt_g37 : mx_goodB mt_q37 = true := by decide +kernel
/-- java/lang/StringUTF16.indexOfSupplementary([BIII)I -/
def mt_q38 : mt_Q := (⟨"java/lang/StringUTF16", "indexOfSupplementary", "([BIII)I"⟩, prog_22_method_49_code, 7, (some .int), 4, 5, [[(0, .iload_n 1), (1, .invokestatic 164), (4, .ifCond .eq 65), (7, .iload_n 1), (8, .invokestatic 157), (11, .istore 4), (13, .iload_n 1), (14, .invokestatic 161)],
  [(17, .istore 5), (19, .iload_n 2), (20, .iload_n 3), (21, .aload_n 0), (22, .invokestatic 96), (25, .iload_n 2), (26, .istore 6), (28, .iload 6), (30, .iload_n 3), (31, .iconst 1)],
  [(32, .isub), (33, .if_icmp .ge 36), (36, .aload_n 0), (37, .iload 6), (39, .invokestatic 71), (42, .iload 4), (44, .if_icmp .ne 19), (47, .aload_n 0)],
  [(48, .iload 6), (50, .iconst 1), (51, .iadd), (52, .invokestatic 71), (55, .iload 5), (57, .if_icmp .ne 6), (60, .iload 6), (62, .ireturn), (63, .iinc 6 1)],
  [(66, .goto (-38)), (69, .iconst (-1)), (70, .ireturn)]])
theorem mt_g38 : mx_goodB mt_q38 = true := by decide +kernel
/-- java/lang/Character.isValidCodePoint(I)Z -/
def mt_q39 : mt_Q := (⟨"java/lang/Character", "isValidCodePoint", "(I)Z"⟩, prog_14_method_11_code, 2, (some .boolean), 1, 13, [[(0, .iload_n 0), (1, .bipush 16), (3, .iushr), (4, .istore_n 1), (5, .iload_n 1), (6, .bipush 17), (8, .if_icmp .ge 7), (11, .iconst 1), (12, .goto 4), (15, .iconst 0)],
  [(16, .ireturn)]])
theorem mt_g39 : mx_goodB mt_q39 = true := by decide +kernel
/-- java/lang/Character.highSurrogate(I)C -/
def mt_q40 : mt_Q := (⟨"java/lang/Character", "highSurrogate", "(I)C"⟩, prog_14_method_28_code, 1, (some .char), 1, 13, [[(0, .iload_n 0), (1, .bipush 10), (3, .iushr), (4, .ldc 110), (6, .iadd), (7, .i2c), (8, .ireturn)]])
theorem mt_g40 : mx_goodB mt_q40 = true := by decide +kernel
/-- java/lang/Character.lowSurrogate(I)C -/
def mt_q41 : mt_Q := (⟨"java/lang/Character", "lowSurrogate", "(I)C"⟩, prog_14_method_29_code, 1, (some .char), 1, 13, [[(0, .iload_n 0), (1, .sipush 1023), (4, .iand), (5, .ldc 76), (7, .iadd), (8, .i2c), (9, .ireturn)]])
theorem mt_g41 : mx_goodB mt_q41 = true := by decide +kernel
/-- PeopleStore$Buffer.isLetter(I)Z -/
def mt_q42 : mt_Q := (⟨"PeopleStore$Buffer", "isLetter", "(I)Z"⟩, prog_3_method_17_code, 2, (some .boolean), 2, 2, [[(0, .iload_n 1), (1, .aload_n 0), (2, .getfield 30), (5, .if_icmp .ge 35), (8, .aload_n 0), (9, .getfield 9), (12, .iload_n 1), (13, .caload), (14, .invokestatic 98)],
  [(17, .bipush 97), (19, .if_icmp .lt 21), (22, .aload_n 0), (23, .getfield 9), (26, .iload_n 1), (27, .caload), (28, .invokestatic 98), (31, .bipush 122)],
  [(33, .if_icmp .gt 7), (36, .iconst 1), (37, .goto 4), (40, .iconst 0), (41, .ireturn)]])
theorem mt_g42 : mx_goodB mt_q42 = true := by decide +kernel
/-- PeopleStore.fold(C)C -/
def mt_q43 : mt_Q := (⟨"PeopleStore", "fold", "(C)C"⟩, prog_1_method_14_code, 1, (some .char), 1, 1, [[(0, .iload_n 0), (1, .bipush 65), (3, .if_icmp .lt 17), (6, .iload_n 0), (7, .bipush 90), (9, .if_icmp .gt 11), (12, .iload_n 0), (13, .bipush 32), (15, .iadd)],
  [(16, .i2c), (17, .goto 4), (20, .iload_n 0), (21, .ireturn)]])
theorem mt_g43 : mx_goodB mt_q43 = true := by decide +kernel
/-- PeopleStore$Buffer.foldWord(I)I -/
def mt_q44 : mt_Q := (⟨"PeopleStore$Buffer", "foldWord", "(I)I"⟩, prog_3_method_19_code, 3, (some .int), 2, 2, [[(0, .iload_n 1), (1, .istore_n 2), (2, .iload_n 2), (3, .aload_n 0), (4, .getfield 30), (7, .if_icmp .ge 32), (10, .aload_n 0), (11, .iload_n 2), (12, .invokevirtual 82), (15, .ifCond .eq 24)],
  [(18, .aload_n 0), (19, .getfield 9), (22, .iload_n 2), (23, .aload_n 0), (24, .getfield 9), (27, .iload_n 2), (28, .caload), (29, .invokestatic 98)],
  [(32, .castore), (33, .iinc 2 1), (36, .goto (-34)), (39, .iload_n 2), (40, .ireturn)]])
theorem mt_g44 : mx_goodB mt_q44 = true := by decide +kernel
/-- PeopleStore$Buffer.isDigit(I)Z -/
def mt_q45 : mt_Q := (⟨"PeopleStore$Buffer", "isDigit", "(I)Z"⟩, prog_3_method_18_code, 2, (some .boolean), 2, 2, [[(0, .iload_n 1), (1, .aload_n 0), (2, .getfield 30), (5, .if_icmp .ge 29), (8, .aload_n 0), (9, .getfield 9), (12, .iload_n 1), (13, .caload), (14, .bipush 48)],
  [(16, .if_icmp .lt 18), (19, .aload_n 0), (20, .getfield 9), (23, .iload_n 1), (24, .caload), (25, .bipush 57), (27, .if_icmp .gt 7), (30, .iconst 1), (31, .goto 4)],
  [(34, .iconst 0), (35, .ireturn)]])
theorem mt_g45 : mx_goodB mt_q45 = true := by decide +kernel
/-- PeopleStore$Buffer.endOfNumber(I)I -/
def mt_q46 : mt_Q := (⟨"PeopleStore$Buffer", "endOfNumber", "(I)I"⟩, prog_3_method_20_code, 3, (some .int), 2, 2, [[(0, .aload_n 0), (1, .getfield 9), (4, .iload_n 1), (5, .caload), (6, .bipush 48), (8, .if_icmp .ne 7), (11, .iload_n 1), (12, .iconst 1), (13, .iadd), (14, .ireturn), (15, .iload_n 1)],
  [(16, .istore_n 2), (17, .iload_n 2), (18, .iload_n 1), (19, .bipush 9), (21, .iadd), (22, .if_icmp .ge 17), (25, .aload_n 0), (26, .iload_n 2), (27, .invokevirtual 89), (30, .ifCond .eq 9)],
  [(33, .iinc 2 1), (36, .goto (-19)), (39, .iload_n 2), (40, .ireturn)]])
theorem mt_g46 : mx_goodB mt_q46 = true := by decide +kernel
/-- PeopleStore$Buffer.endOfString(I)I -/
def mt_q47 : mt_Q := (⟨"PeopleStore$Buffer", "endOfString", "(I)I"⟩, prog_3_method_21_code, 4, (some .int), 2, 2, [[(0, .iload_n 1), (1, .iconst 1), (2, .iadd), (3, .istore_n 2), (4, .iload_n 2), (5, .aload_n 0), (6, .getfield 30), (9, .if_icmp .ge 67), (12, .aload_n 0), (13, .getfield 9)],
  [(16, .iload_n 2), (17, .caload), (18, .istore_n 3), (19, .iload_n 3), (20, .bipush 34), (22, .if_icmp .ne 7), (25, .iload_n 2), (26, .iconst 1), (27, .iadd), (28, .ireturn), (29, .iload_n 3), (30, .bipush 10)],
  [(32, .if_icmp .ne 5), (35, .iload_n 1), (36, .ireturn), (37, .iload_n 3), (38, .bipush 92), (40, .if_icmp .ne 30), (43, .iinc 2 1), (46, .iload_n 2), (47, .aload_n 0)],
  [(48, .getfield 30), (51, .if_icmp .ge 17), (54, .ldc 104), (56, .aload_n 0), (57, .getfield 9), (60, .iload_n 2), (61, .caload), (62, .invokevirtual 79)],
  [(65, .ifCond .ge 5), (68, .iload_n 1), (69, .ireturn), (70, .iinc 2 1), (73, .goto (-69)), (76, .iload_n 1), (77, .ireturn)]])
theorem mt_g47 : mx_goodB mt_q47 = true := by decide +kernel
def mt_qk2 : List mt_Q := [mt_q32, mt_q33, mt_q34, mt_q35, mt_q36, mt_q37, mt_q38, mt_q39, mt_q40, mt_q41, mt_q42, mt_q43, mt_q44, mt_q45, mt_q46, mt_q47]
theorem mt_gk2 : ∀ q ∈ mt_qk2, mx_goodB q = true := List.forall_mem_cons.mpr ⟨mt_g32, List.forall_mem_cons.mpr ⟨mt_g33, List.forall_mem_cons.mpr ⟨mt_g34, List.forall_mem_cons.mpr ⟨mt_g35, List.forall_mem_cons.mpr ⟨mt_g36, List.forall_mem_cons.mpr ⟨mt_g37, List.forall_mem_cons.mpr ⟨mt_g38, List.forall_mem_cons.mpr ⟨mt_g39, List.forall_mem_cons.mpr ⟨mt_g40, List.forall_mem_cons.mpr ⟨mt_g41, List.forall_mem_cons.mpr ⟨mt_g42, List.forall_mem_cons.mpr ⟨mt_g43, List.forall_mem_cons.mpr ⟨mt_g44, List.forall_mem_cons.mpr ⟨mt_g45, List.forall_mem_cons.mpr ⟨mt_g46, List.forall_mem_cons.mpr ⟨mt_g47, fun _ h => absurd h List.not_mem_nil⟩⟩⟩⟩⟩⟩⟩⟩⟩⟩⟩⟩⟩⟩⟩⟩
/-- PeopleStore$Value.read(LPeopleStore$Buffer;I)LPeopleStore$Value; -/
def mt_q48 : mt_Q := (⟨"PeopleStore$Value", "read", "(LPeopleStore$Buffer;I)LPeopleStore$Value;"⟩, prog_9_method_6_code, 2, (some (.object "PeopleStore$Value")), 2, 14, [[(0, .aload_n 0), (1, .bipush 123), (3, .invokevirtual 30), (6, .ifCond .ne 12), (9, .aload_n 0), (10, .bipush 91), (12, .invokevirtual 30), (15, .ifCond .eq 20)],
  [(18, .iload_n 1), (19, .iconst 3), (20, .if_icmp .ge 13), (23, .aload_n 0), (24, .iload_n 1), (25, .iconst 1), (26, .iadd), (27, .invokestatic 36), (30, .goto 4)],
  [(33, .aconst_null), (34, .areturn), (35, .aload_n 0), (36, .invokestatic 40), (39, .areturn)]])
theorem mt_g48 : mx_goodB mt_q48 = true := by decide +kernel
/-- PeopleStore$Buffer.isAt(I)Z -/
def mt_q49 : mt_Q := (⟨"PeopleStore$Buffer", "isAt", "(I)Z"⟩, prog_3_method_8_code, 2, (some .boolean), 2, 2, [[(0, .aload_n 0), (1, .getfield 13), (4, .aload_n 0), (5, .getfield 34), (8, .iaload), (9, .iload_n 1), (10, .if_icmp .ne 7), (13, .iconst 1), (14, .goto 4)],
  [(17, .iconst 0), (18, .ireturn)]])
theorem mt_g49 : mx_goodB mt_q49 = true := by decide +kernel
/-- PeopleStore$Value.readParts(LPeopleStore$Buffer;I)LPeopleStore$Value; -/
def mt_q50 : mt_Q := (⟨"PeopleStore$Value", "readParts", "(LPeopleStore$Buffer;I)LPeopleStore$Value;"⟩, prog_9_method_8_code, 8, (some (.object "PeopleStore$Value")), 2, 14, [[(0, .aload_n 0), (1, .bipush 123), (3, .invokevirtual 30), (6, .ifCond .eq 7), (9, .iconst 3), (10, .goto 4), (13, .iconst 4), (14, .istore_n 2), (15, .iload_n 2)],
  [(16, .iconst 3), (17, .if_icmp .ne 8), (20, .bipush 125), (22, .goto 5), (25, .bipush 93), (27, .istore_n 3), (28, .aload_n 0), (29, .invokevirtual 67)],
  [(32, .aload_n 0), (33, .iload_n 3), (34, .invokevirtual 70), (37, .ifCond .eq 13), (40, .new 7), (43, .dup), (44, .iload_n 2), (45, .aconst_null), (46, .invokespecial 73)],
  [(49, .areturn), (50, .aconst_null), (51, .astore 4), (53, .aconst_null), (54, .astore 5), (56, .iconst 0), (57, .istore 6), (59, .iload 6), (61, .bipush 120), (63, .if_icmp .ge 91)],
  [(66, .iload_n 2), (67, .iconst 3), (68, .if_icmp .ne 13), (71, .aload_n 0), (72, .iload_n 1), (73, .aload 4), (75, .invokestatic 76), (78, .goto 8)],
  [(81, .aload_n 0), (82, .iload_n 1), (83, .invokestatic 80), (86, .astore 7), (88, .aload 7), (90, .ifnonnull 5), (93, .aconst_null), (94, .areturn), (95, .aload 5)],
  [(97, .ifnonnull 10), (100, .aload 7), (102, .astore 4), (104, .goto 10), (107, .aload 5), (109, .aload 7), (111, .putfield 84)],
  [(114, .aload 7), (116, .astore 5), (118, .aload_n 0), (119, .iload_n 3), (120, .invokevirtual 70), (123, .ifCond .eq 14), (126, .new 7)],
  [(129, .dup), (130, .iload_n 2), (131, .aload 4), (133, .invokespecial 73), (136, .areturn), (137, .aload_n 0), (138, .bipush 44), (140, .invokevirtual 70), (143, .ifCond .ne 5)],
  [(146, .aconst_null), (147, .areturn), (148, .iinc 6 1), (151, .goto (-92)), (154, .aconst_null), (155, .areturn)]])
theorem mt_g50 : mx_goodB mt_q50 = true := by decide +kernel
/-- PeopleStore$Buffer.next()V -/
def mt_q51 : mt_Q := (⟨"PeopleStore$Buffer", "next", "()V"⟩, prog_3_method_9_code, 1, none, 1, 2, [[(0, .aload_n 0), (1, .getfield 34), (4, .aload_n 0), (5, .getfield 41), (8, .if_icmp .ge 13), (11, .aload_n 0), (12, .dup), (13, .getfield 34)],
  [(16, .iconst 1), (17, .iadd), (18, .putfield 34), (21, .return_)]])
theorem mt_g51 : mx_goodB mt_q51 = true := by decide +kernel
/-- PeopleStore$Buffer.take(I)Z -/
def mt_q52 : mt_Q := (⟨"PeopleStore$Buffer", "take", "(I)Z"⟩, prog_3_method_10_code, 3, (some .boolean), 2, 2, [[(0, .aload_n 0), (1, .getfield 13), (4, .aload_n 0), (5, .getfield 34), (8, .iaload), (9, .iload_n 1), (10, .if_icmp .ne 7), (13, .iconst 1), (14, .goto 4)],
  [(17, .iconst 0), (18, .istore_n 2), (19, .iload_n 2), (20, .ifCond .eq 7), (23, .aload_n 0), (24, .invokevirtual 48), (27, .iload_n 2), (28, .ireturn)]])
theorem mt_g52 : mx_goodB mt_q52 = true := by decide +kernel
/-- PeopleStore$Value.<init>(ILPeopleStore$Part;)V -/
def mt_q53 : mt_Q := (⟨"PeopleStore$Value", "<init>", "(ILPeopleStore$Part;)V"⟩, prog_9_method_4_code, 3, none, 3, 14, [[(0, .aload_n 0), (1, .invokespecial 1), (4, .aload_n 0), (5, .iload_n 1), (6, .putfield 9), (9, .aload_n 0), (10, .iconst 0), (11, .putfield 13), (14, .aload_n 0), (15, .ldc 16)],
  [(17, .putfield 18), (20, .aload_n 0), (21, .aload_n 2), (22, .putfield 22), (25, .return_)]])
theorem mt_g53 : mx_goodB mt_q53 = true := by decide +kernel
/-- PeopleStore$Value.readMember(LPeopleStore$Buffer;ILPeopleStore$Part;)LPeopleStore$Part; -/
def mt_q54 : mt_Q := (⟨"PeopleStore$Value", "readMember", "(LPeopleStore$Buffer;ILPeopleStore$Part;)LPeopleStore$Part;"⟩, prog_9_method_10_code, 5, (some (.object "PeopleStore$Part")), 3, 14, [[(0, .aload_n 0), (1, .iconst 3), (2, .invokevirtual 30), (5, .ifCond .ne 5), (8, .aconst_null), (9, .areturn), (10, .aload_n 0), (11, .invokevirtual 61), (14, .invokestatic 94)],
  [(17, .astore_n 3), (18, .aload_n 0), (19, .invokevirtual 67), (22, .aload_n 2), (23, .astore 4), (25, .aload 4), (27, .ifnull 27), (30, .aload 4)],
  [(32, .getfield 100), (35, .aload_n 3), (36, .invokevirtual 103), (39, .ifCond .eq 5), (42, .aconst_null), (43, .areturn), (44, .aload 4), (46, .getfield 84)],
  [(49, .astore 4), (51, .goto (-26)), (54, .aload_n 0), (55, .bipush 58), (57, .invokevirtual 70), (60, .ifCond .eq 11), (63, .aload_n 0)],
  [(64, .iload_n 1), (65, .invokestatic 88), (68, .goto 4), (71, .aconst_null), (72, .astore 4), (74, .aload 4), (76, .ifnonnull 7), (79, .aconst_null)],
  [(80, .goto 13), (83, .new 85), (86, .dup), (87, .aload_n 3), (88, .aload 4), (90, .invokespecial 91), (93, .areturn)]])
theorem mt_g54 : mx_goodB mt_q54 = true := by decide +kernel
/-- PeopleStore$Buffer.text()Ljava/lang/String; -/
def mt_q55 : mt_Q := (⟨"PeopleStore$Buffer", "text", "()Ljava/lang/String;"⟩, prog_3_method_13_code, 4, (some (.object "java/lang/String")), 1, 2, [[(0, .aload_n 0), (1, .getfield 34), (4, .aload_n 0), (5, .getfield 41), (8, .if_icmp .lt 6), (11, .ldc 61), (13, .areturn), (14, .aload_n 0), (15, .getfield 26)],
  [(18, .iconst 0), (19, .invokevirtual 67), (22, .aload_n 0), (23, .getfield 13), (26, .aload_n 0), (27, .getfield 34), (30, .iaload), (31, .iconst 3)],
  [(32, .if_icmp .ne 7), (35, .iconst 1), (36, .goto 4), (39, .iconst 0), (40, .istore_n 1), (41, .aload_n 0), (42, .getfield 20), (45, .aload_n 0), (46, .getfield 34)],
  [(49, .iaload), (50, .iload_n 1), (51, .isub), (52, .istore_n 2), (53, .aload_n 0), (54, .getfield 17), (57, .aload_n 0), (58, .getfield 34), (61, .iaload), (62, .iload_n 1), (63, .iadd)],
  [(64, .istore_n 3), (65, .iload_n 3), (66, .iload_n 2), (67, .if_icmp .ge 44), (70, .aload_n 0), (71, .getfield 9), (74, .iload_n 3), (75, .caload), (76, .bipush 92), (78, .if_icmp .ne 13)],
  [(81, .iload_n 3), (82, .iconst 1), (83, .iadd), (84, .iload_n 2), (85, .if_icmp .ge 6), (88, .iinc 3 1), (91, .aload_n 0), (92, .getfield 26), (95, .aload_n 0)],
  [(96, .getfield 9), (99, .iload_n 3), (100, .caload), (101, .invokevirtual 70), (104, .pop), (105, .iinc 3 1), (108, .goto (-43)), (111, .aload_n 0)],
  [(112, .getfield 26), (115, .invokevirtual 74), (118, .areturn)]])
theorem mt_g55 : mx_goodB mt_q55 = true := by decide +kernel
/-- java/lang/StringBuilder.setLength(I)V -/
def mt_q56 : mt_Q := (⟨"java/lang/StringBuilder", "setLength", "(I)V"⟩, prog_20_method_89_code, 2, none, 2, 3, [[(0, .aload_n 0), (1, .iload_n 1), (2, .invokespecial 333), (5, .return_)]])
theorem mt_g56 : mx_goodB mt_q56 = true := by decide +kernel
/-- java/lang/AbstractStringBuilder.setLength(I)V -/
def mt_q57 : mt_Q := (⟨"java/lang/AbstractStringBuilder", "setLength", "(I)V"⟩, prog_13_method_13_code, 2, none, 2, 4, [[(0, .iload_n 1), (1, .ifCond .ge 12), (4, .new 129), (7, .dup), (8, .iload_n 1), (9, .invokespecial 131), (12, .athrow), (13, .aload_n 0), (14, .iload_n 1), (15, .invokevirtual 100)],
  [(18, .aload_n 0), (19, .getfield 79), (22, .iload_n 1), (23, .if_icmp .ge 40), (26, .aload_n 0), (27, .invokevirtual 83), (30, .ifCond .eq 18)],
  [(33, .aload_n 0), (34, .getfield 15), (37, .aload_n 0), (38, .getfield 79), (41, .iload_n 1), (42, .invokestatic 133), (45, .goto 31)],
  [(48, .aload_n 0), (49, .getfield 15), (52, .aload_n 0), (53, .getfield 79), (56, .iload_n 1), (57, .invokestatic 137), (60, .goto 16), (63, .aload_n 0)],
  [(64, .getfield 79), (67, .iload_n 1), (68, .if_icmp .le 8), (71, .aload_n 0), (72, .iconst 1), (73, .putfield 73), (76, .aload_n 0), (77, .iload_n 1), (78, .putfield 79)],
  [(81, .return_)]])
theorem mt_g57 : mx_goodB mt_q57 = true := by decide +kernel
/-- java/lang/AbstractStringBuilder.ensureCapacityInternal(I)V -/
def mt_q58 : mt_Q := (⟨"java/lang/AbstractStringBuilder", "ensureCapacityInternal", "(I)V"⟩, prog_13_method_9_code, 3, none, 2, 4, [[(0, .aload_n 0), (1, .getfield 15), (4, .arraylength), (5, .aload_n 0), (6, .getfield 22), (9, .ishr), (10, .istore_n 2), (11, .iload_n 1), (12, .iload_n 2), (13, .isub), (14, .ifCond .le 24)],
  [(17, .aload_n 0), (18, .aload_n 0), (19, .getfield 15), (22, .aload_n 0), (23, .iload_n 1), (24, .invokevirtual 104), (27, .aload_n 0), (28, .getfield 22), (31, .ishl)],
  [(32, .invokestatic 108), (35, .putfield 15), (38, .return_)]])
theorem mt_g58 : mx_goodB mt_q58 = true := by decide +kernel
/-- java/lang/AbstractStringBuilder.newCapacity(I)I -/
def mt_q59 : mt_Q := (⟨"java/lang/AbstractStringBuilder", "newCapacity", "(I)I"⟩, prog_13_method_10_code, 6, (some .int), 2, 4, [[(0, .aload_n 0), (1, .getfield 15), (4, .arraylength), (5, .istore_n 2), (6, .iload_n 1), (7, .aload_n 0), (8, .getfield 22), (11, .ishl), (12, .istore_n 3), (13, .iload_n 3), (14, .iload_n 2), (15, .isub)],
  [(16, .istore 4), (18, .iload_n 2), (19, .iload 4), (21, .iload_n 2), (22, .iconst 2), (23, .aload_n 0), (24, .getfield 22), (27, .ishl), (28, .iadd), (29, .invokestatic 114)],
  [(32, .istore 5), (34, .iload 5), (36, .ldc 39), (38, .if_icmp .ne 13), (41, .new 120), (44, .dup), (45, .ldc 122), (47, .invokespecial 124)],
  [(50, .athrow), (51, .iload 5), (53, .aload_n 0), (54, .getfield 22), (57, .ishr), (58, .ireturn)]])
theorem mt_g59 : mx_goodB mt_q59 = true := by decide +kernel
/-- jdk/internal/util/ArraysSupport.newLength(III)I -/
def mt_q60 : mt_Q := (⟨"jdk/internal/util/ArraysSupport", "newLength", "(III)I"⟩, prog_33_method_27_code, 4, (some .int), 3, 15, [[(0, .iload_n 0), (1, .iload_n 1), (2, .iload_n 2), (3, .invokestatic 194), (6, .iadd), (7, .istore_n 3), (8, .iconst 0), (9, .iload_n 3), (10, .if_icmp .ge 11), (13, .iload_n 3), (14, .ldc 200)],
  [(16, .if_icmp .gt 5), (19, .iload_n 3), (20, .ireturn), (21, .iload_n 0), (22, .iload_n 1), (23, .invokestatic 201), (26, .ireturn)]])
theorem mt_g60 : mx_goodB mt_q60 = true := by decide +kernel
/-- jdk/internal/util/ArraysSupport.hugeLength(II)I -/
def mt_q61 : mt_Q := (⟨"jdk/internal/util/ArraysSupport", "hugeLength", "(II)I"⟩, prog_33_method_28_code, 3, (some .int), 2, 15, [[(0, .iload_n 0), (1, .iload_n 1), (2, .iadd), (3, .istore_n 2), (4, .iload_n 2), (5, .ifCond .ge 44), (8, .new 204), (11, .dup), (12, .new 89), (15, .dup)],
  [(16, .invokespecial 91), (19, .ldc 206), (21, .invokevirtual 94), (24, .iload_n 0), (25, .invokevirtual 98), (28, .ldc 208), (30, .invokevirtual 94)],
  [(33, .iload_n 1), (34, .invokevirtual 98), (37, .ldc 210), (39, .invokevirtual 94), (42, .invokevirtual 101), (45, .invokespecial 212)],
  [(48, .athrow), (49, .iload_n 2), (50, .ldc 200), (52, .if_icmp .gt 6), (55, .ldc 200), (57, .ireturn), (58, .iload_n 2), (59, .ireturn)]])
theorem mt_g61 : mx_goodB mt_q61 = true := by decide +kernel
/-- java/util/Arrays.copyOf([BI)[B -/
def mt_q62 : mt_Q := (⟨"java/util/Arrays", "copyOf", "([BI)[B"⟩, prog_27_method_121_code, 3, (some (.array .byte)), 2, 16, [[(0, .iload_n 1), (1, .aload_n 0), (2, .arraylength), (3, .if_icmp .ne 11), (6, .aload_n 0), (7, .invokevirtual 310), (10, .checkcast 311), (13, .areturn), (14, .iload_n 1), (15, .newarray .byte)],
  [(17, .astore_n 2), (18, .aload_n 0), (19, .iconst 0), (20, .aload_n 2), (21, .iconst 0), (22, .aload_n 0), (23, .arraylength), (24, .iload_n 1), (25, .invokestatic 304), (28, .invokestatic 150), (31, .aload_n 2)],
  [(32, .areturn)]])
theorem mt_g62 : mx_goodB mt_q62 = true := by decide +kernel
/-- java/lang/AbstractStringBuilder.isLatin1()Z -/
def mt_q63 : mt_Q := (⟨"java/lang/AbstractStringBuilder", "isLatin1", "()Z"⟩, prog_13_method_68_code, 1, (some .boolean), 1, 4, [[(0, .getstatic 18), (3, .ifCond .eq 14), (6, .aload_n 0), (7, .getfield 22), (10, .ifCond .ne 7), (13, .iconst 1), (14, .goto 4)],
  [(17, .iconst 0), (18, .ireturn)]])
theorem mt_g63 : mx_goodB mt_q63 = true := by decide +kernel
def mt_qk3 : List mt_Q := [mt_q48, mt_q49, mt_q50, mt_q51, mt_q52, mt_q53, mt_q54, mt_q55, mt_q56, mt_q57, mt_q58, mt_q59, mt_q60, mt_q61, mt_q62, mt_q63]
theorem mt_gk3 : ∀ q ∈ mt_qk3, mx_goodB q = true := List.forall_mem_cons.mpr ⟨mt_g48, List.forall_mem_cons.mpr ⟨mt_g49, List.forall_mem_cons.mpr ⟨mt_g50, List.forall_mem_cons.mpr ⟨mt_g51, List.forall_mem_cons.mpr ⟨mt_g52, List.forall_mem_cons.mpr ⟨mt_g53, List.forall_mem_cons.mpr ⟨mt_g54, List.forall_mem_cons.mpr ⟨mt_g55, List.forall_mem_cons.mpr ⟨mt_g56, List.forall_mem_cons.mpr ⟨mt_g57, List.forall_mem_cons.mpr ⟨mt_g58, List.forall_mem_cons.mpr ⟨mt_g59, List.forall_mem_cons.mpr ⟨mt_g60, List.forall_mem_cons.mpr ⟨mt_g61, List.forall_mem_cons.mpr ⟨mt_g62, List.forall_mem_cons.mpr ⟨mt_g63, fun _ h => absurd h List.not_mem_nil⟩⟩⟩⟩⟩⟩⟩⟩⟩⟩⟩⟩⟩⟩⟩⟩
/-- java/lang/StringLatin1.fillNull([BII)V -/
def mt_q64 : mt_Q := (⟨"java/lang/StringLatin1", "fillNull", "([BII)V"⟩, prog_21_method_48_code, 3, none, 3, 10, [[(0, .aload_n 0), (1, .iload_n 1), (2, .iload_n 2), (3, .iconst 0), (4, .invokestatic 236), (7, .return_)]])
theorem mt_g64 : mx_goodB mt_q64 = true := by decide +kernel
/-- java/util/Arrays.fill([BIIB)V -/
def mt_q65 : mt_Q := (⟨"java/util/Arrays", "fill", "([BIIB)V"⟩, prog_27_method_110_code, 5, none, 4, 16, [[(0, .aload_n 0), (1, .arraylength), (2, .iload_n 1), (3, .iload_n 2), (4, .invokestatic 13), (7, .iload_n 1), (8, .istore 4), (10, .iload 4), (12, .iload_n 2), (13, .if_icmp .ge 14)],
  [(16, .aload_n 0), (17, .iload 4), (19, .iload_n 3), (20, .bastore), (21, .iinc 4 1), (24, .goto (-14)), (27, .return_)]])
theorem mt_g65 : mx_goodB mt_q65 = true := by decide +kernel
/-- java/util/Arrays.rangeCheck(III)V -/
def mt_q66 : mt_Q := (⟨"java/util/Arrays", "rangeCheck", "(III)V"⟩, prog_27_method_30_code, 3, none, 3, 16, [[(0, .iload_n 1), (1, .iload_n 2), (2, .if_icmp .le 44), (5, .new 43), (8, .dup), (9, .new 45), (12, .dup), (13, .invokespecial 47)],
  [(16, .ldc 48), (18, .invokevirtual 50), (21, .iload_n 1), (22, .invokevirtual 54), (25, .ldc 57), (27, .invokevirtual 50), (30, .iload_n 2), (31, .invokevirtual 54)],
  [(34, .ldc 59), (36, .invokevirtual 50), (39, .invokevirtual 61), (42, .invokespecial 65), (45, .athrow), (46, .iload_n 1), (47, .ifCond .ge 12)],
  [(50, .new 68), (53, .dup), (54, .iload_n 1), (55, .invokespecial 70), (58, .athrow), (59, .iload_n 2), (60, .iload_n 0), (61, .if_icmp .le 12)],
  [(64, .new 68), (67, .dup), (68, .iload_n 2), (69, .invokespecial 70), (72, .athrow), (73, .return_)]])
theorem mt_g66 : mx_goodB mt_q66 = true := by decide +kernel
/-- java/lang/StringUTF16.fillNull([BII)V -/
def mt_q67 : mt_Q := (⟨"java/lang/StringUTF16", "fillNull", "([BII)V"⟩, prog_22_method_70_code, 3, none, 3, 5, [[(0, .aload_n 0), (1, .iload_n 1), (2, .iconst 1), (3, .ishl), (4, .iload_n 2), (5, .iconst 1), (6, .ishl), (7, .iconst 0), (8, .invokestatic 380), (11, .return_)]])
theorem mt_g67 : mx_goodB mt_q67 = true := by decide +kernel
/-- java/lang/StringBuilder.append(C)Ljava/lang/StringBuilder; -/
def mt_q68 : mt_Q := (⟨"java/lang/StringBuilder", "append", "(C)Ljava/lang/StringBuilder;"⟩, prog_20_method_14_code, 2, (some (.object "java/lang/StringBuilder")), 2, 3, [[(0, .aload_n 0), (1, .iload_n 1), (2, .invokespecial 50), (5, .pop), (6, .aload_n 0), (7, .areturn)]])
theorem mt_g68 : mx_goodB mt_q68 = true := by decide +kernel
/-- java/lang/AbstractStringBuilder.append(C)Ljava/lang/AbstractStringBuilder; -/
def mt_q69 : mt_Q := (⟨"java/lang/AbstractStringBuilder", "append", "(C)Ljava/lang/AbstractStringBuilder;"⟩, prog_13_method_31_code, 2, (some (.object "java/lang/AbstractStringBuilder")), 2, 4, [[(0, .aload_n 0), (1, .aload_n 0), (2, .getfield 79), (5, .iconst 1), (6, .iadd), (7, .invokevirtual 100), (10, .aload_n 0), (11, .invokevirtual 83), (14, .ifCond .eq 31)],
  [(17, .iload_n 1), (18, .invokestatic 191), (21, .ifCond .eq 24), (24, .aload_n 0), (25, .getfield 15), (28, .aload_n 0), (29, .dup), (30, .getfield 79)],
  [(33, .dup_x1), (34, .iconst 1), (35, .iadd), (36, .putfield 79), (39, .iload_n 1), (40, .i2b), (41, .bastore), (42, .goto 33), (45, .aload_n 0), (46, .invokevirtual 83)],
  [(49, .ifCond .eq 7), (52, .aload_n 0), (53, .invokevirtual 195), (56, .aload_n 0), (57, .getfield 15), (60, .aload_n 0), (61, .dup), (62, .getfield 79)],
  [(65, .dup_x1), (66, .iconst 1), (67, .iadd), (68, .putfield 79), (71, .iload_n 1), (72, .invokestatic 197), (75, .aload_n 0), (76, .areturn)]])
theorem mt_g69 : mx_goodB mt_q69 = true := by decide +kernel
/-- java/lang/StringLatin1.canEncode(C)Z -/
def mt_q70 : mt_Q := (⟨"java/lang/StringLatin1", "canEncode", "(C)Z"⟩, prog_21_method_3_code, 1, (some .boolean), 1, 10, [[(0, .iload_n 0), (1, .sipush 255), (4, .if_icmp .gt 7), (7, .iconst 1), (8, .goto 4), (11, .iconst 0), (12, .ireturn)]])
theorem mt_g70 : mx_goodB mt_q70 = true := by decide +kernel
/-- java/lang/AbstractStringBuilder.inflate()V -/
def mt_q71 : mt_Q := (⟨"java/lang/AbstractStringBuilder", "inflate", "()V"⟩, prog_13_method_11_code, 2, none, 1, 4, [[(0, .aload_n 0), (1, .invokevirtual 83), (4, .ifCond .ne 4), (7, .return_), (8, .aload_n 0), (9, .getfield 15), (12, .arraylength), (13, .invokestatic 26)],
  [(16, .astore_n 1), (17, .aload_n 0), (18, .getfield 15), (21, .iconst 0), (22, .aload_n 1), (23, .iconst 0), (24, .aload_n 0), (25, .getfield 79), (28, .invokestatic 125), (31, .aload_n 0)],
  [(32, .aload_n 1), (33, .putfield 15), (36, .aload_n 0), (37, .iconst 1), (38, .putfield 22), (41, .return_)]])
theorem mt_g71 : mx_goodB mt_q71 = true := by decide +kernel
/-- java/lang/StringLatin1.inflate([BI[BII)V -/
def mt_q72 : mt_Q := (⟨"java/lang/StringLatin1", "inflate", "([BI[BII)V"⟩, prog_21_method_50_code, 5, none, 5, 10, [[(0, .aload_n 0), (1, .iload_n 1), (2, .aload_n 2), (3, .iload_n 3), (4, .iload 4), (6, .invokestatic 240), (9, .return_)]])
theorem mt_g72 : mx_goodB mt_q72 = true := by decide +kernel
/-- java/lang/StringUTF16.inflate([BI[BII)V -/
def mt_q73 : mt_Q := (⟨"java/lang/StringUTF16", "inflate", "([BI[BII)V"⟩, prog_22_method_86_code, 6, none, 5, 5, [[(0, .iload_n 3), (1, .iload 4), (3, .aload_n 2), (4, .invokestatic 173), (7, .iconst 0), (8, .istore 5), (10, .iload 5), (12, .iload 4), (14, .if_icmp .ge 27)],
  [(17, .aload_n 2), (18, .iload_n 3), (19, .iinc 3 1), (22, .aload_n 0), (23, .iload_n 1), (24, .iinc 1 1), (27, .baload), (28, .sipush 255), (31, .iand)],
  [(32, .invokestatic 111), (35, .iinc 5 1), (38, .goto (-28)), (41, .return_)]])
theorem mt_g73 : mx_goodB mt_q73 = true := by decide +kernel
/-- java/lang/StringUTF16.checkBoundsOffCount(II[B)V -/
def mt_q74 : mt_Q := (⟨"java/lang/StringUTF16", "checkBoundsOffCount", "(II[B)V"⟩, prog_22_method_94_code, 3, none, 3, 5, [[(0, .iload_n 0), (1, .iload_n 1), (2, .aload_n 2), (3, .invokestatic 48), (6, .invokestatic 419), (9, .pop), (10, .return_)]])
theorem mt_g74 : mx_goodB mt_q74 = true := by decide +kernel
/-- java/lang/String.checkBoundsOffCount(III)I -/
def mt_q75 : mt_Q := (⟨"java/lang/String", "checkBoundsOffCount", "(III)I"⟩, prog_19_method_157_code, 3, (some .int), 3, 9, [[(0, .iload_n 0), (1, .iload_n 1), (2, .iload_n 2), (3, .getstatic 1053), (6, .invokestatic 1065), (9, .ireturn)]])
theorem mt_g75 : mx_goodB mt_q75 = true := by decide +kernel
/-- jdk/internal/util/Preconditions.checkFromIndexSize(IIILjava/util/function/BiFunction;)I -/
def mt_q76 : mt_Q := (⟨"jdk/internal/util/Preconditions", "checkFromIndexSize", "(IIILjava/util/function/BiFunction;)I"⟩, prog_34_method_13_code, 4, (some .int), 4, 12, [[(0, .iload_n 2), (1, .iload_n 0), (2, .ior), (3, .iload_n 1), (4, .ior), (5, .ifCond .lt 10), (8, .iload_n 1), (9, .iload_n 2), (10, .iload_n 0), (11, .isub), (12, .if_icmp .le 11), (15, .aload_n 3)],
  [(16, .iload_n 0), (17, .iload_n 1), (18, .iload_n 2), (19, .invokestatic 103), (22, .athrow), (23, .iload_n 0), (24, .ireturn)]])
theorem mt_g76 : mx_goodB mt_q76 = true := by decide +kernel
/-- java/lang/StringUTF16.putChar([BII)V -/
def mt_q77 : mt_Q := (⟨"java/lang/StringUTF16", "putChar", "([BII)V"⟩, prog_22_method_4_code, 3, none, 3, 5, [[(0, .getstatic 44), (3, .ifCond .ne 25), (6, .iload_n 1), (7, .ifCond .lt 11), (10, .iload_n 1), (11, .aload_n 0), (12, .invokestatic 48), (15, .if_icmp .lt 13)],
  [(18, .new 52), (21, .dup), (22, .ldc 54), (24, .invokespecial 56), (27, .athrow), (28, .iload_n 1), (29, .iconst 1), (30, .ishl), (31, .istore_n 1)],
  [(32, .aload_n 0), (33, .iload_n 1), (34, .iinc 1 1), (37, .iload_n 2), (38, .getstatic 59), (41, .ishr), (42, .i2b), (43, .bastore), (44, .aload_n 0), (45, .iload_n 1), (46, .iload_n 2), (47, .getstatic 63)],
  [(50, .ishr), (51, .i2b), (52, .bastore), (53, .return_)]])
theorem mt_g77 : mx_goodB mt_q77 = true := by decide +kernel
/-- java/lang/StringUTF16.putCharSB([BII)V -/
def mt_q78 : mt_Q := (⟨"java/lang/StringUTF16", "putCharSB", "([BII)V"⟩, prog_22_method_71_code, 3, none, 3, 5, [[(0, .iload_n 1), (1, .aload_n 0), (2, .invokestatic 67), (5, .aload_n 0), (6, .iload_n 1), (7, .iload_n 2), (8, .invokestatic 111), (11, .return_)]])
theorem mt_g78 : mx_goodB mt_q78 = true := by decide +kernel
/-- java/lang/StringUTF16.checkIndex(I[B)V -/
def mt_q79 : mt_Q := (⟨"java/lang/StringUTF16", "checkIndex", "(I[B)V"⟩, prog_22_method_91_code, 2, none, 2, 5, [[(0, .iload_n 0), (1, .aload_n 1), (2, .invokestatic 48), (5, .invokestatic 414), (8, .return_)]])
theorem mt_g79 : mx_goodB mt_q79 = true := by decide +kernel
def mt_qk4 : List mt_Q := [mt_q64, mt_q65, mt_q66, mt_q67, mt_q68, mt_q69, mt_q70, mt_q71, mt_q72, mt_q73, mt_q74, mt_q75, mt_q76, mt_q77, mt_q78, mt_q79]
theorem mt_gk4 : ∀ q ∈ mt_qk4, mx_goodB q = true := List.forall_mem_cons.mpr ⟨mt_g64, List.forall_mem_cons.mpr ⟨mt_g65, List.forall_mem_cons.mpr ⟨mt_g66, List.forall_mem_cons.mpr ⟨mt_g67, List.forall_mem_cons.mpr ⟨mt_g68, List.forall_mem_cons.mpr ⟨mt_g69, List.forall_mem_cons.mpr ⟨mt_g70, List.forall_mem_cons.mpr ⟨mt_g71, List.forall_mem_cons.mpr ⟨mt_g72, List.forall_mem_cons.mpr ⟨mt_g73, List.forall_mem_cons.mpr ⟨mt_g74, List.forall_mem_cons.mpr ⟨mt_g75, List.forall_mem_cons.mpr ⟨mt_g76, List.forall_mem_cons.mpr ⟨mt_g77, List.forall_mem_cons.mpr ⟨mt_g78, List.forall_mem_cons.mpr ⟨mt_g79, fun _ h => absurd h List.not_mem_nil⟩⟩⟩⟩⟩⟩⟩⟩⟩⟩⟩⟩⟩⟩⟩⟩
/-- java/lang/String.checkIndex(II)V -/
def mt_q80 : mt_Q := (⟨"java/lang/String", "checkIndex", "(II)V"⟩, prog_19_method_155_code, 2, none, 2, 9, [[(0, .iload_n 0), (1, .iload_n 1), (2, .getstatic 1053), (5, .invokestatic 1059), (8, .pop), (9, .return_)]])
theorem mt_g80 : mx_goodB mt_q80 = true := by decide +kernel
/-- jdk/internal/util/Preconditions.checkIndex(IILjava/util/function/BiFunction;)I -/
def mt_q81 : mt_Q := (⟨"jdk/internal/util/Preconditions", "checkIndex", "(IILjava/util/function/BiFunction;)I"⟩, prog_34_method_11_code, 3, (some .int), 3, 12, [[(0, .iload_n 0), (1, .ifCond .lt 8), (4, .iload_n 0), (5, .iload_n 1), (6, .if_icmp .lt 10), (9, .aload_n 2), (10, .iload_n 0), (11, .iload_n 1), (12, .invokestatic 95), (15, .athrow)],
  [(16, .iload_n 0), (17, .ireturn)]])
theorem mt_g81 : mx_goodB mt_q81 = true := by decide +kernel
/-- java/lang/StringBuilder.toString()Ljava/lang/String; -/
def mt_q82 : mt_Q := (⟨"java/lang/StringBuilder", "toString", "()Ljava/lang/String;"⟩, prog_20_method_42_code, 1, (some (.object "java/lang/String")), 1, 3, [[(0, .new 18), (3, .dup), (4, .aload_n 0), (5, .invokespecial 137), (8, .areturn)]])
theorem mt_g82 : mx_goodB mt_q82 = true := by decide +kernel
/-- java/lang/String.<init>(Ljava/lang/StringBuilder;)V -/
def mt_q83 : mt_Q := (⟨"java/lang/String", "<init>", "(Ljava/lang/StringBuilder;)V"⟩, prog_19_method_53_code, 2, none, 2, 9, [[(0, .aload_n 0), (1, .aload_n 1), (2, .aconst_null), (3, .invokespecial 489), (6, .return_)]])
theorem mt_g83 : mx_goodB mt_q83 = true := by decide +kernel
/-- java/lang/String.<init>(Ljava/lang/AbstractStringBuilder;Ljava/lang/Void;)V -/
def mt_q84 : mt_Q := (⟨"java/lang/String", "<init>", "(Ljava/lang/AbstractStringBuilder;Ljava/lang/Void;)V"⟩, prog_19_method_150_code, 5, none, 3, 9, [[(0, .aload_n 0), (1, .invokespecial 1), (4, .aload_n 1), (5, .invokevirtual 552), (8, .astore_n 3), (9, .aload_n 1), (10, .invokevirtual 549), (13, .istore 4), (15, .aload_n 1)],
  [(16, .invokevirtual 1047), (19, .ifCond .eq 22), (22, .aload_n 0), (23, .iconst 0), (24, .putfield 15), (27, .aload_n 0), (28, .aload_n 3), (29, .iconst 0), (30, .iload 4)],
  [(32, .invokestatic 54), (35, .putfield 9), (38, .goto 59), (41, .getstatic 38), (44, .ifCond .eq 35), (47, .aload_n 1)],
  [(48, .getfield 1048), (51, .ifCond .eq 28), (54, .aload_n 0), (55, .aload_n 3), (56, .iconst 0), (57, .iload 4), (59, .invokestatic 1051), (62, .putfield 9)],
  [(65, .aload_n 0), (66, .aload_n 0), (67, .getfield 9), (70, .iload 4), (72, .invokestatic 47), (75, .putfield 15), (78, .return_), (79, .aload_n 0)],
  [(80, .iconst 1), (81, .putfield 15), (84, .aload_n 0), (85, .aload_n 3), (86, .iconst 0), (87, .iload 4), (89, .iconst 1), (90, .ishl), (91, .invokestatic 54), (94, .putfield 9)],
  [(97, .return_)]])
theorem mt_g84 : mx_goodB mt_q84 = true := by decide +kernel
/-- java/lang/AbstractStringBuilder.getValue()[B -/
def mt_q85 : mt_Q := (⟨"java/lang/AbstractStringBuilder", "getValue", "()[B"⟩, prog_13_method_64_code, 1, (some (.array .byte)), 1, 4, [[(0, .aload_n 0), (1, .getfield 15), (4, .areturn)]])
theorem mt_g85 : mx_goodB mt_q85 = true := by decide +kernel
/-- java/lang/StringBuilder.length()I -/
def mt_q86 : mt_Q := (⟨"java/lang/StringBuilder", "length", "()I"⟩, prog_20_method_93_code, 1, (some .int), 1, 3, [[(0, .aload_n 0), (1, .invokespecial 343), (4, .ireturn)]])
theorem mt_g86 : mx_goodB mt_q86 = true := by decide +kernel
/-- java/lang/AbstractStringBuilder.length()I -/
def mt_q87 : mt_Q := (⟨"java/lang/AbstractStringBuilder", "length", "()I"⟩, prog_13_method_6_code, 1, (some .int), 1, 4, [[(0, .aload_n 0), (1, .getfield 79), (4, .ireturn)]])
theorem mt_g87 : mx_goodB mt_q87 = true := by decide +kernel
/-- java/util/Arrays.copyOfRange([BII)[B -/
def mt_q88 : mt_Q := (⟨"java/util/Arrays", "copyOfRange", "([BII)[B"⟩, prog_27_method_132_code, 3, (some (.array .byte)), 3, 16, [[(0, .iload_n 1), (1, .ifCond .ne 9), (4, .iload_n 2), (5, .aload_n 0), (6, .arraylength), (7, .if_icmp .eq 10), (10, .aload_n 0), (11, .iload_n 1), (12, .iload_n 2), (13, .invokestatic 339)],
  [(16, .areturn), (17, .aload_n 0), (18, .invokevirtual 310), (21, .checkcast 311), (24, .areturn)]])
theorem mt_g88 : mx_goodB mt_q88 = true := by decide +kernel
/-- java/util/Arrays.copyOfRangeByte([BII)[B -/
def mt_q89 : mt_Q := (⟨"java/util/Arrays", "copyOfRangeByte", "([BII)[B"⟩, prog_27_method_133_code, 5, (some (.array .byte)), 3, 16, [[(0, .iload_n 1), (1, .iload_n 2), (2, .invokestatic 343), (5, .iload_n 2), (6, .iload_n 1), (7, .isub), (8, .istore_n 3), (9, .iload_n 3), (10, .newarray .byte), (12, .astore 4), (14, .aload_n 0), (15, .iload_n 1)],
  [(16, .aload 4), (18, .iconst 0), (19, .aload_n 0), (20, .arraylength), (21, .iload_n 1), (22, .isub), (23, .iload_n 3), (24, .invokestatic 304), (27, .invokestatic 150), (30, .aload 4)],
  [(32, .areturn)]])
theorem mt_g89 : mx_goodB mt_q89 = true := by decide +kernel
/-- java/util/Arrays.checkLength(II)V -/
def mt_q90 : mt_Q := (⟨"java/util/Arrays", "checkLength", "(II)V"⟩, prog_27_method_131_code, 2, none, 2, 16, [[(0, .iload_n 1), (1, .iload_n 0), (2, .if_icmp .ge 35), (5, .new 43), (8, .dup), (9, .new 45), (12, .dup), (13, .invokespecial 47)],
  [(16, .iload_n 0), (17, .invokevirtual 54), (20, .ldc_w 337), (23, .invokevirtual 50), (26, .iload_n 1), (27, .invokevirtual 54), (30, .invokevirtual 61)],
  [(33, .invokespecial 65), (36, .athrow), (37, .return_)]])
theorem mt_g90 : mx_goodB mt_q90 = true := by decide +kernel
/-- java/lang/StringUTF16.compress([BII)[B -/
def mt_q91 : mt_Q := (⟨"java/lang/StringUTF16", "compress", "([BII)[B"⟩, prog_22_method_17_code, 6, (some (.array .byte)), 3, 5, [[(0, .iload_n 2), (1, .newarray .byte), (3, .astore_n 3), (4, .aload_n 0), (5, .iload_n 1), (6, .aload_n 3), (7, .iconst 0), (8, .iload_n 2), (9, .invokestatic 123), (12, .istore 4), (14, .iload 4)],
  [(16, .iload_n 2), (17, .if_icmp .eq 47), (20, .aload_n 0), (21, .iload_n 1), (22, .iconst 1), (23, .ishl), (24, .iload_n 1), (25, .iload_n 2), (26, .iadd), (27, .invokestatic 11), (30, .invokestatic 126)],
  [(33, .astore 5), (35, .aload 5), (37, .iload 4), (39, .invokestatic 71), (42, .sipush 255), (45, .if_icmp .gt 16)],
  [(48, .aload 5), (50, .iconst 0), (51, .aload_n 3), (52, .iconst 0), (53, .iload_n 2), (54, .invokestatic 123), (57, .iload_n 2), (58, .if_icmp .eq 6), (61, .aload 5), (63, .areturn)],
  [(64, .aload_n 3), (65, .areturn)]])
theorem mt_g91 : mx_goodB mt_q91 = true := by decide +kernel
/-- java/lang/StringUTF16.compress([BI[BII)I -/
def mt_q92 : mt_Q := (⟨"java/lang/StringUTF16", "compress", "([BI[BII)I"⟩, prog_22_method_22_code, 7, (some .int), 5, 5, [[(0, .iload_n 1), (1, .iload 4), (3, .aload_n 0), (4, .invokestatic 173), (7, .iconst 0), (8, .istore 5), (10, .iload 5), (12, .iload 4), (14, .if_icmp .ge 39)],
  [(17, .aload_n 0), (18, .iload_n 1), (19, .invokestatic 71), (22, .istore 6), (24, .iload 6), (26, .sipush 255), (29, .if_icmp .le 6)],
  [(32, .iload 5), (34, .ireturn), (35, .aload_n 2), (36, .iload_n 3), (37, .iload 6), (39, .i2b), (40, .bastore), (41, .iinc 1 1), (44, .iinc 3 1), (47, .iinc 5 1)],
  [(50, .goto (-40)), (53, .iload 4), (55, .ireturn)]])
theorem mt_g92 : mx_goodB mt_q92 = true := by decide +kernel
/-- java/lang/StringUTF16.coderFromArrayLen([BI)B -/
def mt_q93 : mt_Q := (⟨"java/lang/StringUTF16", "coderFromArrayLen", "([BI)B"⟩, prog_22_method_15_code, 2, (some .byte), 2, 5, [[(0, .iload_n 1), (1, .aload_n 0), (2, .arraylength), (3, .isub), (4, .bipush 31), (6, .iushr), (7, .i2b), (8, .ireturn)]])
theorem mt_g93 : mx_goodB mt_q93 = true := by decide +kernel
/-- PeopleStore.foldAll(Ljava/lang/String;)Ljava/lang/String; -/
def mt_q94 : mt_Q := (⟨"PeopleStore", "foldAll", "(Ljava/lang/String;)Ljava/lang/String;"⟩, prog_1_method_15_code, 3, (some (.object "java/lang/String")), 1, 1, [[(0, .aload_n 0), (1, .invokevirtual 170), (4, .astore_n 1), (5, .iconst 0), (6, .istore_n 2), (7, .iload_n 2), (8, .aload_n 1), (9, .arraylength), (10, .if_icmp .ge 18), (13, .aload_n 1), (14, .iload_n 2), (15, .aload_n 1)],
  [(16, .iload_n 2), (17, .caload), (18, .invokestatic 176), (21, .castore), (22, .iinc 2 1), (25, .goto (-18)), (28, .new 171), (31, .dup)],
  [(32, .aload_n 1), (33, .invokespecial 180), (36, .areturn)]])
theorem mt_g94 : mx_goodB mt_q94 = true := by decide +kernel
/-- java/lang/String.toCharArray()[C -/
def mt_q95 : mt_Q := (⟨"java/lang/String", "toCharArray", "()[C"⟩, prog_19_method_129_code, 1, (some (.array .char)), 1, 9, [[(0, .aload_n 0), (1, .invokevirtual 492), (4, .ifCond .eq 13), (7, .aload_n 0), (8, .getfield 9), (11, .invokestatic 299), (14, .goto 10)],
  [(17, .aload_n 0), (18, .getfield 9), (21, .invokestatic 303), (24, .areturn)]])
theorem mt_g95 : mx_goodB mt_q95 = true := by decide +kernel
def mt_qk5 : List mt_Q := [mt_q80, mt_q81, mt_q82, mt_q83, mt_q84, mt_q85, mt_q86, mt_q87, mt_q88, mt_q89, mt_q90, mt_q91, mt_q92, mt_q93, mt_q94, mt_q95]
theorem mt_gk5 : ∀ q ∈ mt_qk5, mx_goodB q = true := List.forall_mem_cons.mpr ⟨mt_g80, List.forall_mem_cons.mpr ⟨mt_g81, List.forall_mem_cons.mpr ⟨mt_g82, List.forall_mem_cons.mpr ⟨mt_g83, List.forall_mem_cons.mpr ⟨mt_g84, List.forall_mem_cons.mpr ⟨mt_g85, List.forall_mem_cons.mpr ⟨mt_g86, List.forall_mem_cons.mpr ⟨mt_g87, List.forall_mem_cons.mpr ⟨mt_g88, List.forall_mem_cons.mpr ⟨mt_g89, List.forall_mem_cons.mpr ⟨mt_g90, List.forall_mem_cons.mpr ⟨mt_g91, List.forall_mem_cons.mpr ⟨mt_g92, List.forall_mem_cons.mpr ⟨mt_g93, List.forall_mem_cons.mpr ⟨mt_g94, List.forall_mem_cons.mpr ⟨mt_g95, fun _ h => absurd h List.not_mem_nil⟩⟩⟩⟩⟩⟩⟩⟩⟩⟩⟩⟩⟩⟩⟩⟩
