/-- PeopleStoreModel.readPatch()Z -/
def mt_q288 : mt_Q := (⟨"PeopleStoreModel", "readPatch", "()Z"⟩, prog_11_method_75_code, 2, (some .boolean), 1, 25, [[(0, .aload_n 0), (1, .iconst 0), (2, .putfield 390), (5, .aload_n 0), (6, .iconst 0), (7, .putfield 280), (10, .aload_n 0), (11, .invokevirtual 244), (14, .ifCond .ne 5)],
  [(17, .iconst 0), (18, .ireturn), (19, .aload_n 0), (20, .iconst 0), (21, .invokevirtual 399), (24, .istore_n 1), (25, .iload_n 1), (26, .ifCond .lt 24), (29, .aload_n 0), (30, .iload_n 1), (31, .bipush 10)],
  [(33, .invokevirtual 142), (36, .ifCond .eq 14), (39, .aload_n 0), (40, .iload_n 1), (41, .iconst 1), (42, .iadd), (43, .invokevirtual 399), (46, .istore_n 1), (47, .goto (-22))],
  [(50, .iload_n 1), (51, .aload_n 0), (52, .getfield 109), (55, .if_icmp .ne 7), (58, .iconst 1), (59, .goto 4), (62, .iconst 0), (63, .ireturn)]])
theorem mt_g288 : mx_goodB mt_q288 = true := by decide +kernel
/-- PeopleStoreModel.readOperation(I)I -/
def mt_q289 : mt_Q := (⟨"PeopleStoreModel", "readOperation", "(I)I"⟩, prog_11_method_74_code, 3, (some .int), 2, 25, [[(0, .aload_n 0), (1, .iload_n 1), (2, .bipush 43), (4, .invokevirtual 142), (7, .ifCond .ne 25), (10, .aload_n 0), (11, .iload_n 1), (12, .bipush 45), (14, .invokevirtual 142)],
  [(17, .ifCond .ne 15), (20, .aload_n 0), (21, .iload_n 1), (22, .bipush 61), (24, .invokevirtual 142), (27, .ifCond .ne 5), (30, .iconst (-1)), (31, .ireturn)],
  [(32, .aload_n 0), (33, .getfield 61), (36, .aload_n 0), (37, .getfield 390), (40, .aload_n 0), (41, .getfield 26), (44, .iload_n 1), (45, .laload), (46, .l2i), (47, .iastore)],
  [(48, .aload_n 0), (49, .iload_n 1), (50, .iconst 1), (51, .iadd), (52, .invokevirtual 396), (55, .istore_n 2), (56, .iload_n 2), (57, .ifCond .ge 5), (60, .iconst (-1)), (61, .ireturn), (62, .aload_n 0), (63, .getfield 61)],
  [(66, .aload_n 0), (67, .getfield 390), (70, .iaload), (71, .bipush 45), (73, .if_icmp .eq 37), (76, .aload_n 0), (77, .getfield 73)],
  [(80, .aload_n 0), (81, .getfield 390), (84, .iload_n 2), (85, .iconst 1), (86, .iadd), (87, .iastore), (88, .aload_n 0), (89, .iload_n 2), (90, .bipush 58), (92, .invokevirtual 142), (95, .ifCond .eq 13)],
  [(98, .aload_n 0), (99, .iload_n 2), (100, .iconst 1), (101, .iadd), (102, .invokevirtual 247), (105, .goto 4), (108, .iconst (-1)), (109, .istore_n 2), (110, .aload_n 0), (111, .dup)],
  [(112, .getfield 390), (115, .iconst 1), (116, .iadd), (117, .putfield 390), (120, .iload_n 2), (121, .ireturn)]])
theorem mt_g289 : mx_goodB mt_q289 = true := by decide +kernel
/-- PeopleStoreModel.readTarget(I)I -/
def mt_q290 : mt_Q := (⟨"PeopleStoreModel", "readTarget", "(I)I"⟩, prog_11_method_73_code, 5, (some .int), 2, 25, [[(0, .aload_n 0), (1, .iconst 0), (2, .putfield 300), (5, .aload_n 0), (6, .getfield 390), (9, .istore_n 2), (10, .aload_n 0), (11, .getfield 64), (14, .iload_n 2), (15, .iconst 0)],
  [(16, .iastore), (17, .aload_n 0), (18, .iload_n 1), (19, .bipush 58), (21, .invokevirtual 142), (24, .ifCond .eq 16), (27, .aload_n 0), (28, .getfield 61), (31, .iload_n 2)],
  [(32, .iaload), (33, .bipush 45), (35, .if_icmp .eq 5), (38, .iload_n 1), (39, .ireturn), (40, .aload_n 0), (41, .iload_n 1), (42, .ldc2_w 235), (45, .invokevirtual 136)],
  [(48, .ifCond .ne 31), (51, .aload_n 0), (52, .getfield 64), (55, .iload_n 2), (56, .aload_n 0), (57, .iload_n 1), (58, .invokevirtual 303), (61, .iastore), (62, .aload_n 0), (63, .getfield 64)],
  [(66, .iload_n 2), (67, .iaload), (68, .ifCond .ne 7), (71, .iconst (-1)), (72, .goto 6), (75, .iload_n 1), (76, .iconst 1), (77, .iadd), (78, .ireturn), (79, .aload_n 0)],
  [(80, .iload_n 1), (81, .iconst 1), (82, .iadd), (83, .bipush 91), (85, .invokevirtual 142), (88, .istore_n 3), (89, .iload_n 1), (90, .iconst 1), (91, .iadd), (92, .istore 4), (94, .aload_n 0), (95, .getfield 64)],
  [(98, .iload_n 2), (99, .bipush 6), (101, .iastore), (102, .iload_n 3), (103, .ifCond .eq 62), (106, .aload_n 0), (107, .getfield 67), (110, .iload_n 2), (111, .aload_n 0)],
  [(112, .getfield 280), (115, .iastore), (116, .aload_n 0), (117, .iload_n 1), (118, .iconst 2), (119, .iadd), (120, .iconst 1), (121, .invokevirtual 393), (124, .istore 4), (126, .aload_n 0), (127, .getfield 70)],
  [(130, .iload_n 2), (131, .aload_n 0), (132, .getfield 280), (135, .iastore), (136, .iload 4), (138, .ifCond .lt 14), (141, .aload_n 0), (142, .iload 4)],
  [(144, .bipush 93), (146, .invokevirtual 142), (149, .ifCond .ne 5), (152, .iconst (-1)), (153, .ireturn), (154, .iinc 4 1), (157, .aload_n 0), (158, .getfield 64)],
  [(161, .iload_n 2), (162, .bipush 9), (164, .iastore), (165, .aload_n 0), (166, .iload 4), (168, .bipush 46), (170, .invokevirtual 142), (173, .ifCond .ne 6)],
  [(176, .iload 4), (178, .ireturn), (179, .aload_n 0), (180, .iload 4), (182, .iconst 1), (183, .iadd), (184, .ldc2_w 183), (187, .invokevirtual 136), (190, .ifCond .ne 19)],
  [(193, .aload_n 0), (194, .iload 4), (196, .iconst 1), (197, .iadd), (198, .ldc2_w 192), (201, .invokevirtual 136), (204, .ifCond .ne 5), (207, .iconst (-1))],
  [(208, .ireturn), (209, .aload_n 0), (210, .getfield 64), (213, .iload_n 2), (214, .dup2), (215, .iaload), (216, .aload_n 0), (217, .iload 4), (219, .iconst 1), (220, .iadd), (221, .ldc2_w 183)],
  [(224, .invokevirtual 136), (227, .ifCond .eq 7), (230, .iconst 1), (231, .goto 4), (234, .iconst 2), (235, .iadd), (236, .iastore), (237, .iload 4), (239, .iconst 2)],
  [(240, .iadd), (241, .ireturn)]])
theorem mt_g290 : mx_goodB mt_q290 = true := by decide +kernel
/-- PeopleStoreModel.pathAt(I)I -/
def mt_q291 : mt_Q := (⟨"PeopleStoreModel", "pathAt", "(I)I"⟩, prog_11_method_57_code, 2, (some .int), 2, 25, [[(0, .aload_n 0), (1, .getfield 300), (4, .ifCond .eq 37), (7, .aload_n 0), (8, .iload_n 1), (9, .ldc2_w 183), (12, .invokevirtual 136), (15, .ifCond .eq 8)],
  [(18, .bipush 6), (20, .goto 20), (23, .aload_n 0), (24, .iload_n 1), (25, .ldc2_w 192), (28, .invokevirtual 136), (31, .ifCond .eq 8)],
  [(34, .bipush 7), (36, .goto 4), (39, .iconst 0), (40, .ireturn), (41, .aload_n 0), (42, .iload_n 1), (43, .ldc2_w 235), (46, .invokevirtual 136)],
  [(49, .ifCond .eq 53), (52, .aload_n 0), (53, .iload_n 1), (54, .iconst 1), (55, .iadd), (56, .bipush 46), (58, .invokevirtual 142), (61, .ifCond .eq 16)],
  [(64, .aload_n 0), (65, .iload_n 1), (66, .iconst 2), (67, .iadd), (68, .ldc2_w 183), (71, .invokevirtual 136), (74, .ifCond .eq 8), (77, .bipush 6), (79, .goto 22)],
  [(82, .aload_n 0), (83, .iload_n 1), (84, .iconst 2), (85, .iadd), (86, .ldc2_w 192), (89, .invokevirtual 136), (92, .ifCond .eq 8), (95, .bipush 7)],
  [(97, .goto 4), (100, .iconst 0), (101, .ireturn), (102, .aload_n 0), (103, .iload_n 1), (104, .ldc2_w 225), (107, .invokevirtual 136), (110, .ifCond .eq 7)],
  [(113, .iconst 1), (114, .goto 64), (117, .aload_n 0), (118, .iload_n 1), (119, .ldc2_w 227), (122, .invokevirtual 136), (125, .ifCond .eq 7)],
  [(128, .iconst 2), (129, .goto 49), (132, .aload_n 0), (133, .iload_n 1), (134, .ldc2_w 229), (137, .invokevirtual 136), (140, .ifCond .eq 7), (143, .iconst 3)],
  [(144, .goto 34), (147, .aload_n 0), (148, .iload_n 1), (149, .ldc2_w 231), (152, .invokevirtual 136), (155, .ifCond .eq 7), (158, .iconst 4), (159, .goto 19)],
  [(162, .aload_n 0), (163, .iload_n 1), (164, .ldc2_w 233), (167, .invokevirtual 136), (170, .ifCond .eq 7), (173, .iconst 5), (174, .goto 4)],
  [(177, .iconst 0), (178, .ireturn)]])
theorem mt_g291 : mx_goodB mt_q291 = true := by decide +kernel
/-- PeopleStoreModel.compile(IZ)I -/
def mt_q292 : mt_Q := (⟨"PeopleStoreModel", "compile", "(IZ)I"⟩, prog_11_method_61_code, 7, (some .int), 3, 25, [[(0, .aload_n 0), (1, .iconst 0), (2, .putfield 283), (5, .aload_n 0), (6, .iload_n 2), (7, .ifCond .eq 7), (10, .iconst 1), (11, .goto 4), (14, .iconst 0), (15, .putfield 293)],
  [(18, .aload_n 0), (19, .iload_n 2), (20, .putfield 300), (23, .aload_n 0), (24, .iconst 0), (25, .putfield 296), (28, .iload_n 1), (29, .istore_n 3), (30, .iconst 1), (31, .istore 4)],
  [(33, .iconst 1), (34, .istore 5), (36, .iload 5), (38, .ifCond .eq 164), (41, .aload_n 0), (42, .getfield 296), (45, .ifCond .ne 157)],
  [(48, .iload 4), (50, .ifCond .eq 34), (53, .aload_n 0), (54, .getfield 293), (57, .istore 6), (59, .aload_n 0), (60, .iload_n 3), (61, .invokevirtual 342)],
  [(64, .istore_n 3), (65, .aload_n 0), (66, .getfield 293), (69, .iload 6), (71, .if_icmp .le 7), (74, .iconst 1), (75, .goto 4), (78, .iconst 0), (79, .istore 4)],
  [(81, .goto (-45)), (84, .aload_n 0), (85, .iload_n 3), (86, .ldc2_w 345), (89, .invokevirtual 136), (92, .ifCond .ne 14), (95, .aload_n 0)],
  [(96, .iload_n 3), (97, .ldc2_w 347), (100, .invokevirtual 136), (103, .ifCond .eq 44), (106, .aload_n 0), (107, .aload_n 0), (108, .iload_n 3), (109, .ldc2_w 347)],
  [(112, .invokevirtual 136), (115, .invokevirtual 338), (118, .aload_n 0), (119, .aload_n 0), (120, .iload_n 3), (121, .ldc2_w 345), (124, .invokevirtual 136), (127, .ifCond .eq 7)],
  [(130, .iconst 1), (131, .goto 4), (134, .iconst 2), (135, .invokevirtual 290), (138, .iconst 1), (139, .istore 4), (141, .iinc 3 1)],
  [(144, .goto (-108)), (147, .aload_n 0), (148, .iload_n 3), (149, .bipush 41), (151, .invokevirtual 142), (154, .ifCond .ne 13), (157, .aload_n 0), (158, .iload_n 3), (159, .bipush 93)],
  [(161, .invokevirtual 142), (164, .ifCond .eq 32), (167, .aload_n 0), (168, .aload_n 0), (169, .iload_n 3), (170, .bipush 93), (172, .invokevirtual 142), (175, .invokevirtual 349)],
  [(178, .istore 5), (180, .iload 5), (182, .ifCond .eq 9), (185, .iload_n 3), (186, .iconst 1), (187, .iadd), (188, .goto 4), (191, .iload_n 3)],
  [(192, .istore_n 3), (193, .goto (-157)), (196, .iconst 0), (197, .istore 5), (199, .goto (-163)), (202, .aload_n 0), (203, .iconst 1), (204, .invokevirtual 338), (207, .aload_n 0)],
  [(208, .getfield 296), (211, .ifCond .ne 10), (214, .aload_n 0), (215, .getfield 283), (218, .ifCond .le 7), (221, .iconst (-1)), (222, .goto 4)],
  [(225, .iload_n 3), (226, .ireturn)]])
theorem mt_g292 : mx_goodB mt_q292 = true := by decide +kernel
/-- PeopleStoreModel.operand(I)I -/
def mt_q293 : mt_Q := (⟨"PeopleStoreModel", "operand", "(I)I"⟩, prog_11_method_59_code, 2, (some .int), 2, 25, [[(0, .aload_n 0), (1, .iload_n 1), (2, .ldc2_w 327), (5, .invokevirtual 136), (8, .ifCond .eq 24), (11, .aload_n 0), (12, .iload_n 1), (13, .iconst 1), (14, .iadd), (15, .bipush 40)],
  [(17, .invokevirtual 142), (20, .ifCond .eq 12), (23, .aload_n 0), (24, .iconst 4), (25, .invokevirtual 329), (28, .iload_n 1), (29, .iconst 2), (30, .iadd), (31, .ireturn)],
  [(32, .aload_n 0), (33, .iload_n 1), (34, .bipush 40), (36, .invokevirtual 142), (39, .ifCond .eq 12), (42, .aload_n 0), (43, .iconst 3), (44, .invokevirtual 329), (47, .iload_n 1)],
  [(48, .iconst 1), (49, .iadd), (50, .ireturn), (51, .aload_n 0), (52, .getfield 300), (55, .ifCond .ne 53), (58, .aload_n 0), (59, .iload_n 1), (60, .ldc2_w 235), (63, .invokevirtual 136)],
  [(66, .ifCond .eq 42), (69, .aload_n 0), (70, .iload_n 1), (71, .iconst 1), (72, .iadd), (73, .bipush 91), (75, .invokevirtual 142), (78, .ifCond .eq 30)],
  [(81, .aload_n 0), (82, .iconst 5), (83, .invokevirtual 329), (86, .aload_n 0), (87, .iconst 1), (88, .putfield 300), (91, .aload_n 0), (92, .aload_n 0), (93, .getfield 280)],
  [(96, .putfield 332), (99, .aload_n 0), (100, .iconst 4), (101, .invokevirtual 286), (104, .iload_n 1), (105, .iconst 2), (106, .iadd), (107, .ireturn), (108, .aload_n 0), (109, .iload_n 1), (110, .invokevirtual 335)],
  [(113, .ireturn)]])
theorem mt_g293 : mx_goodB mt_q293 = true := by decide +kernel
/-- PeopleStoreModel.enter(I)V -/
def mt_q294 : mt_Q := (⟨"PeopleStoreModel", "enter", "(I)V"⟩, prog_11_method_55_code, 2, none, 2, 25, [[(0, .aload_n 0), (1, .iload_n 1), (2, .invokevirtual 290), (5, .aload_n 0), (6, .dup), (7, .getfield 293), (10, .iconst 1), (11, .iadd), (12, .putfield 293), (15, .aload_n 0)],
  [(16, .getfield 293), (19, .bipush 6), (21, .if_icmp .le 8), (24, .aload_n 0), (25, .iconst 1), (26, .putfield 296), (29, .return_)]])
theorem mt_g294 : mx_goodB mt_q294 = true := by decide +kernel
/-- PeopleStoreModel.push(I)V -/
def mt_q295 : mt_Q := (⟨"PeopleStoreModel", "push", "(I)V"⟩, prog_11_method_53_code, 2, none, 2, 25, [[(0, .aload_n 0), (1, .getfield 51), (4, .aload_n 0), (5, .getfield 283), (8, .iload_n 1), (9, .iastore), (10, .aload_n 0), (11, .dup), (12, .getfield 283), (15, .iconst 1)],
  [(16, .iadd), (17, .putfield 283), (20, .return_)]])
theorem mt_g295 : mx_goodB mt_q295 = true := by decide +kernel
/-- PeopleStoreModel.add(I)V -/
def mt_q296 : mt_Q := (⟨"PeopleStoreModel", "add", "(I)V"⟩, prog_11_method_52_code, 2, none, 2, 25, [[(0, .aload_n 0), (1, .getfield 36), (4, .aload_n 0), (5, .getfield 280), (8, .iload_n 1), (9, .iastore), (10, .aload_n 0), (11, .dup), (12, .getfield 280), (15, .iconst 1)],
  [(16, .iadd), (17, .putfield 280), (20, .return_)]])
theorem mt_g296 : mx_goodB mt_q296 = true := by decide +kernel
/-- PeopleStoreModel.term(I)I -/
def mt_q297 : mt_Q := (⟨"PeopleStoreModel", "term", "(I)I"⟩, prog_11_method_58_code, 10, (some .int), 2, 25, [[(0, .aload_n 0), (1, .iload_n 1), (2, .invokevirtual 303), (5, .istore_n 2), (6, .aload_n 0), (7, .getfield 300), (10, .ifCond .ne 21), (13, .aload_n 0), (14, .iload_n 1), (15, .iconst 1)],
  [(16, .iadd), (17, .bipush 46), (19, .invokevirtual 142), (22, .ifCond .eq 9), (25, .iload_n 1), (26, .iconst 3), (27, .iadd), (28, .goto 6), (31, .iload_n 1)],
  [(32, .iconst 1), (33, .iadd), (34, .istore_n 3), (35, .iload_n 3), (36, .aload_n 0), (37, .getfield 109), (40, .if_icmp .ge 22), (43, .aload_n 0), (44, .getfield 17), (47, .iload_n 3)],
  [(48, .iaload), (49, .iconst 1), (50, .if_icmp .ne 12), (53, .aload_n 0), (54, .getfield 26), (57, .iload_n 3), (58, .laload), (59, .goto 4), (62, .lconst 0), (63, .lstore 4)],
  [(65, .lload 4), (67, .ldc2_w 306), (70, .lcmp), (71, .ifCond .eq 30), (74, .lload 4), (76, .ldc2_w 308), (79, .lcmp)],
  [(80, .ifCond .eq 21), (83, .lload 4), (85, .ldc2_w 310), (88, .lcmp), (89, .ifCond .eq 12), (92, .lload 4), (94, .ldc2_w 312)],
  [(97, .lcmp), (98, .ifCond .ne 7), (101, .iconst 1), (102, .goto 4), (105, .iconst 0), (106, .istore 6), (108, .lload 4), (110, .ldc2_w 107)],
  [(113, .lcmp), (114, .ifCond .eq 21), (117, .lload 4), (119, .ldc2_w 314), (122, .lcmp), (123, .ifCond .eq 12), (126, .lload 4)],
  [(128, .ldc2_w 316), (131, .lcmp), (132, .ifCond .ne 7), (135, .iconst 1), (136, .goto 4), (139, .iconst 0), (140, .istore 7), (142, .aload_n 0), (143, .iload_n 2)],
  [(144, .invokevirtual 318), (147, .istore 8), (149, .lload 4), (151, .ldc2_w 321), (154, .lcmp), (155, .ifCond .eq 34), (158, .lload 4)],
  [(160, .ldc2_w 323), (163, .lcmp), (164, .ifCond .eq 25), (167, .iload 6), (169, .ifCond .eq 9), (172, .iload 8), (174, .iconst 3), (175, .if_icmp .lt 14)],
  [(178, .iload 7), (180, .ifCond .eq 13), (183, .iload 8), (185, .iconst 2), (186, .if_icmp .ne 7), (189, .iconst 1), (190, .goto 4)],
  [(193, .iconst 0), (194, .istore 9), (196, .iload_n 2), (197, .ifCond .eq 47), (200, .lload 4), (202, .ldc2_w 325), (205, .lcmp), (206, .ifCond .eq 20)],
  [(209, .iload 9), (211, .ifCond .eq 33), (214, .aload_n 0), (215, .iload_n 3), (216, .iconst 1), (217, .iadd), (218, .invokevirtual 149), (221, .iload 8), (223, .if_icmp .ne 21)],
  [(226, .iload_n 3), (227, .iload_n 1), (228, .iconst 1), (229, .iadd), (230, .if_icmp .le 19), (233, .aload_n 0), (234, .iload_n 1), (235, .ldc2_w 235), (238, .invokevirtual 136)],
  [(241, .ifCond .ne 8), (244, .aload_n 0), (245, .iconst 1), (246, .putfield 296), (249, .aload_n 0), (250, .getfield 39), (253, .aload_n 0), (254, .getfield 280)],
  [(257, .iload_n 2), (258, .iastore), (259, .aload_n 0), (260, .getfield 48), (263, .aload_n 0), (264, .getfield 280), (267, .lload 4), (269, .lastore), (270, .aload_n 0), (271, .getfield 42)],
  [(274, .aload_n 0), (275, .getfield 280), (278, .iload_n 3), (279, .iconst 1), (280, .iadd), (281, .iastore), (282, .aload_n 0), (283, .iconst 0), (284, .invokevirtual 286), (287, .lload 4)],
  [(289, .ldc2_w 325), (292, .lcmp), (293, .ifCond .ne 9), (296, .iload_n 3), (297, .iconst 1), (298, .iadd), (299, .goto 6), (302, .iload_n 3), (303, .iconst 2)],
  [(304, .iadd), (305, .ireturn)]])
theorem mt_g297 : mx_goodB mt_q297 = true := by decide +kernel
/-- PeopleStoreModel.typeOf(I)I -/
def mt_q298 : mt_Q := (⟨"PeopleStoreModel", "typeOf", "(I)I"⟩, prog_11_method_56_code, 2, (some .int), 2, 25, [[(0, .iload_n 1), (1, .iconst 3), (2, .if_icmp .eq 9), (5, .iload_n 1), (6, .bipush 6), (8, .if_icmp .ne 7), (11, .iconst 2), (12, .goto 19), (15, .iload_n 1)],
  [(16, .iconst 5), (17, .if_icmp .eq 9), (20, .iload_n 1), (21, .bipush 7), (23, .if_icmp .ne 7), (26, .iconst 3), (27, .goto 4), (30, .iconst 1), (31, .ireturn)]])
theorem mt_g298 : mx_goodB mt_q298 = true := by decide +kernel
/-- PeopleStoreModel.reduce(Z)V -/
def mt_q299 : mt_Q := (⟨"PeopleStoreModel", "reduce", "(Z)V"⟩, prog_11_method_54_code, 2, none, 2, 25, [[(0, .aload_n 0), (1, .getfield 283), (4, .ifCond .le 63), (7, .aload_n 0), (8, .getfield 51), (11, .aload_n 0), (12, .getfield 283), (15, .iconst 1)],
  [(16, .isub), (17, .iaload), (18, .iconst 1), (19, .if_icmp .eq 22), (22, .iload_n 1), (23, .ifCond .eq 44), (26, .aload_n 0), (27, .getfield 51), (30, .aload_n 0), (31, .getfield 283)],
  [(34, .iconst 1), (35, .isub), (36, .iaload), (37, .iconst 2), (38, .if_icmp .ne 29), (41, .aload_n 0), (42, .dup), (43, .getfield 283), (46, .iconst 1), (47, .isub)],
  [(48, .putfield 283), (51, .aload_n 0), (52, .aload_n 0), (53, .getfield 51), (56, .aload_n 0), (57, .getfield 283), (60, .iaload), (61, .invokevirtual 286)],
  [(64, .goto (-64)), (67, .return_)]])
theorem mt_g299 : mx_goodB mt_q299 = true := by decide +kernel
/-- PeopleStoreModel.close(Z)Z -/
def mt_q300 : mt_Q := (⟨"PeopleStoreModel", "close", "(Z)Z"⟩, prog_11_method_60_code, 3, (some .boolean), 2, 25, [[(0, .aload_n 0), (1, .iconst 1), (2, .invokevirtual 338), (5, .aload_n 0), (6, .getfield 283), (9, .ifCond .ne 5), (12, .iconst 0), (13, .ireturn), (14, .aload_n 0), (15, .dup)],
  [(16, .getfield 283), (19, .iconst 1), (20, .isub), (21, .putfield 283), (24, .aload_n 0), (25, .getfield 51), (28, .aload_n 0), (29, .getfield 283)],
  [(32, .iaload), (33, .istore_n 2), (34, .iload_n 2), (35, .iconst 5), (36, .if_icmp .ne 7), (39, .iconst 1), (40, .goto 4), (43, .iconst 0), (44, .iload_n 1), (45, .if_icmp .eq 8)],
  [(48, .aload_n 0), (49, .iconst 1), (50, .putfield 296), (53, .iload_n 2), (54, .iconst 5), (55, .if_icmp .ne 21), (58, .aload_n 0), (59, .getfield 45), (62, .aload_n 0), (63, .getfield 332)],
  [(66, .aload_n 0), (67, .getfield 280), (70, .iastore), (71, .aload_n 0), (72, .iconst 0), (73, .putfield 300), (76, .iload_n 2), (77, .iconst 4), (78, .if_icmp .ne 8)],
  [(81, .aload_n 0), (82, .iconst 3), (83, .invokevirtual 286), (86, .aload_n 0), (87, .dup), (88, .getfield 293), (91, .iconst 1), (92, .isub), (93, .putfield 293)],
  [(96, .iconst 1), (97, .ireturn)]])
theorem mt_g300 : mx_goodB mt_q300 = true := by decide +kernel
/-- PeopleStoreModel.performAll(II)I -/
def mt_q301 : mt_Q := (⟨"PeopleStoreModel", "performAll", "(II)I"⟩, prog_11_method_83_code, 8, (some .int), 3, 25, [[(0, .aload_n 0), (1, .iload_n 2), (2, .bipush 123), (4, .invokevirtual 142), (7, .ifCond .ne 7), (10, .sipush (-401)), (13, .ireturn), (14, .iconst 0), (15, .istore_n 3)],
  [(16, .aload_n 0), (17, .iload_n 2), (18, .invokevirtual 155), (21, .istore 4), (23, .iload 4), (25, .ifCond .lt 127), (28, .iload_n 3), (29, .ifCond .ne 123)],
  [(32, .aload_n 0), (33, .iload 4), (35, .invokevirtual 179), (38, .lstore 5), (40, .lload 5), (42, .ldc2_w 229), (45, .lcmp), (46, .ifCond .ne 7)],
  [(49, .iconst 3), (50, .goto 44), (53, .lload 5), (55, .ldc2_w 231), (58, .lcmp), (59, .ifCond .ne 7), (62, .iconst 4), (63, .goto 31)],
  [(66, .lload 5), (68, .ldc2_w 233), (71, .lcmp), (72, .ifCond .ne 7), (75, .iconst 5), (76, .goto 18), (79, .lload 5)],
  [(81, .ldc2_w 235), (84, .lcmp), (85, .ifCond .ne 8), (88, .bipush 6), (90, .goto 4), (93, .iconst 0), (94, .istore 7)],
  [(96, .iload 7), (98, .ifCond .le 20), (101, .aload_n 0), (102, .iload_n 1), (103, .iload 7), (105, .iconst 0), (106, .iconst 0), (107, .iload 4), (109, .iconst 2), (110, .iadd), (111, .invokevirtual 425)],
  [(114, .istore_n 3), (115, .goto 25), (118, .lload 5), (120, .ldc2_w 225), (123, .lcmp), (124, .ifCond .eq 16), (127, .lload 5)],
  [(129, .ldc2_w 227), (132, .lcmp), (133, .ifCond .eq 7), (136, .sipush (-401)), (139, .istore_n 3), (140, .aload_n 0), (141, .iload 4), (143, .iconst 1)],
  [(144, .invokevirtual 158), (147, .istore 4), (149, .goto (-126)), (152, .iload_n 3), (153, .ireturn)]])
theorem mt_g301 : mx_goodB mt_q301 = true := by decide +kernel
/-- PeopleStoreModel.perform(IIIII)I -/
def mt_q302 : mt_Q := (⟨"PeopleStoreModel", "perform", "(IIIII)I"⟩, prog_11_method_82_code, 9, (some .int), 6, 25, [[(0, .iconst 0), (1, .istore 6), (3, .iload 6), (5, .iconst 5), (6, .if_icmp .ge 17), (9, .aload_n 0), (10, .getfield 79), (13, .iload 6), (15, .iconst 0)],
  [(16, .bastore), (17, .iinc 6 1), (20, .goto (-17)), (23, .iconst 0), (24, .istore 6), (26, .iload 6), (28, .aload_n 0), (29, .bipush 8), (31, .bipush 19)],
  [(33, .invokevirtual 171), (36, .if_icmp .ge 47), (39, .iload_n 2), (40, .bipush 6), (42, .if_icmp .le 41), (45, .aload_n 0), (46, .getfield 76)],
  [(49, .iload 6), (51, .iload_n 2), (52, .bipush 9), (54, .if_icmp .lt 17), (57, .aload_n 0), (58, .bipush 8), (60, .iload_n 3), (61, .iload 4), (63, .iload 6)],
  [(65, .invokevirtual 386), (68, .ifCond .eq 7), (71, .iconst 1), (72, .goto 4), (75, .iconst 0), (76, .bastore), (77, .iinc 6 1)],
  [(80, .goto (-54)), (83, .iload_n 2), (84, .bipush 6), (86, .if_icmp .ge 14), (89, .aload_n 0), (90, .iload_n 1), (91, .iload_n 2), (92, .iload 5), (94, .invokevirtual 415)],
  [(97, .goto 43), (100, .iload_n 2), (101, .bipush 6), (103, .if_icmp .ne 13), (106, .aload_n 0), (107, .iload_n 1), (108, .iload 5), (110, .invokevirtual 419)],
  [(113, .goto 27), (116, .aload_n 0), (117, .iload_n 1), (118, .iload_n 2), (119, .bipush 9), (121, .if_icmp .ge 10), (124, .iload_n 2), (125, .bipush 6), (127, .isub)],
  [(128, .goto 7), (131, .iload_n 2), (132, .bipush 9), (134, .isub), (135, .iload 5), (137, .invokevirtual 422), (140, .istore 6), (142, .iload 6)],
  [(144, .ifCond .ge 6), (147, .iload 6), (149, .ireturn), (150, .iconst (-1)), (151, .istore 7), (153, .iconst 4), (154, .istore 8), (156, .iload 8), (158, .ifCond .lt 28)],
  [(161, .aload_n 0), (162, .getfield 79), (165, .iload 8), (167, .baload), (168, .ifCond .eq 8), (171, .iload 8), (173, .goto 5)],
  [(176, .iload 7), (178, .istore 7), (180, .iinc 8 (-1)), (183, .goto (-27)), (186, .iconst 0), (187, .istore 8), (189, .iload 8), (191, .aload_n 0)],
  [(192, .bipush 8), (194, .bipush 19), (196, .invokevirtual 171), (199, .if_icmp .ge 56), (202, .iload 7), (204, .ifCond .lt 51), (207, .iload 8)],
  [(209, .iload 7), (211, .if_icmp .eq 38), (214, .aload_n 0), (215, .bipush 8), (217, .aload_n 0), (218, .iload 8), (220, .invokevirtual 198), (223, .bipush 13)],
  [(225, .iadd), (226, .invokevirtual 171), (229, .iconst 1), (230, .if_icmp .ne 19), (233, .aload_n 0), (234, .bipush 8), (236, .aload_n 0), (237, .iload 8), (239, .invokevirtual 198)],
  [(242, .bipush 13), (244, .iadd), (245, .iconst 2), (246, .invokevirtual 175), (249, .iinc 8 1), (252, .goto (-63)), (255, .aload_n 0)],
  [(256, .invokevirtual 217), (259, .ifCond .eq 9), (262, .sipush (-401)), (265, .goto 4), (268, .iconst 0), (269, .ireturn)]])
theorem mt_g302 : mx_goodB mt_q302 = true := by decide +kernel
/-- PeopleStoreModel.itemMatches(IIII)Z -/
def mt_q303 : mt_Q := (⟨"PeopleStoreModel", "itemMatches", "(IIII)Z"⟩, prog_11_method_71_code, 7, (some .boolean), 5, 25, [[(0, .iconst 0), (1, .istore 5), (3, .iload_n 2), (4, .istore 6), (6, .iload 6), (8, .iload_n 3), (9, .if_icmp .ge 161), (12, .aload_n 0), (13, .getfield 36)],
  [(16, .iload 6), (18, .iaload), (19, .ifCond .ne 25), (22, .aload_n 0), (23, .getfield 58), (26, .iload 5), (28, .aload_n 0), (29, .iload_n 1), (30, .iload 6)],
  [(32, .iload 4), (34, .invokevirtual 382), (37, .bastore), (38, .iinc 5 1), (41, .goto 123), (44, .aload_n 0), (45, .getfield 36)],
  [(48, .iload 6), (50, .iaload), (51, .iconst 3), (52, .if_icmp .ne 32), (55, .aload_n 0), (56, .getfield 58), (59, .iload 5), (61, .iconst 1), (62, .isub), (63, .aload_n 0)],
  [(64, .getfield 58), (67, .iload 5), (69, .iconst 1), (70, .isub), (71, .baload), (72, .ifCond .ne 7), (75, .iconst 1), (76, .goto 4), (79, .iconst 0)],
  [(80, .bastore), (81, .goto 83), (84, .iinc 5 (-1)), (87, .aload_n 0), (88, .getfield 58), (91, .iload 5), (93, .iconst 1), (94, .isub), (95, .aload_n 0)],
  [(96, .getfield 36), (99, .iload 6), (101, .iaload), (102, .iconst 1), (103, .if_icmp .ne 33), (106, .aload_n 0), (107, .getfield 58), (110, .iload 5)],
  [(112, .iconst 1), (113, .isub), (114, .baload), (115, .ifCond .eq 17), (118, .aload_n 0), (119, .getfield 58), (122, .iload 5), (124, .baload), (125, .ifCond .eq 7)],
  [(128, .iconst 1), (129, .goto 34), (132, .iconst 0), (133, .goto 30), (136, .aload_n 0), (137, .getfield 58), (140, .iload 5), (142, .iconst 1), (143, .isub)],
  [(144, .baload), (145, .ifCond .ne 13), (148, .aload_n 0), (149, .getfield 58), (152, .iload 5), (154, .baload), (155, .ifCond .eq 7), (158, .iconst 1), (159, .goto 4)],
  [(162, .iconst 0), (163, .bastore), (164, .iinc 6 1), (167, .goto (-161)), (170, .aload_n 0), (171, .getfield 58), (174, .iconst 0), (175, .baload)],
  [(176, .ireturn)]])
theorem mt_g303 : mx_goodB mt_q303 = true := by decide +kernel
def mt_qk18 : List mt_Q := [mt_q288, mt_q289, mt_q290, mt_q291, mt_q292, mt_q293, mt_q294, mt_q295, mt_q296, mt_q297, mt_q298, mt_q299, mt_q300, mt_q301, mt_q302, mt_q303]
theorem mt_gk18 : ∀ q ∈ mt_qk18, mx_goodB q = true := List.forall_mem_cons.mpr ⟨mt_g288, List.forall_mem_cons.mpr ⟨mt_g289, List.forall_mem_cons.mpr ⟨mt_g290, List.forall_mem_cons.mpr ⟨mt_g291, List.forall_mem_cons.mpr ⟨mt_g292, List.forall_mem_cons.mpr ⟨mt_g293, List.forall_mem_cons.mpr ⟨mt_g294, List.forall_mem_cons.mpr ⟨mt_g295, List.forall_mem_cons.mpr ⟨mt_g296, List.forall_mem_cons.mpr ⟨mt_g297, List.forall_mem_cons.mpr ⟨mt_g298, List.forall_mem_cons.mpr ⟨mt_g299, List.forall_mem_cons.mpr ⟨mt_g300, List.forall_mem_cons.mpr ⟨mt_g301, List.forall_mem_cons.mpr ⟨mt_g302, List.forall_mem_cons.mpr ⟨mt_g303, fun _ h => absurd h List.not_mem_nil⟩⟩⟩⟩⟩⟩⟩⟩⟩⟩⟩⟩⟩⟩⟩⟩
/-- PeopleStoreModel.termHolds(III)Z -/
def mt_q304 : mt_Q := (⟨"PeopleStoreModel", "termHolds", "(III)Z"⟩, prog_11_method_70_code, 4, (some .boolean), 4, 25, [[(0, .aload_n 0), (1, .getfield 48), (4, .iload_n 2), (5, .laload), (6, .ldc2_w 323), (9, .lcmp), (10, .ifCond .ne 24), (13, .aload_n 0), (14, .iload_n 1), (15, .iload_n 2)],
  [(16, .iload_n 3), (17, .ldc2_w 321), (20, .invokevirtual 378), (23, .ifCond .ne 7), (26, .iconst 1), (27, .goto 20), (30, .iconst 0), (31, .goto 16)],
  [(34, .aload_n 0), (35, .iload_n 1), (36, .iload_n 2), (37, .iload_n 3), (38, .aload_n 0), (39, .getfield 48), (42, .iload_n 2), (43, .laload), (44, .invokevirtual 378), (47, .ireturn)]])
theorem mt_g304 : mx_goodB mt_q304 = true := by decide +kernel
/-- PeopleStoreModel.anyHolds(IIIJ)Z -/
def mt_q305 : mt_Q := (⟨"PeopleStoreModel", "anyHolds", "(IIIJ)Z"⟩, prog_11_method_69_code, 11, (some .boolean), 5, 25, [[(0, .aload_n 0), (1, .getfield 42), (4, .iload_n 2), (5, .iaload), (6, .istore 6), (8, .aload_n 0), (9, .getfield 39), (12, .iload_n 2), (13, .iaload), (14, .tableswitch 146 1 5 #[34, 49, 64, 76, 111])],
  [],
  [],
  [(48, .aload_n 0), (49, .aload_n 0), (50, .iload_n 1), (51, .iconst 0), (52, .invokevirtual 171), (55, .iload 6), (57, .lload 4), (59, .invokevirtual 368), (62, .ireturn), (63, .aload_n 0)],
  [(64, .aload_n 0), (65, .iload_n 1), (66, .iconst 1), (67, .invokevirtual 171), (70, .iload 6), (72, .lload 4), (74, .invokevirtual 368), (77, .ireturn), (78, .aload_n 0), (79, .iload_n 1)],
  [(80, .iconst 2), (81, .iload 6), (83, .iconst 1), (84, .lload 4), (86, .invokevirtual 372), (89, .ireturn), (90, .aload_n 0), (91, .iload_n 1), (92, .bipush 15), (94, .invokevirtual 171)],
  [(97, .iconst 1), (98, .if_icmp .ne 25), (101, .aload_n 0), (102, .aload_n 0), (103, .iload_n 1), (104, .bipush 16), (106, .invokevirtual 171), (109, .iload 6), (111, .lload 4)],
  [(113, .invokevirtual 368), (116, .ifCond .eq 7), (119, .iconst 1), (120, .goto 4), (123, .iconst 0), (124, .ireturn), (125, .aload_n 0), (126, .iload_n 1), (127, .bipush 17)],
  [(129, .invokevirtual 171), (132, .iconst 1), (133, .if_icmp .ne 25), (136, .aload_n 0), (137, .aload_n 0), (138, .iload_n 1), (139, .bipush 18), (141, .invokevirtual 171)],
  [(144, .iload 6), (146, .lload 4), (148, .invokevirtual 375), (151, .ifCond .eq 7), (154, .iconst 1), (155, .goto 4), (158, .iconst 0), (159, .ireturn)],
  [(160, .iconst 0), (161, .istore 7), (163, .iconst 0), (164, .istore 8), (166, .iload 8), (168, .aload_n 0), (169, .iload_n 1), (170, .bipush 19), (172, .invokevirtual 171), (175, .if_icmp .ge 127)],
  [(178, .iload_n 3), (179, .ifCond .lt 9), (182, .iload_n 3), (183, .iload 8), (185, .if_icmp .ne 7), (188, .iconst 1), (189, .goto 4)],
  [(192, .iconst 0), (193, .istore 9), (195, .aload_n 0), (196, .getfield 39), (199, .iload_n 2), (200, .iaload), (201, .bipush 6), (203, .if_icmp .ne 22), (206, .aload_n 0), (207, .iload_n 1)],
  [(208, .aload_n 0), (209, .iload 8), (211, .invokevirtual 198), (214, .iload 6), (216, .iconst 0), (217, .lload 4), (219, .invokevirtual 372), (222, .goto 50)],
  [(225, .aload_n 0), (226, .iload_n 1), (227, .aload_n 0), (228, .iload 8), (230, .invokevirtual 198), (233, .bipush 13), (235, .iadd), (236, .invokevirtual 171), (239, .ifCond .le 32)],
  [(242, .aload_n 0), (243, .aload_n 0), (244, .iload_n 1), (245, .aload_n 0), (246, .iload 8), (248, .invokevirtual 198), (251, .bipush 13), (253, .iadd), (254, .invokevirtual 171)],
  [(257, .iload 6), (259, .lload 4), (261, .invokevirtual 375), (264, .ifCond .eq 7), (267, .iconst 1), (268, .goto 4), (271, .iconst 0)],
  [(272, .istore 10), (274, .iload 7), (276, .ifCond .ne 13), (279, .iload 9), (281, .ifCond .eq 12), (284, .iload 10), (286, .ifCond .eq 7)],
  [(289, .iconst 1), (290, .goto 4), (293, .iconst 0), (294, .istore 7), (296, .iinc 8 1), (299, .goto (-133)), (302, .iload 7)],
  [(304, .ireturn)]])
theorem mt_g305 : mx_goodB mt_q305 = true := by decide +kernel
/-- PeopleStoreModel.numberHolds(IIJ)Z -/
def mt_q306 : mt_Q := (⟨"PeopleStoreModel", "numberHolds", "(IIJ)Z"⟩, prog_11_method_67_code, 5, (some .boolean), 4, 25, [[(0, .lload_n 3), (1, .ldc2_w 325), (4, .lcmp), (5, .ifCond .eq 44), (8, .aload_n 0), (9, .lload_n 3), (10, .iload_n 1), (11, .i2l), (12, .aload_n 0), (13, .getfield 26)],
  [(16, .iload_n 2), (17, .laload), (18, .lcmp), (19, .ifCond .ge 7), (22, .iconst (-1)), (23, .goto 20), (26, .iload_n 1), (27, .i2l), (28, .aload_n 0), (29, .getfield 26)],
  [(32, .iload_n 2), (33, .laload), (34, .lcmp), (35, .ifCond .le 7), (38, .iconst 1), (39, .goto 4), (42, .iconst 0), (43, .invokevirtual 364), (46, .ifCond .eq 7)],
  [(49, .iconst 1), (50, .goto 4), (53, .iconst 0), (54, .ireturn)]])
theorem mt_g306 : mx_goodB mt_q306 = true := by decide +kernel
/-- PeopleStoreModel.asks(JI)Z -/
def mt_q307 : mt_Q := (⟨"PeopleStoreModel", "asks", "(JI)Z"⟩, prog_11_method_65_code, 4, (some .boolean), 3, 25, [[(0, .lload_n 1), (1, .ldc2_w 325), (4, .lcmp), (5, .ifCond .eq 63), (8, .lload_n 1), (9, .ldc2_w 321), (12, .lcmp), (13, .ifCond .ne 7)],
  [(16, .iload_n 3), (17, .ifCond .eq 51), (20, .lload_n 1), (21, .ldc2_w 306), (24, .lcmp), (25, .ifCond .ne 7), (28, .iload_n 3), (29, .ifCond .gt 39)],
  [(32, .lload_n 1), (33, .ldc2_w 308), (36, .lcmp), (37, .ifCond .ne 7), (40, .iload_n 3), (41, .ifCond .ge 27), (44, .lload_n 1), (45, .ldc2_w 310)],
  [(48, .lcmp), (49, .ifCond .ne 7), (52, .iload_n 3), (53, .ifCond .lt 15), (56, .lload_n 1), (57, .ldc2_w 312), (60, .lcmp), (61, .ifCond .ne 11)],
  [(64, .iload_n 3), (65, .ifCond .gt 7), (68, .iconst 1), (69, .goto 4), (72, .iconst 0), (73, .ireturn)]])
theorem mt_g307 : mx_goodB mt_q307 = true := by decide +kernel
/-- PeopleStoreModel.textHolds(IIIZJ)Z -/
def mt_q308 : mt_Q := (⟨"PeopleStoreModel", "textHolds", "(IIIZJ)Z"⟩, prog_11_method_66_code, 7, (some .boolean), 6, 25, [[(0, .lload 5), (2, .ldc2_w 325), (5, .lcmp), (6, .ifCond .eq 65), (9, .lload 5), (11, .ldc2_w 107), (14, .lcmp), (15, .ifCond .eq 21)],
  [(18, .lload 5), (20, .ldc2_w 314), (23, .lcmp), (24, .ifCond .eq 12), (27, .lload 5), (29, .ldc2_w 316)],
  [(32, .lcmp), (33, .ifCond .ne 20), (36, .aload_n 0), (37, .iload_n 1), (38, .iload_n 2), (39, .iload_n 3), (40, .iload 4), (42, .lload 5), (44, .invokevirtual 357), (47, .ifCond .eq 28)],
  [(50, .goto 21), (53, .aload_n 0), (54, .lload 5), (56, .aload_n 0), (57, .iload_n 1), (58, .iload_n 2), (59, .iload_n 3), (60, .iload 4), (62, .invokevirtual 361)],
  [(65, .invokevirtual 364), (68, .ifCond .eq 7), (71, .iconst 1), (72, .goto 4), (75, .iconst 0), (76, .ireturn)]])
theorem mt_g308 : mx_goodB mt_q308 = true := by decide +kernel
/-- PeopleStoreModel.partOf(IIIZJ)Z -/
def mt_q309 : mt_Q := (⟨"PeopleStoreModel", "partOf", "(IIIZJ)Z"⟩, prog_11_method_64_code, 12, (some .boolean), 6, 25, [[(0, .aload_n 0), (1, .iload_n 1), (2, .iload_n 2), (3, .invokevirtual 171), (6, .istore 7), (8, .aload_n 0), (9, .getfield 23), (12, .iload_n 3), (13, .iaload), (14, .istore 8)],
  [(16, .iconst 0), (17, .istore 9), (19, .iload 9), (21, .iload 8), (23, .iadd), (24, .iload 7), (26, .if_icmp .gt 119), (29, .lload 5), (31, .ldc2_w 107)],
  [(34, .lcmp), (35, .ifCond .eq 36), (38, .lload 5), (40, .ldc2_w 314), (43, .lcmp), (44, .ifCond .ne 8), (47, .iload 9)],
  [(49, .ifCond .eq 22), (52, .lload 5), (54, .ldc2_w 316), (57, .lcmp), (58, .ifCond .ne 17), (61, .iload 9), (63, .iload 8)],
  [(65, .iadd), (66, .iload 7), (68, .if_icmp .ne 7), (71, .iconst 1), (72, .goto 4), (75, .iconst 0), (76, .istore 10), (78, .iconst 0), (79, .istore 11)],
  [(81, .iload 11), (83, .iload 8), (85, .if_icmp .ge 47), (88, .iload 10), (90, .ifCond .eq 42), (93, .aload_n 0), (94, .iload_n 1), (95, .iload_n 2)],
  [(96, .iload 9), (98, .iload 11), (100, .iadd), (101, .iload 4), (103, .invokevirtual 353), (106, .aload_n 0), (107, .iload_n 3), (108, .iconst (-1)), (109, .iload 11), (111, .iload 4)],
  [(113, .invokevirtual 353), (116, .if_icmp .ne 7), (119, .iconst 1), (120, .goto 4), (123, .iconst 0), (124, .istore 10), (126, .iinc 11 1)],
  [(129, .goto (-48)), (132, .iload 10), (134, .ifCond .eq 5), (137, .iconst 1), (138, .ireturn), (139, .iinc 9 1), (142, .goto (-123))],
  [(145, .iconst 0), (146, .ireturn)]])
theorem mt_g309 : mx_goodB mt_q309 = true := by decide +kernel
/-- PeopleStoreModel.at(IIIZ)I -/
def mt_q310 : mt_Q := (⟨"PeopleStoreModel", "at", "(IIIZ)I"⟩, prog_11_method_62_code, 6, (some .int), 5, 25, [[(0, .iload_n 2), (1, .ifCond .ge 19), (4, .aload_n 0), (5, .getfield 30), (8, .aload_n 0), (9, .getfield 20), (12, .iload_n 1), (13, .iaload), (14, .iload_n 3), (15, .iadd)],
  [(16, .caload), (17, .goto 13), (20, .aload_n 0), (21, .iload_n 1), (22, .iload_n 2), (23, .iconst 1), (24, .iadd), (25, .iload_n 3), (26, .iadd), (27, .invokevirtual 171), (30, .istore 5)],
  [(32, .iload 4), (34, .ifCond .eq 11), (37, .iload 5), (39, .invokestatic 92), (42, .goto 5), (45, .iload 5), (47, .ireturn)]])
theorem mt_g310 : mx_goodB mt_q310 = true := by decide +kernel
/-- PeopleStoreModel.compareText(IIIZ)I -/
def mt_q311 : mt_Q := (⟨"PeopleStoreModel", "compareText", "(IIIZ)I"⟩, prog_11_method_63_code, 9, (some .int), 5, 25, [[(0, .aload_n 0), (1, .iload_n 1), (2, .iload_n 2), (3, .invokevirtual 171), (6, .istore 5), (8, .aload_n 0), (9, .getfield 23), (12, .iload_n 3), (13, .iaload), (14, .istore 6)],
  [(16, .iconst 0), (17, .istore 7), (19, .iload 7), (21, .iload 5), (23, .if_icmp .ge 47), (26, .iload 7), (28, .iload 6), (30, .if_icmp .ge 40)],
  [(33, .aload_n 0), (34, .iload_n 1), (35, .iload_n 2), (36, .iload 7), (38, .iload 4), (40, .invokevirtual 353), (43, .aload_n 0), (44, .iload_n 3), (45, .iconst (-1)), (46, .iload 7)],
  [(48, .iload 4), (50, .invokevirtual 353), (53, .isub), (54, .istore 8), (56, .iload 8), (58, .ifCond .eq 6), (61, .iload 8), (63, .ireturn)],
  [(64, .iinc 7 1), (67, .goto (-48)), (70, .iload 5), (72, .iload 6), (74, .isub), (75, .ireturn)]])
theorem mt_g311 : mx_goodB mt_q311 = true := by decide +kernel
/-- PeopleStoreModel.truthHolds(IIJ)Z -/
def mt_q312 : mt_Q := (⟨"PeopleStoreModel", "truthHolds", "(IIJ)Z"⟩, prog_11_method_68_code, 5, (some .boolean), 4, 25, [[(0, .lload_n 3), (1, .ldc2_w 325), (4, .lcmp), (5, .ifCond .eq 12), (8, .iload_n 1), (9, .aload_n 0), (10, .iload_n 2), (11, .invokevirtual 205), (14, .if_icmp .ne 7)],
  [(17, .iconst 1), (18, .goto 4), (21, .iconst 0), (22, .ireturn)]])
theorem mt_g312 : mx_goodB mt_q312 = true := by decide +kernel
/-- PeopleStoreModel.doPlain(III)I -/
def mt_q313 : mt_Q := (⟨"PeopleStoreModel", "doPlain", "(III)I"⟩, prog_11_method_76_code, 4, (some .int), 4, 25, [[(0, .iload_n 2), (1, .iconst 3), (2, .if_icmp .lt 14), (5, .iload_n 2), (6, .iconst 3), (7, .if_icmp .ne 13), (10, .iload_n 1), (11, .bipush 45), (13, .if_icmp .ne 7)],
  [(16, .sipush (-402)), (19, .ireturn), (20, .iload_n 1), (21, .bipush 45), (23, .if_icmp .ne 43), (26, .aload_n 0), (27, .bipush 8), (29, .iload_n 2), (30, .iconst 4), (31, .if_icmp .ne 8)],
  [(34, .bipush 15), (36, .goto 5), (39, .bipush 17), (41, .iconst 0), (42, .invokevirtual 175), (45, .aload_n 0), (46, .bipush 8)],
  [(48, .iload_n 2), (49, .iconst 4), (50, .if_icmp .ne 8), (53, .bipush 16), (55, .goto 5), (58, .bipush 18), (60, .iconst 0), (61, .invokevirtual 175)],
  [(64, .iconst 0), (65, .ireturn), (66, .iload_n 2), (67, .iconst 3), (68, .if_icmp .ne 14), (71, .aload_n 0), (72, .iload_n 3), (73, .invokevirtual 189), (76, .ifCond .ne 23), (79, .goto 16)],
  [(82, .aload_n 0), (83, .iload_n 3), (84, .invokevirtual 149), (87, .aload_n 0), (88, .iload_n 2), (89, .invokevirtual 318), (92, .if_icmp .eq 7), (95, .sipush (-401))],
  [(98, .ireturn), (99, .aload_n 0), (100, .iload_n 2), (101, .iconst 3), (102, .if_icmp .ne 9), (105, .ldc2_w 229), (108, .goto 17), (111, .iload_n 2)],
  [(112, .iconst 4), (113, .if_icmp .ne 9), (116, .ldc2_w 231), (119, .goto 6), (122, .ldc2_w 233), (125, .iload_n 3), (126, .invokevirtual 240)],
  [(129, .iconst 0), (130, .ireturn)]])
theorem mt_g313 : mx_goodB mt_q313 = true := by decide +kernel
/-- PeopleStoreModel.doMail(II)I -/
def mt_q314 : mt_Q := (⟨"PeopleStoreModel", "doMail", "(II)I"⟩, prog_11_method_78_code, 6, (some .int), 3, 25, [[(0, .iload_n 1), (1, .bipush 45), (3, .if_icmp .ne 14), (6, .aload_n 0), (7, .bipush 8), (9, .bipush 19), (11, .iconst 0), (12, .invokevirtual 175), (15, .iconst 0)],
  [(16, .ireturn), (17, .aload_n 0), (18, .iload_n 2), (19, .iconst 1), (20, .invokevirtual 194), (23, .istore_n 3), (24, .iload_n 3), (25, .ifCond .ne 15), (28, .aload_n 0), (29, .iload_n 2), (30, .invokevirtual 211)],
  [(33, .ifCond .ne 7), (36, .sipush (-401)), (39, .ireturn), (40, .iload_n 1), (41, .bipush 61), (43, .if_icmp .ne 12), (46, .aload_n 0), (47, .bipush 8)],
  [(49, .bipush 19), (51, .iconst 0), (52, .invokevirtual 175), (55, .iload_n 3), (56, .ifCond .eq 11), (59, .aload_n 0), (60, .iload_n 2), (61, .invokevirtual 405)],
  [(64, .ifCond .eq 7), (67, .iconst 1), (68, .goto 4), (71, .iconst 0), (72, .istore 4), (74, .iload_n 3), (75, .ifCond .eq 7), (78, .iconst (-1)), (79, .goto 8)],
  [(82, .aload_n 0), (83, .iload_n 2), (84, .invokevirtual 155), (87, .istore 5), (89, .iload 5), (91, .ifCond .lt 28), (94, .iload 4)],
  [(96, .ifCond .eq 23), (99, .aload_n 0), (100, .iload 5), (102, .invokevirtual 405), (105, .istore 4), (107, .aload_n 0), (108, .iload 5), (110, .iconst 0), (111, .invokevirtual 158)],
  [(114, .istore 5), (116, .goto (-27)), (119, .iload 4), (121, .ifCond .eq 7), (124, .iconst 0), (125, .goto 6)],
  [(128, .sipush (-413)), (131, .ireturn)]])
theorem mt_g314 : mx_goodB mt_q314 = true := by decide +kernel
/-- PeopleStoreModel.addItem(I)Z -/
def mt_q315 : mt_Q := (⟨"PeopleStoreModel", "addItem", "(I)Z"⟩, prog_11_method_77_code, 5, (some .boolean), 2, 25, [[(0, .aload_n 0), (1, .bipush 8), (3, .bipush 19), (5, .invokevirtual 171), (8, .istore_n 2), (9, .aload_n 0), (10, .iload_n 1), (11, .invokevirtual 402), (14, .istore_n 3), (15, .aload_n 0)],
  [(16, .iload_n 1), (17, .ldc2_w 192), (20, .invokevirtual 185), (23, .istore 4), (25, .iload_n 3), (26, .iload_n 2), (27, .if_icmp .ge 21), (30, .iload 4)],
  [(32, .ifCond .lt 14), (35, .aload_n 0), (36, .iload_n 3), (37, .aload_n 0), (38, .iload 4), (40, .invokevirtual 205), (43, .invokevirtual 208), (46, .iconst 1), (47, .ireturn)],
  [(48, .iload_n 2), (49, .iconst 4), (50, .if_icmp .ne 5), (53, .iconst 0), (54, .ireturn), (55, .aload_n 0), (56, .bipush 8), (58, .bipush 19), (60, .iload_n 2), (61, .iconst 1), (62, .iadd), (63, .invokevirtual 175)],
  [(66, .aload_n 0), (67, .bipush 8), (69, .aload_n 0), (70, .iload_n 2), (71, .invokevirtual 198), (74, .bipush 13), (76, .iadd), (77, .iconst 0), (78, .invokevirtual 175)],
  [(81, .aload_n 0), (82, .iload_n 2), (83, .iload_n 1), (84, .invokevirtual 214), (87, .iconst 1), (88, .ireturn)]])
theorem mt_g315 : mx_goodB mt_q315 = true := by decide +kernel
/-- PeopleStoreModel.itemWith(I)I -/
def mt_q316 : mt_Q := (⟨"PeopleStoreModel", "itemWith", "(I)I"⟩, prog_11_method_35_code, 6, (some .int), 2, 25, [[(0, .aload_n 0), (1, .iload_n 1), (2, .ldc2_w 183), (5, .invokevirtual 185), (8, .istore_n 2), (9, .iconst 0), (10, .istore_n 3), (11, .iconst 0), (12, .istore 4), (14, .iload_n 3), (15, .aload_n 0)],
  [(16, .bipush 8), (18, .bipush 19), (20, .invokevirtual 171), (23, .if_icmp .ge 116), (26, .iload 4), (28, .ifCond .ne 111), (31, .aload_n 0)],
  [(32, .bipush 8), (34, .aload_n 0), (35, .iload_n 3), (36, .invokevirtual 198), (39, .invokevirtual 171), (42, .aload_n 0), (43, .getfield 23), (46, .iload_n 2), (47, .iaload)],
  [(48, .if_icmp .ne 7), (51, .iconst 1), (52, .goto 4), (55, .iconst 0), (56, .istore 4), (58, .iconst 0), (59, .istore 5), (61, .iload 5), (63, .aload_n 0)],
  [(64, .getfield 23), (67, .iload_n 2), (68, .iaload), (69, .if_icmp .ge 54), (72, .iload 4), (74, .ifCond .eq 49), (77, .aload_n 0), (78, .bipush 8)],
  [(80, .aload_n 0), (81, .iload_n 3), (82, .invokevirtual 198), (85, .iconst 1), (86, .iadd), (87, .iload 5), (89, .iadd), (90, .invokevirtual 171), (93, .aload_n 0), (94, .getfield 30)],
  [(97, .aload_n 0), (98, .getfield 20), (101, .iload_n 2), (102, .iaload), (103, .iload 5), (105, .iadd), (106, .caload), (107, .if_icmp .ne 7), (110, .iconst 1), (111, .goto 4)],
  [(114, .iconst 0), (115, .istore 4), (117, .iinc 5 1), (120, .goto (-59)), (123, .iload 4), (125, .ifCond .eq 7)],
  [(128, .iload_n 3), (129, .goto 6), (132, .iload_n 3), (133, .iconst 1), (134, .iadd), (135, .istore_n 3), (136, .goto (-122)), (139, .iload_n 3), (140, .ireturn)]])
theorem mt_g316 : mx_goodB mt_q316 = true := by decide +kernel
/-- PeopleStoreModel.doChosen(III)I -/
def mt_q317 : mt_Q := (⟨"PeopleStoreModel", "doChosen", "(III)I"⟩, prog_11_method_80_code, 7, (some .int), 4, 25, [[(0, .iconst 1), (1, .istore 4), (3, .iconst 0), (4, .istore 5), (6, .iload 5), (8, .aload_n 0), (9, .bipush 8), (11, .bipush 19), (13, .invokevirtual 171)],
  [(16, .if_icmp .ge 31), (19, .iload 4), (21, .ifCond .eq 17), (24, .aload_n 0), (25, .getfield 76), (28, .iload 5), (30, .baload), (31, .ifCond .ne 7)],
  [(34, .iconst 1), (35, .goto 4), (38, .iconst 0), (39, .istore 4), (41, .iinc 5 1), (44, .goto (-38)), (47, .iload_n 1)],
  [(48, .bipush 45), (50, .if_icmp .ne 12), (53, .iload_n 2), (54, .iconst 1), (55, .if_icmp .ne 7), (58, .sipush (-402)), (61, .ireturn), (62, .iload_n 1), (63, .bipush 45)],
  [(65, .if_icmp .ne 11), (68, .iload_n 2), (69, .ifCond .ne 7), (72, .aload_n 0), (73, .invokevirtual 408), (76, .iload_n 1), (77, .bipush 45), (79, .if_icmp .ne 9)],
  [(82, .iload_n 2), (83, .ifCond .ne 5), (86, .iconst 0), (87, .ireturn), (88, .iload_n 1), (89, .bipush 45), (91, .if_icmp .eq 12), (94, .iload 4)],
  [(96, .ifCond .eq 7), (99, .sipush (-403)), (102, .ireturn), (103, .iload_n 1), (104, .bipush 45), (106, .if_icmp .eq 55), (109, .iload_n 2), (110, .iconst 1), (111, .if_icmp .ne 14)],
  [(114, .aload_n 0), (115, .iload_n 3), (116, .invokevirtual 189), (119, .ifCond .eq 46), (122, .goto 39), (125, .iload_n 2), (126, .iconst 2), (127, .if_icmp .ne 15)],
  [(130, .aload_n 0), (131, .iload_n 3), (132, .invokevirtual 149), (135, .iconst 3), (136, .if_icmp .ne 29), (139, .goto 22), (142, .aload_n 0), (143, .iload_n 3)],
  [(144, .iload_n 1), (145, .bipush 61), (147, .if_icmp .ne 7), (150, .iconst 1), (151, .goto 4), (154, .iconst 0), (155, .invokevirtual 194), (158, .ifCond .eq 7)],
  [(161, .iconst 1), (162, .goto 4), (165, .iconst 0), (166, .istore 5), (168, .iload 5), (170, .ifCond .ne 7), (173, .sipush (-401))],
  [(176, .ireturn), (177, .iconst 0), (178, .istore 6), (180, .iload 6), (182, .aload_n 0), (183, .bipush 8), (185, .bipush 19), (187, .invokevirtual 171), (190, .if_icmp .ge 28)],
  [(193, .aload_n 0), (194, .getfield 76), (197, .iload 6), (199, .baload), (200, .ifCond .eq 12), (203, .aload_n 0), (204, .iload 6), (206, .iload_n 1), (207, .iload_n 2)],
  [(208, .iload_n 3), (209, .invokevirtual 411), (212, .iinc 6 1), (215, .goto (-35)), (218, .iconst 0), (219, .ireturn)]])
theorem mt_g317 : mx_goodB mt_q317 = true := by decide +kernel
/-- PeopleStoreModel.dropChosen()V -/
def mt_q318 : mt_Q := (⟨"PeopleStoreModel", "dropChosen", "()V"⟩, prog_11_method_79_code, 4, none, 1, 25, [[(0, .iconst 0), (1, .istore_n 1), (2, .iconst 0), (3, .istore_n 2), (4, .iload_n 2), (5, .aload_n 0), (6, .bipush 8), (8, .bipush 19), (10, .invokevirtual 171), (13, .if_icmp .ge 75)],
  [(16, .iconst 0), (17, .istore_n 3), (18, .iload_n 3), (19, .bipush 14), (21, .if_icmp .ge 44), (24, .aload_n 0), (25, .getfield 76), (28, .iload_n 2), (29, .baload), (30, .ifCond .ne 35)],
  [(33, .aload_n 0), (34, .bipush 8), (36, .aload_n 0), (37, .iload_n 1), (38, .invokevirtual 198), (41, .iload_n 3), (42, .iadd), (43, .aload_n 0), (44, .bipush 8), (46, .aload_n 0), (47, .iload_n 2)],
  [(48, .invokevirtual 198), (51, .iload_n 3), (52, .iadd), (53, .invokevirtual 171), (56, .invokevirtual 175), (59, .iinc 3 1), (62, .goto (-44))],
  [(65, .aload_n 0), (66, .getfield 76), (69, .iload_n 2), (70, .baload), (71, .ifCond .eq 7), (74, .iload_n 1), (75, .goto 6), (78, .iload_n 1), (79, .iconst 1)],
  [(80, .iadd), (81, .istore_n 1), (82, .iinc 2 1), (85, .goto (-81)), (88, .aload_n 0), (89, .bipush 8), (91, .bipush 19), (93, .iload_n 1), (94, .invokevirtual 175)],
  [(97, .return_)]])
theorem mt_g318 : mx_goodB mt_q318 = true := by decide +kernel
/-- PeopleStoreModel.change(IIII)V -/
def mt_q319 : mt_Q := (⟨"PeopleStoreModel", "change", "(IIII)V"⟩, prog_11_method_81_code, 5, none, 5, 25, [[(0, .iload_n 3), (1, .iconst 1), (2, .if_icmp .ne 14), (5, .aload_n 0), (6, .aload_n 0), (7, .iload_n 1), (8, .invokevirtual 198), (11, .iload 4), (13, .invokevirtual 201)],
  [(16, .iload_n 3), (17, .iconst 2), (18, .if_icmp .ne 20), (21, .iload_n 2), (22, .bipush 45), (24, .if_icmp .eq 14), (27, .aload_n 0), (28, .iload_n 1), (29, .aload_n 0), (30, .iload 4)],
  [(32, .invokevirtual 205), (35, .invokevirtual 208), (38, .iload_n 3), (39, .iconst 2), (40, .if_icmp .ne 9), (43, .iload_n 2), (44, .bipush 45), (46, .if_icmp .eq 13)],
  [(49, .iload_n 3), (50, .ifCond .ne 24), (53, .iload_n 2), (54, .bipush 61), (56, .if_icmp .ne 18), (59, .aload_n 0), (60, .bipush 8), (62, .aload_n 0), (63, .iload_n 1)],
  [(64, .invokevirtual 198), (67, .bipush 13), (69, .iadd), (70, .iconst 0), (71, .invokevirtual 175), (74, .iload_n 3), (75, .ifCond .ne 10), (78, .aload_n 0), (79, .iload_n 1)],
  [(80, .iload 4), (82, .invokevirtual 214), (85, .return_)]])
theorem mt_g319 : mx_goodB mt_q319 = true := by decide +kernel
def mt_qk19 : List mt_Q := [mt_q304, mt_q305, mt_q306, mt_q307, mt_q308, mt_q309, mt_q310, mt_q311, mt_q312, mt_q313, mt_q314, mt_q315, mt_q316, mt_q317, mt_q318, mt_q319]
theorem mt_gk19 : ∀ q ∈ mt_qk19, mx_goodB q = true := List.forall_mem_cons.mpr ⟨mt_g304, List.forall_mem_cons.mpr ⟨mt_g305, List.forall_mem_cons.mpr ⟨mt_g306, List.forall_mem_cons.mpr ⟨mt_g307, List.forall_mem_cons.mpr ⟨mt_g308, List.forall_mem_cons.mpr ⟨mt_g309, List.forall_mem_cons.mpr ⟨mt_g310, List.forall_mem_cons.mpr ⟨mt_g311, List.forall_mem_cons.mpr ⟨mt_g312, List.forall_mem_cons.mpr ⟨mt_g313, List.forall_mem_cons.mpr ⟨mt_g314, List.forall_mem_cons.mpr ⟨mt_g315, List.forall_mem_cons.mpr ⟨mt_g316, List.forall_mem_cons.mpr ⟨mt_g317, List.forall_mem_cons.mpr ⟨mt_g318, List.forall_mem_cons.mpr ⟨mt_g319, fun _ h => absurd h List.not_mem_nil⟩⟩⟩⟩⟩⟩⟩⟩⟩⟩⟩⟩⟩⟩⟩⟩
/-- PeopleStoreModel.query(IZII)I -/
def mt_q320 : mt_Q := (⟨"PeopleStoreModel", "query", "(IZII)I"⟩, prog_11_method_91_code, 6, (some .int), 5, 25, [[(0, .aload_n 0), (1, .iload_n 1), (2, .iload_n 2), (3, .iload_n 3), (4, .iload 4), (6, .invokevirtual 457), (9, .istore 5), (11, .aload_n 0), (12, .iconst 0), (13, .putfield 88)],
  [(16, .iload 5), (18, .ireturn)]])
theorem mt_g320 : mx_goodB mt_q320 = true := by decide +kernel
/-- PeopleStoreModel.queried(IZII)I -/
def mt_q321 : mt_Q := (⟨"PeopleStoreModel", "queried", "(IZII)I"⟩, prog_11_method_90_code, 8, (some .int), 5, 25, [[(0, .aload_n 0), (1, .iconst 0), (2, .putfield 280), (5, .aload_n 0), (6, .invokevirtual 244), (9, .ifCond .ne 7), (12, .sipush (-400)), (15, .ireturn)],
  [(16, .aload_n 0), (17, .getfield 109), (20, .ifCond .le 20), (23, .aload_n 0), (24, .iconst 0), (25, .iconst 0), (26, .invokevirtual 393), (29, .aload_n 0), (30, .getfield 109)],
  [(33, .if_icmp .eq 7), (36, .sipush (-400)), (39, .ireturn), (40, .iload_n 1), (41, .ifCond .lt 8), (44, .iload_n 1), (45, .iconst 4), (46, .if_icmp .le 7)],
  [(49, .sipush (-401)), (52, .ireturn), (53, .iconst 0), (54, .istore 5), (56, .iconst 0), (57, .istore 6), (59, .iload 6), (61, .bipush 8), (63, .if_icmp .ge 95)],
  [(66, .aload_n 0), (67, .iload 6), (69, .iconst 0), (70, .invokevirtual 171), (73, .ifCond .le 79), (76, .aload_n 0), (77, .iload 6), (79, .aload_n 0)],
  [(80, .getfield 280), (83, .invokevirtual 447), (86, .ifCond .eq 66), (89, .iload 5), (91, .istore 7), (93, .iload 7), (95, .ifCond .le 45)],
  [(98, .aload_n 0), (99, .iload 6), (101, .aload_n 0), (102, .getfield 85), (105, .iload 7), (107, .iconst 1), (108, .isub), (109, .iaload), (110, .iload_n 1), (111, .iload_n 2)],
  [(112, .invokevirtual 450), (115, .ifCond .eq 25), (118, .aload_n 0), (119, .getfield 85), (122, .iload 7), (124, .aload_n 0), (125, .getfield 85)],
  [(128, .iload 7), (130, .iconst 1), (131, .isub), (132, .iaload), (133, .iastore), (134, .iinc 7 (-1)), (137, .goto (-44)), (140, .aload_n 0), (141, .getfield 85)],
  [(144, .iload 7), (146, .iload 6), (148, .iastore), (149, .iinc 5 1), (152, .iinc 6 1), (155, .goto (-96)), (158, .aload_n 0), (159, .iconst 0)],
  [(160, .putfield 454), (163, .iconst 0), (164, .istore 6), (166, .iload 6), (168, .iload 5), (170, .if_icmp .ge 57), (173, .iload 6), (175, .iconst 1)],
  [(176, .iadd), (177, .iload_n 3), (178, .if_icmp .lt 43), (181, .aload_n 0), (182, .getfield 454), (185, .iload 4), (187, .if_icmp .ge 34), (190, .aload_n 0), (191, .getfield 82)],
  [(194, .aload_n 0), (195, .getfield 454), (198, .aload_n 0), (199, .aload_n 0), (200, .getfield 85), (203, .iload 6), (205, .iaload), (206, .iconst 0), (207, .invokevirtual 171)],
  [(210, .iastore), (211, .aload_n 0), (212, .dup), (213, .getfield 454), (216, .iconst 1), (217, .iadd), (218, .putfield 454), (221, .iinc 6 1)],
  [(224, .goto (-58)), (227, .iload 5), (229, .ireturn)]])
theorem mt_g321 : mx_goodB mt_q321 = true := by decide +kernel
/-- PeopleStoreModel.matches(II)Z -/
def mt_q322 : mt_Q := (⟨"PeopleStoreModel", "matches", "(II)Z"⟩, prog_11_method_72_code, 8, (some .boolean), 3, 25, [[(0, .iconst 0), (1, .istore_n 3), (2, .iconst 0), (3, .istore 4), (5, .iload 4), (7, .iload_n 2), (8, .if_icmp .ge 248), (11, .aload_n 0), (12, .getfield 36), (15, .iload 4)],
  [(17, .iaload), (18, .istore 5), (20, .iload 5), (22, .ifCond .eq 9), (25, .iload 5), (27, .iconst 4), (28, .if_icmp .ne 100), (31, .iload 5)],
  [(33, .ifCond .ne 18), (36, .aload_n 0), (37, .iload_n 1), (38, .iload 4), (40, .iconst (-1)), (41, .invokevirtual 382), (44, .ifCond .eq 7), (47, .iconst 1)],
  [(48, .goto 4), (51, .iconst 0), (52, .istore 6), (54, .iconst 0), (55, .istore 7), (57, .iload 7), (59, .aload_n 0), (60, .iload_n 1), (61, .bipush 19), (63, .invokevirtual 171)],
  [(66, .if_icmp .ge 48), (69, .iload 5), (71, .iconst 4), (72, .if_icmp .ne 42), (75, .iload 6), (77, .ifCond .ne 24)],
  [(80, .aload_n 0), (81, .iload_n 1), (82, .iload 4), (84, .iconst 1), (85, .iadd), (86, .aload_n 0), (87, .getfield 45), (90, .iload 4), (92, .iaload), (93, .iload 7), (95, .invokevirtual 386)],
  [(98, .ifCond .eq 7), (101, .iconst 1), (102, .goto 4), (105, .iconst 0), (106, .istore 6), (108, .iinc 7 1), (111, .goto (-54))],
  [(114, .aload_n 0), (115, .getfield 54), (118, .iload_n 3), (119, .iload 6), (121, .bastore), (122, .iinc 3 1), (125, .goto 106)],
  [(128, .iload 5), (130, .iconst 3), (131, .if_icmp .ne 30), (134, .aload_n 0), (135, .getfield 54), (138, .iload_n 3), (139, .iconst 1), (140, .isub), (141, .aload_n 0), (142, .getfield 54)],
  [(145, .iload_n 3), (146, .iconst 1), (147, .isub), (148, .baload), (149, .ifCond .ne 7), (152, .iconst 1), (153, .goto 4), (156, .iconst 0), (157, .bastore), (158, .goto 73)],
  [(161, .iinc 3 (-1)), (164, .aload_n 0), (165, .getfield 54), (168, .iload_n 3), (169, .iconst 1), (170, .isub), (171, .iload 5), (173, .iconst 1), (174, .if_icmp .ne 31)],
  [(177, .aload_n 0), (178, .getfield 54), (181, .iload_n 3), (182, .iconst 1), (183, .isub), (184, .baload), (185, .ifCond .eq 16), (188, .aload_n 0), (189, .getfield 54)],
  [(192, .iload_n 3), (193, .baload), (194, .ifCond .eq 7), (197, .iconst 1), (198, .goto 32), (201, .iconst 0), (202, .goto 28), (205, .aload_n 0), (206, .getfield 54)],
  [(209, .iload_n 3), (210, .iconst 1), (211, .isub), (212, .baload), (213, .ifCond .ne 12), (216, .aload_n 0), (217, .getfield 54), (220, .iload_n 3), (221, .baload), (222, .ifCond .eq 7)],
  [(225, .iconst 1), (226, .goto 4), (229, .iconst 0), (230, .bastore), (231, .iload 5), (233, .iconst 4), (234, .if_icmp .ne 13), (237, .aload_n 0), (238, .getfield 45)],
  [(241, .iload 4), (243, .iaload), (244, .goto 7), (247, .iload 4), (249, .iconst 1), (250, .iadd), (251, .istore 4), (253, .goto (-248))],
  [(256, .iload_n 2), (257, .ifCond .eq 12), (260, .aload_n 0), (261, .getfield 54), (264, .iconst 0), (265, .baload), (266, .ifCond .eq 7), (269, .iconst 1), (270, .goto 4)],
  [(273, .iconst 0), (274, .ireturn)]])
theorem mt_g322 : mx_goodB mt_q322 = true := by decide +kernel
/-- PeopleStoreModel.before(IIIZ)Z -/
def mt_q323 : mt_Q := (⟨"PeopleStoreModel", "before", "(IIIZ)Z"⟩, prog_11_method_89_code, 8, (some .boolean), 5, 25, [[(0, .aload_n 0), (1, .iload_n 1), (2, .iload_n 3), (3, .invokevirtual 441), (6, .istore 5), (8, .aload_n 0), (9, .iload_n 2), (10, .iload_n 3), (11, .invokevirtual 441), (14, .istore 6)],
  [(16, .iload 5), (18, .iload 6), (20, .if_icmp .eq 16), (23, .iload 5), (25, .iload 4), (27, .if_icmp .eq 7), (30, .iconst 1), (31, .goto 4)],
  [(34, .iconst 0), (35, .ireturn), (36, .iload 5), (38, .ifCond .eq 13), (41, .aload_n 0), (42, .iload_n 1), (43, .iload_n 2), (44, .iload_n 3), (45, .invokevirtual 444)],
  [(48, .goto 4), (51, .iconst 0), (52, .istore 7), (54, .iload 7), (56, .ifCond .ne 26), (59, .aload_n 0), (60, .iload_n 1), (61, .iconst 0), (62, .invokevirtual 171)],
  [(65, .aload_n 0), (66, .iload_n 2), (67, .iconst 0), (68, .invokevirtual 171), (71, .if_icmp .ge 7), (74, .iconst 1), (75, .goto 27), (78, .iconst 0), (79, .goto 23)],
  [(82, .iload 7), (84, .ifCond .ge 7), (87, .iconst 1), (88, .goto 4), (91, .iconst 0), (92, .iload 4), (94, .if_icmp .eq 7)],
  [(97, .iconst 1), (98, .goto 4), (101, .iconst 0), (102, .ireturn)]])
theorem mt_g323 : mx_goodB mt_q323 = true := by decide +kernel
/-- PeopleStoreModel.hasValue(II)Z -/
def mt_q324 : mt_Q := (⟨"PeopleStoreModel", "hasValue", "(II)Z"⟩, prog_11_method_86_code, 3, (some .boolean), 3, 25, [[(0, .iload_n 2), (1, .iconst 2), (2, .if_icmp .lt 50), (5, .iload_n 2), (6, .iconst 2), (7, .if_icmp .ne 14), (10, .aload_n 0), (11, .iload_n 1), (12, .bipush 15), (14, .invokevirtual 171)],
  [(17, .iconst 1), (18, .if_icmp .eq 34), (21, .iload_n 2), (22, .iconst 3), (23, .if_icmp .ne 14), (26, .aload_n 0), (27, .iload_n 1), (28, .bipush 17), (30, .invokevirtual 171)],
  [(33, .iconst 1), (34, .if_icmp .eq 18), (37, .iload_n 2), (38, .iconst 4), (39, .if_icmp .ne 17), (42, .aload_n 0), (43, .iload_n 1), (44, .bipush 19), (46, .invokevirtual 171)],
  [(49, .ifCond .le 7), (52, .iconst 1), (53, .goto 4), (56, .iconst 0), (57, .ireturn)]])
theorem mt_g324 : mx_goodB mt_q324 = true := by decide +kernel
/-- PeopleStoreModel.compareBy(III)I -/
def mt_q325 : mt_Q := (⟨"PeopleStoreModel", "compareBy", "(III)I"⟩, prog_11_method_88_code, 8, (some .int), 4, 25, [[(0, .iload_n 3), (1, .iconst 1), (2, .if_icmp .eq 8), (5, .iload_n 3), (6, .iconst 4), (7, .if_icmp .ne 117), (10, .aload_n 0), (11, .iload_n 1), (12, .iload_n 3), (13, .invokevirtual 438)],
  [(16, .istore 4), (18, .aload_n 0), (19, .iload_n 2), (20, .iload_n 3), (21, .invokevirtual 438), (24, .istore 5), (26, .iconst 0), (27, .istore 6), (29, .iload 6), (31, .aload_n 0)],
  [(32, .iload_n 1), (33, .iload 4), (35, .invokevirtual 171), (38, .if_icmp .ge 70), (41, .iload 6), (43, .aload_n 0), (44, .iload_n 2), (45, .iload 5), (47, .invokevirtual 171)],
  [(50, .if_icmp .ge 58), (53, .aload_n 0), (54, .iload_n 1), (55, .iload 4), (57, .iload 6), (59, .iload_n 3), (60, .iconst 1), (61, .if_icmp .ne 7)],
  [(64, .iconst 1), (65, .goto 4), (68, .iconst 0), (69, .invokevirtual 353), (72, .aload_n 0), (73, .iload_n 2), (74, .iload 5), (76, .iload 6), (78, .iload_n 3), (79, .iconst 1)],
  [(80, .if_icmp .ne 7), (83, .iconst 1), (84, .goto 4), (87, .iconst 0), (88, .invokevirtual 353), (91, .isub), (92, .istore 7), (94, .iload 7)],
  [(96, .ifCond .eq 6), (99, .iload 7), (101, .ireturn), (102, .iinc 6 1), (105, .goto (-76)), (108, .aload_n 0), (109, .iload_n 1), (110, .iload 4)],
  [(112, .invokevirtual 171), (115, .aload_n 0), (116, .iload_n 2), (117, .iload 5), (119, .invokevirtual 171), (122, .isub), (123, .ireturn), (124, .iload_n 3), (125, .ifCond .ne 12)],
  [(128, .aload_n 0), (129, .iload_n 1), (130, .iconst 0), (131, .invokevirtual 171), (134, .goto 26), (137, .iload_n 3), (138, .iconst 2), (139, .if_icmp .ne 13), (142, .aload_n 0), (143, .iload_n 1)],
  [(144, .bipush 16), (146, .invokevirtual 171), (149, .goto 11), (152, .aload_n 0), (153, .iload_n 1), (154, .bipush 18), (156, .invokevirtual 171), (159, .ineg)],
  [(160, .istore 4), (162, .iload_n 3), (163, .ifCond .ne 12), (166, .aload_n 0), (167, .iload_n 2), (168, .iconst 0), (169, .invokevirtual 171), (172, .goto 26), (175, .iload_n 3)],
  [(176, .iconst 2), (177, .if_icmp .ne 13), (180, .aload_n 0), (181, .iload_n 2), (182, .bipush 16), (184, .invokevirtual 171), (187, .goto 11), (190, .aload_n 0), (191, .iload_n 2)],
  [(192, .bipush 18), (194, .invokevirtual 171), (197, .ineg), (198, .istore 5), (200, .iload 4), (202, .iload 5), (204, .if_icmp .ge 7), (207, .iconst (-1))],
  [(208, .goto 15), (211, .iload 4), (213, .iload 5), (215, .if_icmp .le 7), (218, .iconst 1), (219, .goto 4), (222, .iconst 0), (223, .ireturn)]])
theorem mt_g325 : mx_goodB mt_q325 = true := by decide +kernel
/-- PeopleStoreModel.textOf(II)I -/
def mt_q326 : mt_Q := (⟨"PeopleStoreModel", "textOf", "(II)I"⟩, prog_11_method_87_code, 5, (some .int), 3, 25, [[(0, .iconst 0), (1, .istore_n 3), (2, .aload_n 0), (3, .iload_n 1), (4, .bipush 19), (6, .invokevirtual 171), (9, .iconst 1), (10, .isub), (11, .istore 4), (13, .iload 4), (15, .ifCond .lt 34)],
  [(18, .aload_n 0), (19, .iload_n 1), (20, .aload_n 0), (21, .iload 4), (23, .invokevirtual 198), (26, .bipush 13), (28, .iadd), (29, .invokevirtual 171)],
  [(32, .iconst 1), (33, .if_icmp .ne 8), (36, .iload 4), (38, .goto 4), (41, .iload_n 3), (42, .istore_n 3), (43, .iinc 4 (-1)), (46, .goto (-33))],
  [(49, .iload_n 2), (50, .iconst 1), (51, .if_icmp .ne 7), (54, .iconst 2), (55, .goto 8), (58, .aload_n 0), (59, .iload_n 3), (60, .invokevirtual 198), (63, .ireturn)]])
theorem mt_g326 : mx_goodB mt_q326 = true := by decide +kernel
/-- PeopleStoreModel.page(I)I -/
def mt_q327 : mt_Q := (⟨"PeopleStoreModel", "page", "(I)I"⟩, prog_11_method_92_code, 2, (some .int), 2, 25, [[(0, .iload_n 1), (1, .ifCond .lt 20), (4, .iload_n 1), (5, .aload_n 0), (6, .getfield 454), (9, .if_icmp .ge 12), (12, .aload_n 0), (13, .getfield 82)],
  [(16, .iload_n 1), (17, .iaload), (18, .goto 6), (21, .sipush (-404)), (24, .ireturn)]])
theorem mt_g327 : mx_goodB mt_q327 = true := by decide +kernel
/-- PeopleStoreModel.resources()I -/
def mt_q328 : mt_Q := (⟨"PeopleStoreModel", "resources", "()I"⟩, prog_11_method_93_code, 3, (some .int), 1, 25, [[(0, .iconst 0), (1, .istore_n 1), (2, .iconst 0), (3, .istore_n 2), (4, .iload_n 2), (5, .bipush 8), (7, .if_icmp .ge 26), (10, .aload_n 0), (11, .iload_n 2), (12, .iconst 0), (13, .invokevirtual 171)],
  [(16, .ifCond .le 9), (19, .iload_n 1), (20, .iconst 1), (21, .iadd), (22, .goto 4), (25, .iload_n 1), (26, .istore_n 1), (27, .iinc 2 1), (30, .goto (-26))],
  [(33, .iload_n 1), (34, .ireturn)]])
theorem mt_g328 : mx_goodB mt_q328 = true := by decide +kernel
/-- PeopleStoreModel.version(I)I -/
def mt_q329 : mt_Q := (⟨"PeopleStoreModel", "version", "(I)I"⟩, prog_11_method_94_code, 3, (some .int), 2, 25, [[(0, .aload_n 0), (1, .iload_n 1), (2, .invokevirtual 274), (5, .istore_n 2), (6, .iload_n 2), (7, .ifCond .ge 9), (10, .sipush (-404)), (13, .goto 9)],
  [(16, .aload_n 0), (17, .iload_n 2), (18, .iconst 1), (19, .invokevirtual 171), (22, .ireturn)]])
theorem mt_g329 : mx_goodB mt_q329 = true := by decide +kernel
/-- PeopleStoreModel.length(I)I -/
def mt_q330 : mt_Q := (⟨"PeopleStoreModel", "length", "(I)I"⟩, prog_11_method_102_code, 3, (some .int), 2, 25, [[(0, .aload_n 0), (1, .iload_n 1), (2, .invokevirtual 274), (5, .istore_n 2), (6, .iload_n 2), (7, .ifCond .ge 7), (10, .sipush (-404)), (13, .ireturn), (14, .aload_n 0), (15, .iload_n 2)],
  [(16, .iconst (-1)), (17, .invokevirtual 489), (20, .aload_n 0), (21, .getfield 461), (24, .ireturn)]])
theorem mt_g330 : mx_goodB mt_q330 = true := by decide +kernel
/-- PeopleStoreModel.write(II)V -/
def mt_q331 : mt_Q := (⟨"PeopleStoreModel", "write", "(II)V"⟩, prog_11_method_101_code, 4, none, 3, 25, [[(0, .aload_n 0), (1, .iload_n 2), (2, .putfield 464), (5, .aload_n 0), (6, .iconst 0), (7, .putfield 461), (10, .aload_n 0), (11, .iconst 0), (12, .putfield 467), (15, .aload_n 0)],
  [(16, .bipush 123), (18, .invokevirtual 470), (21, .aload_n 0), (22, .ldc2_w 225), (25, .invokevirtual 477), (28, .aload_n 0), (29, .aload_n 0), (30, .iload_n 1), (31, .iconst 0)],
  [(32, .invokevirtual 171), (35, .invokevirtual 483), (38, .aload_n 0), (39, .bipush 44), (41, .invokevirtual 470), (44, .aload_n 0), (45, .ldc2_w 227)],
  [(48, .invokevirtual 477), (51, .aload_n 0), (52, .aload_n 0), (53, .iload_n 1), (54, .iconst 1), (55, .invokevirtual 171), (58, .invokevirtual 483), (61, .aload_n 0), (62, .bipush 44)],
  [(64, .invokevirtual 470), (67, .aload_n 0), (68, .ldc2_w 229), (71, .invokevirtual 477), (74, .aload_n 0), (75, .iload_n 1), (76, .iconst 2), (77, .invokevirtual 480)],
  [(80, .aload_n 0), (81, .iload_n 1), (82, .bipush 15), (84, .invokevirtual 171), (87, .iconst 1), (88, .if_icmp .ne 27), (91, .aload_n 0), (92, .bipush 44), (94, .invokevirtual 470)],
  [(97, .aload_n 0), (98, .ldc2_w 231), (101, .invokevirtual 477), (104, .aload_n 0), (105, .aload_n 0), (106, .iload_n 1), (107, .bipush 16), (109, .invokevirtual 171)],
  [(112, .invokevirtual 483), (115, .aload_n 0), (116, .iload_n 1), (117, .bipush 17), (119, .invokevirtual 171), (122, .iconst 1), (123, .if_icmp .ne 40), (126, .aload_n 0), (127, .bipush 44)],
  [(129, .invokevirtual 470), (132, .aload_n 0), (133, .ldc2_w 233), (136, .invokevirtual 477), (139, .aload_n 0), (140, .aload_n 0), (141, .iload_n 1), (142, .bipush 18)],
  [(144, .invokevirtual 171), (147, .iconst 1), (148, .if_icmp .ne 9), (151, .ldc2_w 134), (154, .goto 6), (157, .ldc2_w 140)],
  [(160, .invokevirtual 473), (163, .aload_n 0), (164, .iload_n 1), (165, .bipush 19), (167, .invokevirtual 171), (170, .ifCond .le 16), (173, .aload_n 0), (174, .bipush 44)],
  [(176, .invokevirtual 470), (179, .aload_n 0), (180, .ldc2_w 235), (183, .invokevirtual 477), (186, .iconst 0), (187, .istore_n 3), (188, .iload_n 3), (189, .aload_n 0), (190, .iload_n 1), (191, .bipush 19)],
  [(193, .invokevirtual 171), (196, .if_icmp .ge 15), (199, .aload_n 0), (200, .iload_n 1), (201, .iload_n 3), (202, .invokevirtual 486), (205, .iinc 3 1)],
  [(208, .goto (-20)), (211, .aload_n 0), (212, .iload_n 1), (213, .bipush 19), (215, .invokevirtual 171), (218, .ifCond .le 9), (221, .aload_n 0), (222, .bipush 93)],
  [(224, .invokevirtual 470), (227, .aload_n 0), (228, .bipush 125), (230, .invokevirtual 470), (233, .return_)]])
theorem mt_g331 : mx_goodB mt_q331 = true := by decide +kernel
/-- PeopleStoreModel.out(I)V -/
def mt_q332 : mt_Q := (⟨"PeopleStoreModel", "out", "(I)V"⟩, prog_11_method_95_code, 2, none, 2, 25, [[(0, .aload_n 0), (1, .aload_n 0), (2, .getfield 461), (5, .aload_n 0), (6, .getfield 464), (9, .if_icmp .ne 7), (12, .iload_n 1), (13, .goto 7)],
  [(16, .aload_n 0), (17, .getfield 467), (20, .putfield 467), (23, .aload_n 0), (24, .dup), (25, .getfield 461), (28, .iconst 1), (29, .iadd), (30, .putfield 461)],
  [(33, .return_)]])
theorem mt_g332 : mx_goodB mt_q332 = true := by decide +kernel
/-- PeopleStoreModel.outName(J)V -/
def mt_q333 : mt_Q := (⟨"PeopleStoreModel", "outName", "(J)V"⟩, prog_11_method_97_code, 3, none, 2, 25, [[(0, .aload_n 0), (1, .bipush 34), (3, .invokevirtual 470), (6, .aload_n 0), (7, .lload_n 1), (8, .invokevirtual 473), (11, .aload_n 0), (12, .bipush 34), (14, .invokevirtual 470)],
  [(17, .aload_n 0), (18, .bipush 58), (20, .invokevirtual 470), (23, .return_)]])
theorem mt_g333 : mx_goodB mt_q333 = true := by decide +kernel
/-- PeopleStoreModel.outWord(J)V -/
def mt_q334 : mt_Q := (⟨"PeopleStoreModel", "outWord", "(J)V"⟩, prog_11_method_96_code, 7, none, 2, 25, [[(0, .lconst 1), (1, .lstore_n 3), (2, .lload_n 3), (3, .lload_n 1), (4, .ldc2_w 105), (7, .ldiv), (8, .lcmp), (9, .ifCond .gt 12), (12, .lload_n 3), (13, .ldc2_w 105)],
  [(16, .lmul), (17, .lstore_n 3), (18, .goto (-16)), (21, .lload_n 3), (22, .lstore 5), (24, .lload 5), (26, .lconst 0), (27, .lcmp), (28, .ifCond .le 30), (31, .aload_n 0)],
  [(32, .lload_n 1), (33, .lload 5), (35, .ldiv), (36, .ldc2_w 105), (39, .lrem), (40, .l2i), (41, .bipush 96), (43, .iadd), (44, .invokevirtual 470), (47, .lload 5)],
  [(49, .ldc2_w 105), (52, .ldiv), (53, .lstore 5), (55, .goto (-31)), (58, .return_)]])
theorem mt_g334 : mx_goodB mt_q334 = true := by decide +kernel
/-- PeopleStoreModel.outNumber(I)V -/
def mt_q335 : mt_Q := (⟨"PeopleStoreModel", "outNumber", "(I)V"⟩, prog_11_method_98_code, 8, none, 2, 25, [[(0, .iload_n 1), (1, .ifCond .ge 9), (4, .iload_n 1), (5, .i2l), (6, .lneg), (7, .goto 5), (10, .iload_n 1), (11, .i2l), (12, .lstore_n 2), (13, .iload_n 1), (14, .ifCond .ge 9)],
  [(17, .aload_n 0), (18, .bipush 45), (20, .invokevirtual 470), (23, .lconst 1), (24, .lstore 4), (26, .lload 4), (28, .lload_n 2), (29, .ldc2_w 115)],
  [(32, .ldiv), (33, .lcmp), (34, .ifCond .gt 14), (37, .lload 4), (39, .ldc2_w 115), (42, .lmul), (43, .lstore 4), (45, .goto (-19))],
  [(48, .lload 4), (50, .lstore 6), (52, .lload 6), (54, .lconst 0), (55, .lcmp), (56, .ifCond .le 30), (59, .aload_n 0), (60, .lload_n 2), (61, .lload 6), (63, .ldiv)],
  [(64, .ldc2_w 115), (67, .lrem), (68, .l2i), (69, .bipush 48), (71, .iadd), (72, .invokevirtual 470), (75, .lload 6), (77, .ldc2_w 115)],
  [(80, .ldiv), (81, .lstore 6), (83, .goto (-31)), (86, .return_)]])
theorem mt_g335 : mx_goodB mt_q335 = true := by decide +kernel
def mt_qk20 : List mt_Q := [mt_q320, mt_q321, mt_q322, mt_q323, mt_q324, mt_q325, mt_q326, mt_q327, mt_q328, mt_q329, mt_q330, mt_q331, mt_q332, mt_q333, mt_q334, mt_q335]
theorem mt_gk20 : ∀ q ∈ mt_qk20, mx_goodB q = true := List.forall_mem_cons.mpr ⟨mt_g320, List.forall_mem_cons.mpr ⟨mt_g321, List.forall_mem_cons.mpr ⟨mt_g322, List.forall_mem_cons.mpr ⟨mt_g323, List.forall_mem_cons.mpr ⟨mt_g324, List.forall_mem_cons.mpr ⟨mt_g325, List.forall_mem_cons.mpr ⟨mt_g326, List.forall_mem_cons.mpr ⟨mt_g327, List.forall_mem_cons.mpr ⟨mt_g328, List.forall_mem_cons.mpr ⟨mt_g329, List.forall_mem_cons.mpr ⟨mt_g330, List.forall_mem_cons.mpr ⟨mt_g331, List.forall_mem_cons.mpr ⟨mt_g332, List.forall_mem_cons.mpr ⟨mt_g333, List.forall_mem_cons.mpr ⟨mt_g334, List.forall_mem_cons.mpr ⟨mt_g335, fun _ h => absurd h List.not_mem_nil⟩⟩⟩⟩⟩⟩⟩⟩⟩⟩⟩⟩⟩⟩⟩⟩
/-- PeopleStoreModel.outText(II)V -/
def mt_q336 : mt_Q := (⟨"PeopleStoreModel", "outText", "(II)V"⟩, prog_11_method_99_code, 5, none, 3, 25, [[(0, .aload_n 0), (1, .bipush 34), (3, .invokevirtual 470), (6, .iconst 0), (7, .istore_n 3), (8, .iload_n 3), (9, .aload_n 0), (10, .iload_n 1), (11, .iload_n 2), (12, .invokevirtual 171), (15, .if_icmp .ge 47)],
  [(18, .aload_n 0), (19, .iload_n 1), (20, .iload_n 2), (21, .iconst 1), (22, .iadd), (23, .iload_n 3), (24, .iadd), (25, .invokevirtual 171), (28, .istore 4), (30, .iload 4)],
  [(32, .bipush 34), (34, .if_icmp .eq 10), (37, .iload 4), (39, .bipush 92), (41, .if_icmp .ne 9), (44, .aload_n 0), (45, .bipush 92), (47, .invokevirtual 470)],
  [(50, .aload_n 0), (51, .iload 4), (53, .invokevirtual 470), (56, .iinc 3 1), (59, .goto (-51)), (62, .aload_n 0), (63, .bipush 34)],
  [(65, .invokevirtual 470), (68, .return_)]])
theorem mt_g336 : mx_goodB mt_q336 = true := by decide +kernel
/-- PeopleStoreModel.outItem(II)V -/
def mt_q337 : mt_Q := (⟨"PeopleStoreModel", "outItem", "(II)V"⟩, prog_11_method_100_code, 4, none, 3, 25, [[(0, .aload_n 0), (1, .iload_n 1), (2, .aload_n 0), (3, .iload_n 2), (4, .invokevirtual 198), (7, .bipush 13), (9, .iadd), (10, .invokevirtual 171), (13, .istore_n 3), (14, .aload_n 0), (15, .iload_n 2)],
  [(16, .ifCond .ne 8), (19, .bipush 91), (21, .goto 5), (24, .bipush 44), (26, .invokevirtual 470), (29, .aload_n 0), (30, .bipush 123)],
  [(32, .invokevirtual 470), (35, .aload_n 0), (36, .ldc2_w 183), (39, .invokevirtual 477), (42, .aload_n 0), (43, .iload_n 1), (44, .aload_n 0), (45, .iload_n 2), (46, .invokevirtual 198)],
  [(49, .invokevirtual 480), (52, .iload_n 3), (53, .ifCond .le 34), (56, .aload_n 0), (57, .bipush 44), (59, .invokevirtual 470), (62, .aload_n 0), (63, .ldc2_w 192)],
  [(66, .invokevirtual 477), (69, .aload_n 0), (70, .iload_n 3), (71, .iconst 1), (72, .if_icmp .ne 9), (75, .ldc2_w 134), (78, .goto 6)],
  [(81, .ldc2_w 140), (84, .invokevirtual 473), (87, .aload_n 0), (88, .bipush 125), (90, .invokevirtual 470), (93, .return_)]])
theorem mt_g337 : mx_goodB mt_q337 = true := by decide +kernel
/-- PeopleStoreModel.letter(II)I -/
def mt_q338 : mt_Q := (⟨"PeopleStoreModel", "letter", "(II)I"⟩, prog_11_method_103_code, 4, (some .int), 3, 25, [[(0, .aload_n 0), (1, .iload_n 1), (2, .invokevirtual 274), (5, .istore_n 3), (6, .iload_n 3), (7, .ifCond .ge 5), (10, .iconst 0), (11, .ireturn), (12, .aload_n 0), (13, .iload_n 3), (14, .iload_n 2), (15, .invokevirtual 489)],
  [(18, .aload_n 0), (19, .getfield 467), (22, .ireturn)]])
theorem mt_g338 : mx_goodB mt_q338 = true := by decide +kernel
def mt_qk21 : List mt_Q := [mt_q336, mt_q337, mt_q338]
theorem mt_gk21 : ∀ q ∈ mt_qk21, mx_goodB q = true := List.forall_mem_cons.mpr ⟨mt_g336, List.forall_mem_cons.mpr ⟨mt_g337, List.forall_mem_cons.mpr ⟨mt_g338, fun _ h => absurd h List.not_mem_nil⟩⟩⟩
