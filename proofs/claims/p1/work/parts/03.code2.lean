/-- java/util/ArrayList.remove(I)Ljava/lang/Object; -/
def mt_q192 : mt_Q := (⟨"java/util/ArrayList", "remove", "(I)Ljava/lang/Object;"⟩, prog_26_method_29_code, 4, (some (.object "java/lang/Object")), 2, 6, [[(0, .iload_n 1), (1, .aload_n 0), (2, .getfield 48), (5, .invokestatic 118), (8, .pop), (9, .aload_n 0), (10, .getfield 9), (13, .astore_n 2), (14, .aload_n 2), (15, .iload_n 1)],
  [(16, .aaload), (17, .astore_n 3), (18, .aload_n 0), (19, .aload_n 2), (20, .iload_n 1), (21, .invokevirtual 144), (24, .aload_n 3), (25, .areturn)]])
theorem mt_g192 : mx_goodB mt_q192 = true := by decide +kernel
/-- java/util/ArrayList.fastRemove([Ljava/lang/Object;I)V -/
def mt_q193 : mt_Q := (⟨"java/util/ArrayList", "fastRemove", "([Ljava/lang/Object;I)V"⟩, prog_26_method_39_code, 4, none, 3, 6, [[(0, .aload_n 0), (1, .dup), (2, .getfield 63), (5, .iconst 1), (6, .iadd), (7, .putfield 63), (10, .aload_n 0), (11, .getfield 48), (14, .iconst 1), (15, .isub)],
  [(16, .dup), (17, .istore_n 3), (18, .iload_n 2), (19, .if_icmp .le 15), (22, .aload_n 1), (23, .iload_n 2), (24, .iconst 1), (25, .iadd), (26, .aload_n 1), (27, .iload_n 2), (28, .iload_n 3), (29, .iload_n 2), (30, .isub), (31, .invokestatic 112)],
  [(34, .aload_n 1), (35, .aload_n 0), (36, .iload_n 3), (37, .dup_x1), (38, .putfield 48), (41, .aconst_null), (42, .aastore), (43, .return_)]])
theorem mt_g193 : mx_goodB mt_q193 = true := by decide +kernel
/-- PeopleStore$Item.become(LPeopleStore$Item;)V -/
def mt_q194 : mt_Q := (⟨"PeopleStore$Item", "become", "(LPeopleStore$Item;)V"⟩, prog_5_method_8_code, 2, none, 2, 20, [[(0, .aload_n 0), (1, .aload_n 1), (2, .getfield 7), (5, .putfield 7), (8, .aload_n 0), (9, .aload_n 1), (10, .getfield 13), (13, .invokevirtual 82)],
  [(16, .return_)]])
theorem mt_g194 : mx_goodB mt_q194 = true := by decide +kernel
/-- PeopleStore$Item.gain(LPeopleStore$Item;)V -/
def mt_q195 : mt_Q := (⟨"PeopleStore$Item", "gain", "(LPeopleStore$Item;)V"⟩, prog_5_method_9_code, 2, none, 2, 20, [[(0, .aload_n 1), (1, .getfield 7), (4, .ifnull 11), (7, .aload_n 0), (8, .aload_n 1), (9, .getfield 7), (12, .putfield 7), (15, .aload_n 1)],
  [(16, .getfield 13), (19, .ifnull 11), (22, .aload_n 0), (23, .aload_n 1), (24, .getfield 13), (27, .invokevirtual 82), (30, .return_)]])
theorem mt_g195 : mx_goodB mt_q195 = true := by decide +kernel
/-- PeopleStore$Operation.applyToMail(LPeopleStore$Person;LPeopleStore$Value;)I -/
def mt_q196 : mt_Q := (⟨"PeopleStore$Operation", "applyToMail", "(LPeopleStore$Person;LPeopleStore$Value;)I"⟩, prog_6_method_9_code, 5, (some .int), 3, 23, [[(0, .aload_n 0), (1, .getfield 17), (4, .bipush 45), (6, .if_icmp .eq 7), (9, .aload_n 2), (10, .ifnonnull 12), (13, .aload_n 1), (14, .getfield 140)],
  [(17, .invokevirtual 144), (20, .iconst 0), (21, .ireturn), (22, .aload_n 2), (23, .invokestatic 149), (26, .astore_n 3), (27, .aload_n 3), (28, .ifnonnull 7), (31, .sipush (-401))],
  [(34, .ireturn), (35, .aload_n 0), (36, .getfield 17), (39, .bipush 61), (41, .if_icmp .ne 10), (44, .aload_n 1), (45, .getfield 140)],
  [(48, .invokevirtual 144), (51, .iconst 0), (52, .istore 4), (54, .iload 4), (56, .aload_n 3), (57, .invokevirtual 155), (60, .if_icmp .ge 29), (63, .aload_n 1)],
  [(64, .aload_n 3), (65, .iload 4), (67, .invokevirtual 158), (70, .checkcast 150), (73, .invokevirtual 162), (76, .ifCond .ne 7), (79, .sipush (-413))],
  [(82, .ireturn), (83, .iinc 4 1), (86, .goto (-32)), (89, .aload_n 1), (90, .invokestatic 166), (93, .ireturn)]])
theorem mt_g196 : mx_goodB mt_q196 = true := by decide +kernel
/-- java/util/ArrayList.clear()V -/
def mt_q197 : mt_Q := (⟨"java/util/ArrayList", "clear", "()V"⟩, prog_26_method_40_code, 4, none, 1, 6, [[(0, .aload_n 0), (1, .dup), (2, .getfield 63), (5, .iconst 1), (6, .iadd), (7, .putfield 63), (10, .aload_n 0), (11, .getfield 9), (14, .astore_n 1), (15, .aload_n 0)],
  [(16, .getfield 48), (19, .istore_n 2), (20, .aload_n 0), (21, .iconst 0), (22, .dup_x1), (23, .putfield 48), (26, .istore_n 3), (27, .iload_n 3), (28, .iload_n 2), (29, .if_icmp .ge 13)],
  [(32, .aload_n 1), (33, .iload_n 3), (34, .aconst_null), (35, .aastore), (36, .iinc 3 1), (39, .goto (-12)), (42, .return_)]])
theorem mt_g197 : mx_goodB mt_q197 = true := by decide +kernel
/-- PeopleStore$Person.merge(LPeopleStore$Item;)Z -/
def mt_q198 : mt_Q := (⟨"PeopleStore$Person", "merge", "(LPeopleStore$Item;)Z"⟩, prog_8_method_12_code, 3, (some .boolean), 2, 18, [[(0, .iconst 0), (1, .istore_n 2), (2, .iload_n 2), (3, .aload_n 0), (4, .getfield 12), (7, .invokevirtual 86), (10, .if_icmp .ge 50), (13, .aload_n 0), (14, .getfield 12)],
  [(17, .iload_n 2), (18, .invokevirtual 90), (21, .checkcast 70), (24, .getfield 110), (27, .aload_n 1), (28, .getfield 110), (31, .invokestatic 121)],
  [(34, .ifCond .eq 20), (37, .aload_n 0), (38, .getfield 12), (41, .iload_n 2), (42, .invokevirtual 90), (45, .checkcast 70)],
  [(48, .aload_n 1), (49, .invokevirtual 148), (52, .iconst 1), (53, .ireturn), (54, .iinc 2 1), (57, .goto (-55)), (60, .aload_n 0), (61, .getfield 12)],
  [(64, .invokevirtual 86), (67, .iconst 4), (68, .if_icmp .lt 5), (71, .iconst 0), (72, .ireturn), (73, .new 70), (76, .dup), (77, .aconst_null), (78, .aconst_null), (79, .invokespecial 116)],
  [(82, .astore_n 2), (83, .aload_n 2), (84, .aload_n 1), (85, .invokevirtual 152), (88, .aload_n 0), (89, .getfield 12), (92, .aload_n 2), (93, .invokevirtual 117)],
  [(96, .pop), (97, .iconst 1), (98, .ireturn)]])
theorem mt_g198 : mx_goodB mt_q198 = true := by decide +kernel
/-- PeopleStore$Operation.applyToPlain(LPeopleStore$Person;ILPeopleStore$Value;)I -/
def mt_q199 : mt_Q := (⟨"PeopleStore$Operation", "applyToPlain", "(LPeopleStore$Person;ILPeopleStore$Value;)I"⟩, prog_6_method_8_code, 5, (some .int), 4, 23, [[(0, .aload_n 0), (1, .getfield 17), (4, .bipush 45), (6, .if_icmp .ne 7), (9, .iconst 1), (10, .goto 4), (13, .iconst 0), (14, .istore 4)],
  [(16, .iload_n 2), (17, .invokestatic 103), (20, .ifCond .ne 13), (23, .iload 4), (25, .ifCond .eq 12), (28, .iload_n 2), (29, .iconst 2), (30, .if_icmp .ne 7)],
  [(33, .sipush (-402)), (36, .ireturn), (37, .iload 4), (39, .ifCond .ne 15), (42, .iload_n 2), (43, .aload_n 3), (44, .invokestatic 130), (47, .ifCond .ne 7)],
  [(50, .sipush (-401)), (53, .ireturn), (54, .aload_n 1), (55, .iload_n 2), (56, .aload_n 3), (57, .invokevirtual 134), (60, .iconst 0), (61, .ireturn)]])
theorem mt_g199 : mx_goodB mt_q199 = true := by decide +kernel
/-- PeopleStore.remove(II)I -/
def mt_q200 : mt_Q := (⟨"PeopleStore", "remove", "(II)I"⟩, prog_1_method_6_code, 5, (some .int), 3, 1, [[(0, .aload_n 0), (1, .iload_n 1), (2, .invokevirtual 79), (5, .istore_n 3), (6, .aload_n 0), (7, .iload_n 3), (8, .iload_n 2), (9, .invokevirtual 83), (12, .istore 4), (14, .iload 4)],
  [(16, .ifCond .ne 12), (19, .aload_n 0), (20, .getfield 19), (23, .iload_n 3), (24, .invokevirtual 116), (27, .pop), (28, .iload 4), (30, .ireturn)]])
theorem mt_g200 : mx_goodB mt_q200 = true := by decide +kernel
/-- PeopleStore.query(IZII)I -/
def mt_q201 : mt_Q := (⟨"PeopleStore", "query", "(IZII)I"⟩, prog_1_method_7_code, 10, (some .int), 5, 1, [[(0, .aload_n 0), (1, .getfield 10), (4, .invokevirtual 119), (7, .aload_n 0), (8, .getfield 10), (11, .iconst 0), (12, .invokevirtual 122), (15, .istore 5)],
  [(17, .iload 5), (19, .ifCond .eq 7), (22, .aconst_null), (23, .goto 12), (26, .aload_n 0), (27, .getfield 10), (30, .iconst 0), (31, .iconst 0)],
  [(32, .invokestatic 125), (35, .astore 6), (37, .aload_n 0), (38, .getfield 10), (41, .iconst 0), (42, .invokevirtual 122), (45, .istore 7), (47, .aload_n 0)],
  [(48, .getfield 10), (51, .invokevirtual 97), (54, .iload 5), (56, .ifCond .ne 17), (59, .aload 6), (61, .ifnull 8)],
  [(64, .iload 7), (66, .ifCond .ne 7), (69, .sipush (-400)), (72, .ireturn), (73, .iload_n 1), (74, .ifCond .lt 11), (77, .iload_n 1), (78, .getstatic 131)],
  [(81, .arraylength), (82, .if_icmp .lt 7), (85, .sipush (-401)), (88, .ireturn), (89, .aload_n 0), (90, .getfield 23), (93, .invokevirtual 134)],
  [(96, .iconst 0), (97, .istore 8), (99, .iload 8), (101, .aload_n 0), (102, .getfield 19), (105, .invokevirtual 71), (108, .if_icmp .ge 51), (111, .aload_n 0)],
  [(112, .getfield 19), (115, .iload 8), (117, .invokevirtual 100), (120, .checkcast 62), (123, .astore 9), (125, .aload 6), (127, .ifnull 14)],
  [(130, .aload 6), (132, .aload 9), (134, .aconst_null), (135, .invokevirtual 135), (138, .ifCond .eq 15), (141, .aload_n 0), (142, .aload 9)],
  [(144, .getstatic 131), (147, .iload_n 1), (148, .iaload), (149, .iload_n 2), (150, .invokevirtual 139), (153, .iinc 8 1), (156, .goto (-57)), (159, .aload_n 0)],
  [(160, .iload_n 3), (161, .iload 4), (163, .invokevirtual 143), (166, .aload_n 0), (167, .getfield 23), (170, .invokevirtual 71), (173, .ireturn)]])
theorem mt_g201 : mx_goodB mt_q201 = true := by decide +kernel
/-- PeopleStore.insertFound(LPeopleStore$Person;IZ)V -/
def mt_q202 : mt_Q := (⟨"PeopleStore", "insertFound", "(LPeopleStore$Person;IZ)V"⟩, prog_1_method_21_code, 5, none, 4, 1, [[(0, .aload_n 0), (1, .getfield 23), (4, .invokevirtual 71), (7, .istore 4), (9, .iload 4), (11, .ifCond .le 32), (14, .aload_n 1), (15, .aload_n 0)],
  [(16, .getfield 23), (19, .iload 4), (21, .iconst 1), (22, .isub), (23, .invokevirtual 100), (26, .checkcast 62), (29, .iload_n 2), (30, .iload_n 3), (31, .invokestatic 209)],
  [(34, .ifCond .eq 9), (37, .iinc 4 (-1)), (40, .goto (-31)), (43, .aload_n 0), (44, .getfield 23), (47, .iload 4)],
  [(49, .aload_n 1), (50, .invokevirtual 213), (53, .return_)]])
theorem mt_g202 : mx_goodB mt_q202 = true := by decide +kernel
/-- PeopleStore.comesBefore(LPeopleStore$Person;LPeopleStore$Person;IZ)Z -/
def mt_q203 : mt_Q := (⟨"PeopleStore", "comesBefore", "(LPeopleStore$Person;LPeopleStore$Person;IZ)Z"⟩, prog_1_method_22_code, 7, (some .boolean), 4, 1, [[(0, .aload_n 0), (1, .iload_n 2), (2, .invokevirtual 216), (5, .astore 4), (7, .aload_n 1), (8, .iload_n 2), (9, .invokevirtual 216), (12, .astore 5), (14, .aload 4)],
  [(16, .ifnull 8), (19, .aload 5), (21, .ifnonnull 29), (24, .aload 4), (26, .ifnonnull 7), (29, .iconst 1), (30, .goto 4)],
  [(33, .iconst 0), (34, .aload 5), (36, .ifnonnull 7), (39, .iconst 1), (40, .goto 4), (43, .iconst 0), (44, .isub), (45, .istore 6), (47, .goto 12)],
  [(50, .aload 4), (52, .aload 5), (54, .invokevirtual 220), (57, .istore 6), (59, .iload_n 3), (60, .ifCond .eq 16), (63, .iload 6)],
  [(65, .ifCond .le 7), (68, .iconst 1), (69, .goto 17), (72, .iconst 0), (73, .goto 13), (76, .iload 6), (78, .ifCond .ge 7)],
  [(81, .iconst 1), (82, .goto 4), (85, .iconst 0), (86, .ireturn)]])
theorem mt_g203 : mx_goodB mt_q203 = true := by decide +kernel
/-- PeopleStore$Person.sortValue(I)LPeopleStore$Value; -/
def mt_q204 : mt_Q := (⟨"PeopleStore$Person", "sortValue", "(I)LPeopleStore$Value;"⟩, prog_8_method_10_code, 3, (some (.object "PeopleStore$Value")), 2, 18, [[(0, .iload_n 1), (1, .iconst 5), (2, .if_icmp .eq 9), (5, .aload_n 0), (6, .iload_n 1), (7, .invokevirtual 142), (10, .areturn), (11, .iconst 0), (12, .istore_n 2), (13, .iload_n 2), (14, .aload_n 0), (15, .getfield 12)],
  [(18, .invokevirtual 86), (21, .if_icmp .ge 41), (24, .aload_n 0), (25, .getfield 12), (28, .iload_n 2), (29, .invokevirtual 90)],
  [(32, .checkcast 70), (35, .invokevirtual 94), (38, .ifCond .eq 18), (41, .aload_n 0), (42, .getfield 12), (45, .iload_n 2), (46, .invokevirtual 90)],
  [(49, .checkcast 70), (52, .getfield 110), (55, .areturn), (56, .iinc 2 1), (59, .goto (-46)), (62, .aload_n 0), (63, .getfield 12)],
  [(66, .invokevirtual 145), (69, .ifCond .eq 7), (72, .aconst_null), (73, .goto 17), (76, .aload_n 0), (77, .getfield 12)],
  [(80, .iconst 0), (81, .invokevirtual 90), (84, .checkcast 70), (87, .getfield 110), (90, .areturn)]])
theorem mt_g204 : mx_goodB mt_q204 = true := by decide +kernel
/-- java/util/ArrayList.isEmpty()Z -/
def mt_q205 : mt_Q := (⟨"java/util/ArrayList", "isEmpty", "()Z"⟩, prog_26_method_9_code, 1, (some .boolean), 1, 6, [[(0, .aload_n 0), (1, .getfield 48), (4, .ifCond .ne 7), (7, .iconst 1), (8, .goto 4), (11, .iconst 0), (12, .ireturn)]])
theorem mt_g205 : mx_goodB mt_q205 = true := by decide +kernel
/-- java/util/ArrayList.add(ILjava/lang/Object;)V -/
def mt_q206 : mt_Q := (⟨"java/util/ArrayList", "add", "(ILjava/lang/Object;)V"⟩, prog_26_method_26_code, 5, none, 3, 6, [[(0, .aload_n 0), (1, .iload_n 1), (2, .invokevirtual 135), (5, .aload_n 0), (6, .dup), (7, .getfield 63), (10, .iconst 1), (11, .iadd), (12, .putfield 63), (15, .aload_n 0)],
  [(16, .getfield 48), (19, .dup), (20, .istore_n 3), (21, .aload_n 0), (22, .getfield 9), (25, .dup), (26, .astore 4), (28, .arraylength), (29, .if_icmp .ne 9)],
  [(32, .aload_n 0), (33, .invokevirtual 129), (36, .astore 4), (38, .aload 4), (40, .iload_n 1), (41, .aload 4), (43, .iload_n 1), (44, .iconst 1), (45, .iadd), (46, .iload_n 3), (47, .iload_n 1)],
  [(48, .isub), (49, .invokestatic 112), (52, .aload 4), (54, .iload_n 1), (55, .aload_n 2), (56, .aastore), (57, .aload_n 0), (58, .iload_n 3), (59, .iconst 1), (60, .iadd), (61, .putfield 48)],
  [(64, .return_)]])
theorem mt_g206 : mx_goodB mt_q206 = true := by decide +kernel
/-- java/util/ArrayList.rangeCheckForAdd(I)V -/
def mt_q207 : mt_Q := (⟨"java/util/ArrayList", "rangeCheckForAdd", "(I)V"⟩, prog_26_method_45_code, 2, none, 2, 6, [[(0, .iload_n 1), (1, .aload_n 0), (2, .getfield 48), (5, .if_icmp .gt 7), (8, .iload_n 1), (9, .ifCond .ge 16), (12, .new 187), (15, .dup)],
  [(16, .aload_n 0), (17, .iload_n 1), (18, .invokevirtual 198), (21, .invokespecial 193), (24, .athrow), (25, .return_)]])
theorem mt_g207 : mx_goodB mt_q207 = true := by decide +kernel
def mt_qk12 : List mt_Q := [mt_q192, mt_q193, mt_q194, mt_q195, mt_q196, mt_q197, mt_q198, mt_q199, mt_q200, mt_q201, mt_q202, mt_q203, mt_q204, mt_q205, mt_q206, mt_q207]
theorem mt_gk12 : ∀ q ∈ mt_qk12, mx_goodB q = true := List.forall_mem_cons.mpr ⟨mt_g192, List.forall_mem_cons.mpr ⟨mt_g193, List.forall_mem_cons.mpr ⟨mt_g194, List.forall_mem_cons.mpr ⟨mt_g195, List.forall_mem_cons.mpr ⟨mt_g196, List.forall_mem_cons.mpr ⟨mt_g197, List.forall_mem_cons.mpr ⟨mt_g198, List.forall_mem_cons.mpr ⟨mt_g199, List.forall_mem_cons.mpr ⟨mt_g200, List.forall_mem_cons.mpr ⟨mt_g201, List.forall_mem_cons.mpr ⟨mt_g202, List.forall_mem_cons.mpr ⟨mt_g203, List.forall_mem_cons.mpr ⟨mt_g204, List.forall_mem_cons.mpr ⟨mt_g205, List.forall_mem_cons.mpr ⟨mt_g206, List.forall_mem_cons.mpr ⟨mt_g207, fun _ h => absurd h List.not_mem_nil⟩⟩⟩⟩⟩⟩⟩⟩⟩⟩⟩⟩⟩⟩⟩⟩
/-- PeopleStore.turnPage(II)V -/
def mt_q208 : mt_Q := (⟨"PeopleStore", "turnPage", "(II)V"⟩, prog_1_method_23_code, 4, none, 3, 1, [[(0, .aload_n 0), (1, .iconst 0), (2, .putfield 147), (5, .iload_n 1), (6, .iconst 1), (7, .invokestatic 224), (10, .iconst 1), (11, .isub), (12, .istore_n 3), (13, .iload_n 3), (14, .aload_n 0), (15, .getfield 23)],
  [(18, .invokevirtual 71), (21, .if_icmp .ge 53), (24, .aload_n 0), (25, .getfield 147), (28, .iload_n 2), (29, .if_icmp .ge 45)],
  [(32, .aload_n 0), (33, .getfield 26), (36, .aload_n 0), (37, .getfield 147), (40, .aload_n 0), (41, .getfield 23), (44, .iload_n 3), (45, .invokevirtual 100)],
  [(48, .checkcast 62), (51, .getfield 190), (54, .getfield 154), (57, .iastore), (58, .aload_n 0), (59, .dup), (60, .getfield 147), (63, .iconst 1)],
  [(64, .iadd), (65, .putfield 147), (68, .iinc 3 1), (71, .goto (-58)), (74, .return_)]])
theorem mt_g208 : mx_goodB mt_q208 = true := by decide +kernel
/-- PeopleStore.page(I)I -/
def mt_q209 : mt_Q := (⟨"PeopleStore", "page", "(I)I"⟩, prog_1_method_8_code, 2, (some .int), 2, 1, [[(0, .iload_n 1), (1, .ifCond .lt 20), (4, .iload_n 1), (5, .aload_n 0), (6, .getfield 147), (9, .if_icmp .ge 12), (12, .aload_n 0), (13, .getfield 26)],
  [(16, .iload_n 1), (17, .iaload), (18, .goto 6), (21, .sipush (-404)), (24, .ireturn)]])
theorem mt_g209 : mx_goodB mt_q209 = true := by decide +kernel
/-- PeopleStore.resources()I -/
def mt_q210 : mt_Q := (⟨"PeopleStore", "resources", "()I"⟩, prog_1_method_9_code, 1, (some .int), 1, 1, [[(0, .aload_n 0), (1, .getfield 19), (4, .invokevirtual 71), (7, .ireturn)]])
theorem mt_g210 : mx_goodB mt_q210 = true := by decide +kernel
/-- PeopleStore.version(I)I -/
def mt_q211 : mt_Q := (⟨"PeopleStore", "version", "(I)I"⟩, prog_1_method_10_code, 3, (some .int), 2, 1, [[(0, .aload_n 0), (1, .iload_n 1), (2, .invokevirtual 79), (5, .istore_n 2), (6, .iload_n 2), (7, .iconst (-1)), (8, .if_icmp .ne 9), (11, .sipush (-404)), (14, .goto 20)],
  [(17, .aload_n 0), (18, .getfield 19), (21, .iload_n 2), (22, .invokevirtual 100), (25, .checkcast 62), (28, .getfield 150), (31, .getfield 154)],
  [(34, .ireturn)]])
theorem mt_g211 : mx_goodB mt_q211 = true := by decide +kernel
/-- PeopleStore.length(I)I -/
def mt_q212 : mt_Q := (⟨"PeopleStore", "length", "(I)I"⟩, prog_1_method_11_code, 3, (some .int), 2, 1, [[(0, .aload_n 0), (1, .iload_n 1), (2, .invokevirtual 79), (5, .istore_n 2), (6, .iload_n 2), (7, .iconst (-1)), (8, .if_icmp .ne 7), (11, .sipush (-404)), (14, .ireturn), (15, .aload_n 0)],
  [(16, .iload_n 2), (17, .invokevirtual 159), (20, .aload_n 0), (21, .getfield 33), (24, .invokevirtual 163), (27, .ireturn)]])
theorem mt_g212 : mx_goodB mt_q212 = true := by decide +kernel
/-- PeopleStore.write(I)V -/
def mt_q213 : mt_Q := (⟨"PeopleStore", "write", "(I)V"⟩, prog_1_method_24_code, 2, none, 2, 1, [[(0, .aload_n 0), (1, .getfield 33), (4, .iconst 0), (5, .invokevirtual 229), (8, .aload_n 0), (9, .getfield 19), (12, .iload_n 1), (13, .invokevirtual 100)],
  [(16, .checkcast 62), (19, .aload_n 0), (20, .getfield 33), (23, .invokevirtual 232), (26, .return_)]])
theorem mt_g213 : mx_goodB mt_q213 = true := by decide +kernel
/-- PeopleStore$Person.writeTo(Ljava/lang/StringBuilder;)V -/
def mt_q214 : mt_Q := (⟨"PeopleStore$Person", "writeTo", "(Ljava/lang/StringBuilder;)V"⟩, prog_8_method_14_code, 3, none, 2, 18, [[(0, .aload_n 1), (1, .bipush 123), (3, .invokevirtual 162), (6, .pop), (7, .iconst 0), (8, .istore_n 2), (9, .iload_n 2), (10, .iconst 4), (11, .if_icmp .gt 19), (14, .aload_n 1), (15, .iload_n 2)],
  [(16, .aload_n 0), (17, .iload_n 2), (18, .invokevirtual 139), (21, .invokestatic 168), (24, .iinc 2 1), (27, .goto (-18)), (30, .aload_n 0), (31, .getfield 12)],
  [(34, .invokevirtual 145), (37, .ifCond .ne 8), (40, .aload_n 0), (41, .aload_n 1), (42, .invokevirtual 172), (45, .aload_n 1), (46, .bipush 125)],
  [(48, .invokevirtual 162), (51, .pop), (52, .return_)]])
theorem mt_g214 : mx_goodB mt_q214 = true := by decide +kernel
/-- PeopleStore$Person.writeMember(Ljava/lang/StringBuilder;ILPeopleStore$Value;)V -/
def mt_q215 : mt_Q := (⟨"PeopleStore$Person", "writeMember", "(Ljava/lang/StringBuilder;ILPeopleStore$Value;)V"⟩, prog_8_method_16_code, 3, none, 3, 18, [[(0, .aload_n 2), (1, .ifnonnull 4), (4, .return_), (5, .iload_n 1), (6, .ifCond .eq 16), (9, .iload_n 1), (10, .bipush 6), (12, .if_icmp .eq 10), (15, .aload_n 0)],
  [(16, .bipush 44), (18, .invokevirtual 162), (21, .pop), (22, .aload_n 0), (23, .bipush 34), (25, .invokevirtual 162), (28, .pop), (29, .aload_n 0), (30, .iload_n 1), (31, .invokestatic 184)],
  [(34, .invokevirtual 178), (37, .pop), (38, .aload_n 0), (39, .ldc 188), (41, .invokevirtual 178), (44, .pop), (45, .aload_n 2), (46, .aload_n 0), (47, .invokevirtual 190)],
  [(50, .return_)]])
theorem mt_g215 : mx_goodB mt_q215 = true := by decide +kernel
/-- java/lang/StringBuilder.append(Ljava/lang/String;)Ljava/lang/StringBuilder; -/
def mt_q216 : mt_Q := (⟨"java/lang/StringBuilder", "append", "(Ljava/lang/String;)Ljava/lang/StringBuilder;"⟩, prog_20_method_7_code, 2, (some (.object "java/lang/StringBuilder")), 2, 3, [[(0, .aload_n 0), (1, .aload_n 1), (2, .invokespecial 29), (5, .pop), (6, .aload_n 0), (7, .areturn)]])
theorem mt_g216 : mx_goodB mt_q216 = true := by decide +kernel
/-- java/lang/AbstractStringBuilder.append(Ljava/lang/String;)Ljava/lang/AbstractStringBuilder; -/
def mt_q217 : mt_Q := (⟨"java/lang/AbstractStringBuilder", "append", "(Ljava/lang/String;)Ljava/lang/AbstractStringBuilder;"⟩, prog_13_method_22_code, 3, (some (.object "java/lang/AbstractStringBuilder")), 2, 4, [[(0, .aload_n 1), (1, .ifnonnull 8), (4, .aload_n 0), (5, .invokevirtual 204), (8, .areturn), (9, .aload_n 1), (10, .invokevirtual 32), (13, .istore_n 2), (14, .aload_n 0), (15, .aload_n 0)],
  [(16, .getfield 79), (19, .iload_n 2), (20, .iadd), (21, .invokevirtual 100), (24, .aload_n 0), (25, .aload_n 0), (26, .getfield 79), (29, .aload_n 1), (30, .invokevirtual 208)],
  [(33, .aload_n 0), (34, .dup), (35, .getfield 79), (38, .iload_n 2), (39, .iadd), (40, .putfield 79), (43, .aload_n 0), (44, .areturn)]])
theorem mt_g217 : mx_goodB mt_q217 = true := by decide +kernel
/-- java/lang/AbstractStringBuilder.appendNull()Ljava/lang/AbstractStringBuilder; -/
def mt_q218 : mt_Q := (⟨"java/lang/AbstractStringBuilder", "appendNull", "()Ljava/lang/AbstractStringBuilder;"⟩, prog_13_method_26_code, 3, (some (.object "java/lang/AbstractStringBuilder")), 1, 4, [[(0, .aload_n 0), (1, .aload_n 0), (2, .getfield 79), (5, .iconst 4), (6, .iadd), (7, .invokevirtual 100), (10, .aload_n 0), (11, .getfield 79), (14, .istore_n 1), (15, .aload_n 0)],
  [(16, .getfield 15), (19, .astore_n 2), (20, .aload_n 0), (21, .invokevirtual 83), (24, .ifCond .eq 38), (27, .aload_n 2), (28, .iload_n 1), (29, .iinc 1 1)],
  [(32, .bipush 110), (34, .bastore), (35, .aload_n 2), (36, .iload_n 1), (37, .iinc 1 1), (40, .bipush 117), (42, .bastore), (43, .aload_n 2), (44, .iload_n 1), (45, .iinc 1 1)],
  [(48, .bipush 108), (50, .bastore), (51, .aload_n 2), (52, .iload_n 1), (53, .iinc 1 1), (56, .bipush 108), (58, .bastore), (59, .goto 17), (62, .aload_n 2), (63, .iload_n 1)],
  [(64, .bipush 110), (66, .bipush 117), (68, .bipush 108), (70, .bipush 108), (72, .invokestatic 226), (75, .istore_n 1), (76, .aload_n 0), (77, .iload_n 1), (78, .putfield 79)],
  [(81, .aload_n 0), (82, .areturn)]])
theorem mt_g218 : mx_goodB mt_q218 = true := by decide +kernel
/-- java/lang/StringUTF16.putCharsAt([BICCCC)I -/
def mt_q219 : mt_Q := (⟨"java/lang/StringUTF16", "putCharsAt", "([BICCCC)I"⟩, prog_22_method_81_code, 7, (some .int), 6, 5, [[(0, .iload_n 1), (1, .iconst 4), (2, .iadd), (3, .istore 6), (5, .iload_n 1), (6, .iload 6), (8, .aload_n 0), (9, .invokestatic 96), (12, .aload_n 0), (13, .iload_n 1), (14, .iinc 1 1)],
  [(17, .iload_n 2), (18, .invokestatic 111), (21, .aload_n 0), (22, .iload_n 1), (23, .iinc 1 1), (26, .iload_n 3), (27, .invokestatic 111), (30, .aload_n 0), (31, .iload_n 1)],
  [(32, .iinc 1 1), (35, .iload 4), (37, .invokestatic 111), (40, .aload_n 0), (41, .iload_n 1), (42, .iinc 1 1), (45, .iload 5), (47, .invokestatic 111)],
  [(50, .getstatic 44), (53, .ifCond .ne 17), (56, .iload_n 1), (57, .iload 6), (59, .if_icmp .eq 11), (62, .new 52)],
  [(65, .dup), (66, .invokespecial 66), (69, .athrow), (70, .iload 6), (72, .ireturn)]])
theorem mt_g219 : mx_goodB mt_q219 = true := by decide +kernel
/-- java/lang/AbstractStringBuilder.putStringAt(ILjava/lang/String;)V -/
def mt_q220 : mt_Q := (⟨"java/lang/AbstractStringBuilder", "putStringAt", "(ILjava/lang/String;)V"⟩, prog_13_method_73_code, 3, none, 3, 4, [[(0, .aload_n 0), (1, .aload_n 2), (2, .invokevirtual 397), (5, .aload_n 2), (6, .aload_n 0), (7, .getfield 15), (10, .iload_n 1), (11, .aload_n 0), (12, .getfield 22), (15, .invokevirtual 399)],
  [(18, .return_)]])
theorem mt_g220 : mx_goodB mt_q220 = true := by decide +kernel
/-- java/lang/AbstractStringBuilder.inflateIfNeededFor(Ljava/lang/String;)V -/
def mt_q221 : mt_Q := (⟨"java/lang/AbstractStringBuilder", "inflateIfNeededFor", "(Ljava/lang/String;)V"⟩, prog_13_method_71_code, 2, none, 2, 4, [[(0, .getstatic 18), (3, .ifCond .eq 18), (6, .aload_n 0), (7, .getfield 22), (10, .aload_n 1), (11, .invokevirtual 40), (14, .if_icmp .eq 7)],
  [(17, .aload_n 0), (18, .invokevirtual 195), (21, .return_)]])
theorem mt_g221 : mx_goodB mt_q221 = true := by decide +kernel
/-- java/lang/String.getBytes([BIB)V -/
def mt_q222 : mt_Q := (⟨"java/lang/String", "getBytes", "([BIB)V"⟩, prog_19_method_147_code, 4, none, 4, 9, [[(0, .aload_n 0), (1, .invokevirtual 335), (4, .iload_n 3), (5, .if_icmp .ne 23), (8, .aload_n 0), (9, .getfield 9), (12, .iconst 0), (13, .aload_n 1), (14, .iload_n 2), (15, .iload_n 3)],
  [(16, .ishl), (17, .aload_n 0), (18, .getfield 9), (21, .arraylength), (22, .invokestatic 212), (25, .goto 18), (28, .aload_n 0), (29, .getfield 9)],
  [(32, .iconst 0), (33, .aload_n 1), (34, .iload_n 2), (35, .aload_n 0), (36, .getfield 9), (39, .arraylength), (40, .invokestatic 106), (43, .return_)]])
theorem mt_g222 : mx_goodB mt_q222 = true := by decide +kernel
/-- PeopleStore$Value.writeTo(Ljava/lang/StringBuilder;)V -/
def mt_q223 : mt_Q := (⟨"PeopleStore$Value", "writeTo", "(Ljava/lang/StringBuilder;)V"⟩, prog_9_method_13_code, 2, none, 2, 14, [[(0, .aload_n 0), (1, .getfield 9), (4, .iconst 1), (5, .if_icmp .ne 15), (8, .aload_n 1), (9, .aload_n 0), (10, .getfield 13), (13, .invokevirtual 129)],
  [(16, .pop), (17, .goto 38), (20, .aload_n 0), (21, .getfield 9), (24, .ifCond .ne 26), (27, .aload_n 1), (28, .aload_n 0), (29, .getfield 13)],
  [(32, .iconst 1), (33, .if_icmp .ne 8), (36, .ldc 44), (38, .goto 5), (41, .ldc 53), (43, .invokevirtual 135), (46, .pop), (47, .goto 8)],
  [(50, .aload_n 0), (51, .aload_n 1), (52, .invokevirtual 138), (55, .return_)]])
theorem mt_g223 : mx_goodB mt_q223 = true := by decide +kernel
def mt_qk13 : List mt_Q := [mt_q208, mt_q209, mt_q210, mt_q211, mt_q212, mt_q213, mt_q214, mt_q215, mt_q216, mt_q217, mt_q218, mt_q219, mt_q220, mt_q221, mt_q222, mt_q223]
theorem mt_gk13 : ∀ q ∈ mt_qk13, mx_goodB q = true := List.forall_mem_cons.mpr ⟨mt_g208, List.forall_mem_cons.mpr ⟨mt_g209, List.forall_mem_cons.mpr ⟨mt_g210, List.forall_mem_cons.mpr ⟨mt_g211, List.forall_mem_cons.mpr ⟨mt_g212, List.forall_mem_cons.mpr ⟨mt_g213, List.forall_mem_cons.mpr ⟨mt_g214, List.forall_mem_cons.mpr ⟨mt_g215, List.forall_mem_cons.mpr ⟨mt_g216, List.forall_mem_cons.mpr ⟨mt_g217, List.forall_mem_cons.mpr ⟨mt_g218, List.forall_mem_cons.mpr ⟨mt_g219, List.forall_mem_cons.mpr ⟨mt_g220, List.forall_mem_cons.mpr ⟨mt_g221, List.forall_mem_cons.mpr ⟨mt_g222, List.forall_mem_cons.mpr ⟨mt_g223, fun _ h => absurd h List.not_mem_nil⟩⟩⟩⟩⟩⟩⟩⟩⟩⟩⟩⟩⟩⟩⟩⟩
/-- java/lang/StringBuilder.append(I)Ljava/lang/StringBuilder; -/
def mt_q224 : mt_Q := (⟨"java/lang/StringBuilder", "append", "(I)Ljava/lang/StringBuilder;"⟩, prog_20_method_15_code, 2, (some (.object "java/lang/StringBuilder")), 2, 3, [[(0, .aload_n 0), (1, .iload_n 1), (2, .invokespecial 53), (5, .pop), (6, .aload_n 0), (7, .areturn)]])
theorem mt_g224 : mx_goodB mt_q224 = true := by decide +kernel
/-- java/lang/AbstractStringBuilder.append(I)Ljava/lang/AbstractStringBuilder; -/
def mt_q225 : mt_Q := (⟨"java/lang/AbstractStringBuilder", "append", "(I)Ljava/lang/AbstractStringBuilder;"⟩, prog_13_method_32_code, 4, (some (.object "java/lang/AbstractStringBuilder")), 2, 4, [[(0, .aload_n 0), (1, .getfield 79), (4, .istore_n 2), (5, .iload_n 2), (6, .iload_n 1), (7, .invokestatic 245), (10, .iadd), (11, .istore_n 3), (12, .aload_n 0), (13, .iload_n 3), (14, .invokevirtual 100)],
  [(17, .aload_n 0), (18, .invokevirtual 83), (21, .ifCond .eq 16), (24, .iload_n 1), (25, .iload_n 3), (26, .aload_n 0), (27, .getfield 15), (30, .invokestatic 248)],
  [(33, .pop), (34, .goto 14), (37, .iload_n 1), (38, .iload_n 2), (39, .iload_n 3), (40, .aload_n 0), (41, .getfield 15), (44, .invokestatic 251), (47, .pop)],
  [(48, .aload_n 0), (49, .iload_n 3), (50, .putfield 79), (53, .aload_n 0), (54, .areturn)]])
theorem mt_g225 : mx_goodB mt_q225 = true := by decide +kernel
/-- java/lang/Integer.stringSize(I)I -/
def mt_q226 : mt_Q := (⟨"java/lang/Integer", "stringSize", "(I)I"⟩, prog_16_method_13_code, 4, (some .int), 1, 22, [[(0, .iconst 1), (1, .istore_n 1), (2, .iload_n 0), (3, .ifCond .lt 8), (6, .iconst 0), (7, .istore_n 1), (8, .iload_n 0), (9, .ineg), (10, .istore_n 0), (11, .bipush (-10)), (13, .istore_n 2), (14, .iconst 1), (15, .istore_n 3)],
  [(16, .iload_n 3), (17, .bipush 10), (19, .if_icmp .ge 23), (22, .iload_n 0), (23, .iload_n 2), (24, .if_icmp .le 7), (27, .iload_n 3), (28, .iload_n 1), (29, .iadd), (30, .ireturn), (31, .bipush 10)],
  [(33, .iload_n 2), (34, .imul), (35, .istore_n 2), (36, .iinc 3 1), (39, .goto (-23)), (42, .bipush 10), (44, .iload_n 1), (45, .iadd), (46, .ireturn)]])
theorem mt_g226 : mx_goodB mt_q226 = true := by decide +kernel
/-- java/lang/Integer.getChars(II[B)I -/
def mt_q227 : mt_Q := (⟨"java/lang/Integer", "getChars", "(II[B)I"⟩, prog_16_method_12_code, 7, (some .int), 3, 22, [[(0, .iload_n 1), (1, .istore 5), (3, .iload_n 0), (4, .ifCond .ge 7), (7, .iconst 1), (8, .goto 4), (11, .iconst 0), (12, .istore 6), (14, .iload 6)],
  [(16, .ifCond .ne 6), (19, .iload_n 0), (20, .ineg), (21, .istore_n 0), (22, .iload_n 0), (23, .bipush (-100)), (25, .if_icmp .gt 47), (28, .iload_n 0), (29, .bipush 100), (31, .idiv)],
  [(32, .istore_n 3), (33, .iload_n 3), (34, .bipush 100), (36, .imul), (37, .iload_n 0), (38, .isub), (39, .istore 4), (41, .iload_n 3), (42, .istore_n 0), (43, .aload_n 2), (44, .iinc 5 (-1)), (47, .iload 5)],
  [(49, .getstatic 83), (52, .iload 4), (54, .baload), (55, .bastore), (56, .aload_n 2), (57, .iinc 5 (-1)), (60, .iload 5), (62, .getstatic 87)],
  [(65, .iload 4), (67, .baload), (68, .bastore), (69, .goto (-47)), (72, .aload_n 2), (73, .iinc 5 (-1)), (76, .iload 5), (78, .getstatic 83)],
  [(81, .iload_n 0), (82, .ineg), (83, .baload), (84, .bastore), (85, .iload_n 0), (86, .bipush (-9)), (88, .if_icmp .ge 16), (91, .aload_n 2), (92, .iinc 5 (-1)), (95, .iload 5)],
  [(97, .getstatic 87), (100, .iload_n 0), (101, .ineg), (102, .baload), (103, .bastore), (104, .iload 6), (106, .ifCond .eq 12), (109, .aload_n 2), (110, .iinc 5 (-1))],
  [(113, .iload 5), (115, .bipush 45), (117, .bastore), (118, .iload 5), (120, .ireturn)]])
theorem mt_g227 : mx_goodB mt_q227 = true := by decide +kernel
/-- java/lang/StringUTF16.getChars(III[B)I -/
def mt_q228 : mt_Q := (⟨"java/lang/StringUTF16", "getChars", "(III[B)I"⟩, prog_22_method_77_code, 5, (some .int), 4, 5, [[(0, .iload_n 1), (1, .iload_n 2), (2, .aload_n 3), (3, .invokestatic 96), (6, .iload_n 0), (7, .iload_n 2), (8, .aload_n 3), (9, .invokestatic 393), (12, .istore 4), (14, .getstatic 44)],
  [(17, .ifCond .ne 17), (20, .iload_n 1), (21, .iload 4), (23, .if_icmp .eq 11), (26, .new 52), (29, .dup), (30, .invokespecial 66)],
  [(33, .athrow), (34, .iload 4), (36, .ireturn)]])
theorem mt_g228 : mx_goodB mt_q228 = true := by decide +kernel
/-- java/lang/StringUTF16.getChars(II[B)I -/
def mt_q229 : mt_Q := (⟨"java/lang/StringUTF16", "getChars", "(II[B)I"⟩, prog_22_method_89_code, 7, (some .int), 3, 5, [[(0, .iload_n 1), (1, .istore 5), (3, .iload_n 0), (4, .ifCond .ge 7), (7, .iconst 1), (8, .goto 4), (11, .iconst 0), (12, .istore 6), (14, .iload 6)],
  [(16, .ifCond .ne 6), (19, .iload_n 0), (20, .ineg), (21, .istore_n 0), (22, .iload_n 0), (23, .bipush (-100)), (25, .if_icmp .gt 51), (28, .iload_n 0), (29, .bipush 100), (31, .idiv)],
  [(32, .istore_n 3), (33, .iload_n 3), (34, .bipush 100), (36, .imul), (37, .iload_n 0), (38, .isub), (39, .istore 4), (41, .iload_n 3), (42, .istore_n 0), (43, .aload_n 2), (44, .iinc 5 (-1)), (47, .iload 5)],
  [(49, .getstatic 403), (52, .iload 4), (54, .baload), (55, .invokestatic 111), (58, .aload_n 2), (59, .iinc 5 (-1)), (62, .iload 5)],
  [(64, .getstatic 407), (67, .iload 4), (69, .baload), (70, .invokestatic 111), (73, .goto (-51)), (76, .aload_n 2), (77, .iinc 5 (-1))],
  [(80, .iload 5), (82, .getstatic 403), (85, .iload_n 0), (86, .ineg), (87, .baload), (88, .invokestatic 111), (91, .iload_n 0), (92, .bipush (-9)), (94, .if_icmp .ge 18)],
  [(97, .aload_n 2), (98, .iinc 5 (-1)), (101, .iload 5), (103, .getstatic 407), (106, .iload_n 0), (107, .ineg), (108, .baload), (109, .invokestatic 111)],
  [(112, .iload 6), (114, .ifCond .eq 14), (117, .aload_n 2), (118, .iinc 5 (-1)), (121, .iload 5), (123, .bipush 45), (125, .invokestatic 111)],
  [(128, .iload 5), (130, .ireturn)]])
theorem mt_g229 : mx_goodB mt_q229 = true := by decide +kernel
/-- PeopleStore$Value.writeTextTo(Ljava/lang/StringBuilder;)V -/
def mt_q230 : mt_Q := (⟨"PeopleStore$Value", "writeTextTo", "(Ljava/lang/StringBuilder;)V"⟩, prog_9_method_14_code, 4, none, 2, 14, [[(0, .aload_n 1), (1, .bipush 34), (3, .invokevirtual 142), (6, .pop), (7, .iconst 0), (8, .istore_n 2), (9, .iload_n 2), (10, .aload_n 0), (11, .getfield 18), (14, .invokevirtual 109)],
  [(17, .if_icmp .ge 43), (20, .aload_n 0), (21, .getfield 18), (24, .iload_n 2), (25, .invokevirtual 118), (28, .istore_n 3), (29, .iload_n 3), (30, .bipush 34)],
  [(32, .if_icmp .eq 9), (35, .iload_n 3), (36, .bipush 92), (38, .if_icmp .ne 10), (41, .aload_n 1), (42, .bipush 92), (44, .invokevirtual 142), (47, .pop)],
  [(48, .aload_n 1), (49, .iload_n 3), (50, .invokevirtual 142), (53, .pop), (54, .iinc 2 1), (57, .goto (-48)), (60, .aload_n 1), (61, .bipush 34), (63, .invokevirtual 142)],
  [(66, .pop), (67, .return_)]])
theorem mt_g230 : mx_goodB mt_q230 = true := by decide +kernel
/-- PeopleStore$Person.writeMailTo(Ljava/lang/StringBuilder;)V -/
def mt_q231 : mt_Q := (⟨"PeopleStore$Person", "writeMailTo", "(Ljava/lang/StringBuilder;)V"⟩, prog_8_method_15_code, 3, none, 2, 18, [[(0, .aload_n 1), (1, .ldc 176), (3, .invokevirtual 178), (6, .pop), (7, .iconst 0), (8, .istore_n 2), (9, .iload_n 2), (10, .aload_n 0), (11, .getfield 12), (14, .invokevirtual 86)],
  [(17, .if_icmp .ge 35), (20, .iload_n 2), (21, .ifCond .le 10), (24, .aload_n 1), (25, .bipush 44), (27, .invokevirtual 162), (30, .pop), (31, .aload_n 0)],
  [(32, .getfield 12), (35, .iload_n 2), (36, .invokevirtual 90), (39, .checkcast 70), (42, .aload_n 1), (43, .invokevirtual 181), (46, .iinc 2 1)],
  [(49, .goto (-40)), (52, .aload_n 1), (53, .bipush 93), (55, .invokevirtual 162), (58, .pop), (59, .return_)]])
theorem mt_g231 : mx_goodB mt_q231 = true := by decide +kernel
/-- PeopleStore$Item.writeTo(Ljava/lang/StringBuilder;)V -/
def mt_q232 : mt_Q := (⟨"PeopleStore$Item", "writeTo", "(Ljava/lang/StringBuilder;)V"⟩, prog_5_method_10_code, 2, none, 2, 20, [[(0, .aload_n 1), (1, .bipush 123), (3, .invokevirtual 86), (6, .pop), (7, .aload_n 1), (8, .bipush 6), (10, .aload_n 0), (11, .getfield 7), (14, .invokestatic 92)],
  [(17, .aload_n 1), (18, .bipush 7), (20, .aload_n 0), (21, .getfield 13), (24, .invokestatic 92), (27, .aload_n 1), (28, .bipush 125), (30, .invokevirtual 86)],
  [(33, .pop), (34, .return_)]])
theorem mt_g232 : mx_goodB mt_q232 = true := by decide +kernel
/-- PeopleStore.letter(II)I -/
def mt_q233 : mt_Q := (⟨"PeopleStore", "letter", "(II)I"⟩, prog_1_method_12_code, 4, (some .int), 3, 1, [[(0, .aload_n 0), (1, .iload_n 1), (2, .invokevirtual 79), (5, .istore_n 3), (6, .iload_n 3), (7, .iconst (-1)), (8, .if_icmp .eq 7), (11, .iload_n 2), (12, .ifCond .ge 5), (15, .iconst 0)],
  [(16, .ireturn), (17, .aload_n 0), (18, .iload_n 3), (19, .invokevirtual 159), (22, .iload_n 2), (23, .aload_n 0), (24, .getfield 33), (27, .invokevirtual 163), (30, .if_icmp .ge 14)],
  [(33, .aload_n 0), (34, .getfield 33), (37, .iload_n 2), (38, .invokevirtual 166), (41, .goto 4), (44, .iconst 0), (45, .ireturn)]])
theorem mt_g233 : mx_goodB mt_q233 = true := by decide +kernel
/-- java/lang/StringBuilder.charAt(I)C -/
def mt_q234 : mt_Q := (⟨"java/lang/StringBuilder", "charAt", "(I)C"⟩, prog_20_method_88_code, 2, (some .char), 2, 3, [[(0, .aload_n 0), (1, .iload_n 1), (2, .invokespecial 329), (5, .ireturn)]])
theorem mt_g234 : mx_goodB mt_q234 = true := by decide +kernel
/-- java/lang/AbstractStringBuilder.charAt(I)C -/
def mt_q235 : mt_Q := (⟨"java/lang/AbstractStringBuilder", "charAt", "(I)C"⟩, prog_13_method_14_code, 5, (some .char), 2, 4, [[(0, .aload_n 0), (1, .getfield 22), (4, .istore_n 2), (5, .aload_n 0), (6, .getfield 15), (9, .astore_n 3), (10, .aload_n 0), (11, .getfield 79), (14, .aload_n 3), (15, .arraylength)],
  [(16, .iload_n 2), (17, .ishr), (18, .invokestatic 138), (21, .istore 4), (23, .iload_n 1), (24, .iload 4), (26, .invokestatic 144), (29, .iload_n 2), (30, .ifCond .ne 12)],
  [(33, .aload_n 3), (34, .iload_n 1), (35, .baload), (36, .sipush 255), (39, .iand), (40, .i2c), (41, .ireturn), (42, .aload_n 3), (43, .iload_n 1), (44, .invokestatic 148), (47, .ireturn)]])
theorem mt_g235 : mx_goodB mt_q235 = true := by decide +kernel
/-- PeopleStoreModel.<init>()V -/
def mt_q236 : mt_Q := (⟨"PeopleStoreModel", "<init>", "()V"⟩, prog_11_method_1_code, 1, none, 1, 25, [[(0, .aload_n 0), (1, .invokespecial 1), (4, .aload_n 0), (5, .sipush 800), (8, .newarray .int), (10, .putfield 7), (13, .aload_n 0), (14, .bipush 120)],
  [(16, .newarray .char), (18, .putfield 13), (21, .aload_n 0), (22, .sipush 130), (25, .newarray .int), (27, .putfield 17), (30, .aload_n 0), (31, .sipush 130)],
  [(34, .newarray .int), (36, .putfield 20), (39, .aload_n 0), (40, .sipush 130), (43, .newarray .int), (45, .putfield 23)],
  [(48, .aload_n 0), (49, .sipush 130), (52, .newarray .long), (54, .putfield 26), (57, .aload_n 0), (58, .sipush 130), (61, .newarray .char), (63, .putfield 30)],
  [(66, .aload_n 0), (67, .iconst 5), (68, .newarray .int), (70, .putfield 33), (73, .aload_n 0), (74, .sipush 130), (77, .newarray .int), (79, .putfield 36)],
  [(82, .aload_n 0), (83, .sipush 130), (86, .newarray .int), (88, .putfield 39), (91, .aload_n 0), (92, .sipush 130), (95, .newarray .int)],
  [(97, .putfield 42), (100, .aload_n 0), (101, .sipush 130), (104, .newarray .int), (106, .putfield 45), (109, .aload_n 0), (110, .sipush 130)],
  [(113, .newarray .long), (115, .putfield 48), (118, .aload_n 0), (119, .sipush 130), (122, .newarray .int), (124, .putfield 51), (127, .aload_n 0)],
  [(128, .sipush 130), (131, .newarray .boolean), (133, .putfield 54), (136, .aload_n 0), (137, .sipush 130), (140, .newarray .boolean), (142, .putfield 58)],
  [(145, .aload_n 0), (146, .bipush 60), (148, .newarray .int), (150, .putfield 61), (153, .aload_n 0), (154, .bipush 60), (156, .newarray .int), (158, .putfield 64)],
  [(161, .aload_n 0), (162, .bipush 60), (164, .newarray .int), (166, .putfield 67), (169, .aload_n 0), (170, .bipush 60), (172, .newarray .int), (174, .putfield 70)],
  [(177, .aload_n 0), (178, .bipush 60), (180, .newarray .int), (182, .putfield 73), (185, .aload_n 0), (186, .iconst 5), (187, .newarray .boolean), (189, .putfield 76)],
  [(192, .aload_n 0), (193, .iconst 5), (194, .newarray .boolean), (196, .putfield 79), (199, .aload_n 0), (200, .bipush 8), (202, .newarray .int), (204, .putfield 82), (207, .aload_n 0)],
  [(208, .bipush 8), (210, .newarray .int), (212, .putfield 85), (215, .return_)]])
theorem mt_g236 : mx_goodB mt_q236 = true := by decide +kernel
/-- PeopleStoreModel.put(II)Z -/
def mt_q237 : mt_Q := (⟨"PeopleStoreModel", "put", "(II)Z"⟩, prog_11_method_2_code, 5, (some .boolean), 3, 25, [[(0, .iload_n 2), (1, .iconst 1), (2, .if_icmp .lt 19), (5, .iload_n 2), (6, .iconst 4), (7, .if_icmp .gt 14), (10, .aload_n 0), (11, .getfield 88), (14, .iload_n 2), (15, .iadd)],
  [(16, .bipush 120), (18, .if_icmp .le 5), (21, .iconst 0), (22, .ireturn), (23, .iconst 0), (24, .istore_n 3), (25, .iload_n 3), (26, .iload_n 2), (27, .if_icmp .ge 44), (30, .iload_n 1), (31, .bipush 8)],
  [(33, .iload_n 3), (34, .imul), (35, .ishr), (36, .sipush 255), (39, .iand), (40, .istore 4), (42, .iload 4), (44, .bipush 10), (46, .if_icmp .eq 19)],
  [(49, .iload 4), (51, .bipush 32), (53, .if_icmp .lt 10), (56, .iload 4), (58, .bipush 126), (60, .if_icmp .le 5), (63, .iconst 0)],
  [(64, .ireturn), (65, .iinc 3 1), (68, .goto (-43)), (71, .iload_n 2), (72, .iconst 1), (73, .isub), (74, .istore_n 3), (75, .iload_n 3), (76, .ifCond .lt 39), (79, .aload_n 0)],
  [(80, .getfield 13), (83, .aload_n 0), (84, .getfield 88), (87, .iload_n 1), (88, .bipush 8), (90, .iload_n 3), (91, .imul), (92, .ishr), (93, .sipush 255)],
  [(96, .iand), (97, .i2c), (98, .castore), (99, .aload_n 0), (100, .dup), (101, .getfield 88), (104, .iconst 1), (105, .iadd), (106, .putfield 88), (109, .iinc 3 (-1))],
  [(112, .goto (-37)), (115, .iconst 1), (116, .ireturn)]])
theorem mt_g237 : mx_goodB mt_q237 = true := by decide +kernel
/-- PeopleStoreModel.create()I -/
def mt_q238 : mt_Q := (⟨"PeopleStoreModel", "create", "()I"⟩, prog_11_method_45_code, 2, (some .int), 1, 25, [[(0, .aload_n 0), (1, .invokevirtual 262), (4, .istore_n 1), (5, .aload_n 0), (6, .iconst 0), (7, .putfield 88), (10, .iload_n 1), (11, .ireturn)]])
theorem mt_g238 : mx_goodB mt_q238 = true := by decide +kernel
/-- PeopleStoreModel.created()I -/
def mt_q239 : mt_Q := (⟨"PeopleStoreModel", "created", "()I"⟩, prog_11_method_44_code, 3, (some .int), 1, 25, [[(0, .aload_n 0), (1, .invokevirtual 244), (4, .istore_n 1), (5, .iload_n 1), (6, .ifCond .eq 25), (9, .aload_n 0), (10, .iconst 0), (11, .bipush 123), (13, .invokevirtual 142)],
  [(16, .ifCond .eq 15), (19, .aload_n 0), (20, .iconst 0), (21, .invokevirtual 247), (24, .aload_n 0), (25, .getfield 109), (28, .if_icmp .eq 7), (31, .sipush (-400))],
  [(34, .ireturn), (35, .aload_n 0), (36, .bipush 8), (38, .iconst 0), (39, .iconst 0), (40, .invokevirtual 175), (43, .aload_n 0), (44, .bipush 8), (46, .iconst 1), (47, .iconst 1)],
  [(48, .invokevirtual 175), (51, .aload_n 0), (52, .iconst 0), (53, .invokevirtual 250), (56, .ifCond .ne 7), (59, .sipush (-401)), (62, .ireturn), (63, .aload_n 0)],
  [(64, .invokevirtual 253), (67, .ifCond .eq 7), (70, .sipush (-409)), (73, .ireturn), (74, .iconst 0), (75, .istore_n 2), (76, .iload_n 2), (77, .bipush 8), (79, .if_icmp .ge 18)],
  [(82, .aload_n 0), (83, .iload_n 2), (84, .iconst 0), (85, .invokevirtual 171), (88, .ifCond .le 9), (91, .iinc 2 1), (94, .goto (-18))],
  [(97, .iload_n 2), (98, .bipush 8), (100, .if_icmp .ne 7), (103, .sipush (-413)), (106, .ireturn), (107, .aload_n 0), (108, .dup), (109, .getfield 256)],
  [(112, .iconst 1), (113, .iadd), (114, .putfield 256), (117, .aload_n 0), (118, .bipush 8), (120, .iconst 0), (121, .aload_n 0), (122, .getfield 256), (125, .invokevirtual 175)],
  [(128, .aload_n 0), (129, .bipush 8), (131, .iload_n 2), (132, .invokevirtual 259), (135, .aload_n 0), (136, .getfield 256), (139, .ireturn)]])
theorem mt_g239 : mx_goodB mt_q239 = true := by decide +kernel
def mt_qk14 : List mt_Q := [mt_q224, mt_q225, mt_q226, mt_q227, mt_q228, mt_q229, mt_q230, mt_q231, mt_q232, mt_q233, mt_q234, mt_q235, mt_q236, mt_q237, mt_q238, mt_q239]
theorem mt_gk14 : ∀ q ∈ mt_qk14, mx_goodB q = true := List.forall_mem_cons.mpr ⟨mt_g224, List.forall_mem_cons.mpr ⟨mt_g225, List.forall_mem_cons.mpr ⟨mt_g226, List.forall_mem_cons.mpr ⟨mt_g227, List.forall_mem_cons.mpr ⟨mt_g228, List.forall_mem_cons.mpr ⟨mt_g229, List.forall_mem_cons.mpr ⟨mt_g230, List.forall_mem_cons.mpr ⟨mt_g231, List.forall_mem_cons.mpr ⟨mt_g232, List.forall_mem_cons.mpr ⟨mt_g233, List.forall_mem_cons.mpr ⟨mt_g234, List.forall_mem_cons.mpr ⟨mt_g235, List.forall_mem_cons.mpr ⟨mt_g236, List.forall_mem_cons.mpr ⟨mt_g237, List.forall_mem_cons.mpr ⟨mt_g238, List.forall_mem_cons.mpr ⟨mt_g239, fun _ h => absurd h List.not_mem_nil⟩⟩⟩⟩⟩⟩⟩⟩⟩⟩⟩⟩⟩⟩⟩⟩
/-- PeopleStoreModel.cut()Z -/
def mt_q240 : mt_Q := (⟨"PeopleStoreModel", "cut", "()Z"⟩, prog_11_method_11_code, 4, (some .boolean), 1, 25, [[(0, .aload_n 0), (1, .iconst 0), (2, .putfield 109), (5, .aload_n 0), (6, .iconst 0), (7, .putfield 119), (10, .iconst 0), (11, .istore_n 1), (12, .iload_n 1), (13, .ifCond .lt 180)],
  [(16, .iload_n 1), (17, .aload_n 0), (18, .getfield 88), (21, .if_icmp .ge 172), (24, .aload_n 0), (25, .iload_n 1), (26, .invokevirtual 96), (29, .istore_n 2), (30, .iload_n 2), (31, .bipush 32)],
  [(33, .if_icmp .ne 9), (36, .iinc 1 1), (39, .goto 151), (42, .iload_n 2), (43, .invokestatic 112), (46, .ifCond .ne 22)],
  [(49, .iload_n 2), (50, .bipush 45), (52, .if_icmp .ne 20), (55, .aload_n 0), (56, .iload_n 1), (57, .iconst 1), (58, .iadd), (59, .invokevirtual 96), (62, .invokestatic 112)],
  [(65, .ifCond .eq 7), (68, .iconst 1), (69, .goto 4), (72, .iconst 0), (73, .istore_n 3), (74, .aload_n 0), (75, .getfield 17), (78, .aload_n 0), (79, .getfield 109)],
  [(82, .iload_n 2), (83, .invokestatic 99), (86, .ifCond .eq 7), (89, .iconst 1), (90, .goto 22), (93, .iload_n 3), (94, .ifCond .eq 7)],
  [(97, .iconst 2), (98, .goto 14), (101, .iload_n 2), (102, .bipush 34), (104, .if_icmp .ne 7), (107, .iconst 3), (108, .goto 4), (111, .iconst 4)],
  [(112, .iastore), (113, .aload_n 0), (114, .getfield 26), (117, .aload_n 0), (118, .getfield 109), (121, .iload_n 2), (122, .i2l), (123, .lastore), (124, .iload_n 2), (125, .invokestatic 99)],
  [(128, .ifCond .eq 11), (131, .aload_n 0), (132, .iload_n 1), (133, .invokevirtual 122), (136, .goto 43), (139, .iload_n 3), (140, .ifCond .eq 11), (143, .aload_n 0)],
  [(144, .iload_n 1), (145, .invokevirtual 125), (148, .goto 31), (151, .iload_n 2), (152, .bipush 34), (154, .if_icmp .ne 11), (157, .aload_n 0), (158, .iload_n 1), (159, .invokevirtual 128)],
  [(162, .goto 17), (165, .iload_n 2), (166, .invokestatic 131), (169, .ifCond .eq 9), (172, .iload_n 1), (173, .iconst 1), (174, .iadd), (175, .goto 4)],
  [(178, .iconst (-1)), (179, .istore_n 1), (180, .aload_n 0), (181, .dup), (182, .getfield 109), (185, .iconst 1), (186, .iadd), (187, .putfield 109), (190, .goto (-178))],
  [(193, .aload_n 0), (194, .iconst 0), (195, .putfield 88), (198, .aload_n 0), (199, .getfield 109), (202, .istore_n 2), (203, .iload_n 2), (204, .aload_n 0), (205, .getfield 109)],
  [(208, .iconst 4), (209, .iadd), (210, .if_icmp .ge 23), (213, .iload_n 2), (214, .sipush 130), (217, .if_icmp .ge 16), (220, .aload_n 0), (221, .getfield 17)],
  [(224, .iload_n 2), (225, .iconst 0), (226, .iastore), (227, .iinc 2 1), (230, .goto (-27)), (233, .iload_n 1), (234, .ifCond .lt 7), (237, .iconst 1), (238, .goto 4)],
  [(241, .iconst 0), (242, .ireturn)]])
theorem mt_g240 : mx_goodB mt_q240 = true := by decide +kernel
/-- PeopleStoreModel.look(I)I -/
def mt_q241 : mt_Q := (⟨"PeopleStoreModel", "look", "(I)I"⟩, prog_11_method_3_code, 2, (some .int), 2, 25, [[(0, .iload_n 1), (1, .aload_n 0), (2, .getfield 88), (5, .if_icmp .ge 12), (8, .aload_n 0), (9, .getfield 13), (12, .iload_n 1), (13, .caload), (14, .goto 4)],
  [(17, .iconst 0), (18, .ireturn)]])
theorem mt_g241 : mx_goodB mt_q241 = true := by decide +kernel
/-- PeopleStoreModel.digit(I)Z -/
def mt_q242 : mt_Q := (⟨"PeopleStoreModel", "digit", "(I)Z"⟩, prog_11_method_6_code, 1, (some .boolean), 1, 25, [[(0, .iload_n 0), (1, .bipush 48), (3, .if_icmp .lt 13), (6, .iload_n 0), (7, .bipush 57), (9, .if_icmp .gt 7), (12, .iconst 1), (13, .goto 4)],
  [(16, .iconst 0), (17, .ireturn)]])
theorem mt_g242 : mx_goodB mt_q242 = true := by decide +kernel
/-- PeopleStoreModel.isLetter(I)Z -/
def mt_q243 : mt_Q := (⟨"PeopleStoreModel", "isLetter", "(I)Z"⟩, prog_11_method_5_code, 1, (some .boolean), 1, 25, [[(0, .iload_n 0), (1, .invokestatic 92), (4, .bipush 97), (6, .if_icmp .lt 16), (9, .iload_n 0), (10, .invokestatic 92), (13, .bipush 122), (15, .if_icmp .gt 7)],
  [(18, .iconst 1), (19, .goto 4), (22, .iconst 0), (23, .ireturn)]])
theorem mt_g243 : mx_goodB mt_q243 = true := by decide +kernel
/-- PeopleStoreModel.small(I)I -/
def mt_q244 : mt_Q := (⟨"PeopleStoreModel", "small", "(I)I"⟩, prog_11_method_4_code, 1, (some .int), 1, 25, [[(0, .iload_n 0), (1, .bipush 65), (3, .if_icmp .lt 16), (6, .iload_n 0), (7, .bipush 90), (9, .if_icmp .gt 10), (12, .iload_n 0), (13, .bipush 32), (15, .iadd)],
  [(16, .goto 4), (19, .iload_n 0), (20, .ireturn)]])
theorem mt_g244 : mx_goodB mt_q244 = true := by decide +kernel
/-- PeopleStoreModel.word(I)I -/
def mt_q245 : mt_Q := (⟨"PeopleStoreModel", "word", "(I)I"⟩, prog_11_method_8_code, 5, (some .int), 2, 25, [[(0, .iload_n 1), (1, .istore_n 2), (2, .lconst 0), (3, .lstore_n 3), (4, .aload_n 0), (5, .iload_n 2), (6, .invokevirtual 96), (9, .invokestatic 99), (12, .ifCond .eq 43), (15, .iload_n 2)],
  [(16, .iload_n 1), (17, .isub), (18, .bipush 8), (20, .if_icmp .le 9), (23, .ldc2_w 103), (26, .goto 22), (29, .ldc2_w 105)],
  [(32, .lload_n 3), (33, .lmul), (34, .aload_n 0), (35, .iload_n 2), (36, .invokevirtual 96), (39, .invokestatic 92), (42, .i2l), (43, .ladd), (44, .ldc2_w 107), (47, .lsub)],
  [(48, .lstore_n 3), (49, .iinc 2 1), (52, .goto (-48)), (55, .aload_n 0), (56, .getfield 26), (59, .aload_n 0), (60, .getfield 109), (63, .iload_n 2)],
  [(64, .iload_n 1), (65, .isub), (66, .bipush 9), (68, .if_icmp .le 9), (71, .ldc2_w 103), (74, .goto 4), (77, .lload_n 3), (78, .lastore), (79, .iload_n 2)],
  [(80, .ireturn)]])
theorem mt_g245 : mx_goodB mt_q245 = true := by decide +kernel
/-- PeopleStoreModel.number(I)I -/
def mt_q246 : mt_Q := (⟨"PeopleStoreModel", "number", "(I)I"⟩, prog_11_method_9_code, 7, (some .int), 2, 25, [[(0, .aload_n 0), (1, .iload_n 1), (2, .invokevirtual 96), (5, .bipush 45), (7, .if_icmp .ne 7), (10, .iconst 1), (11, .goto 4), (14, .iconst 0), (15, .istore_n 2)],
  [(16, .iload_n 2), (17, .ifCond .eq 9), (20, .iload_n 1), (21, .iconst 1), (22, .iadd), (23, .goto 4), (26, .iload_n 1), (27, .istore_n 3), (28, .iload_n 3), (29, .istore 4), (31, .lconst 0)],
  [(32, .lstore 5), (34, .aload_n 0), (35, .iload_n 3), (36, .invokevirtual 96), (39, .invokestatic 112), (42, .ifCond .eq 54), (45, .iload_n 3), (46, .iload 4)],
  [(48, .bipush 9), (50, .iadd), (51, .if_icmp .ge 45), (54, .iload_n 3), (55, .iload 4), (57, .if_icmp .eq 14), (60, .aload_n 0), (61, .iload 4), (63, .invokevirtual 96)],
  [(66, .bipush 48), (68, .if_icmp .eq 28), (71, .ldc2_w 115), (74, .lload 5), (76, .lmul), (77, .aload_n 0), (78, .iload_n 3), (79, .invokevirtual 96)],
  [(82, .i2l), (83, .ladd), (84, .ldc2_w 117), (87, .lsub), (88, .lstore 5), (90, .iinc 3 1), (93, .goto (-59))],
  [(96, .aload_n 0), (97, .getfield 26), (100, .aload_n 0), (101, .getfield 109), (104, .iload_n 2), (105, .ifCond .eq 9), (108, .lload 5), (110, .lneg), (111, .goto 5)],
  [(114, .lload 5), (116, .lastore), (117, .iload_n 3), (118, .ireturn)]])
theorem mt_g246 : mx_goodB mt_q246 = true := by decide +kernel
/-- PeopleStoreModel.string(I)I -/
def mt_q247 : mt_Q := (⟨"PeopleStoreModel", "string", "(I)I"⟩, prog_11_method_10_code, 5, (some .int), 2, 25, [[(0, .iload_n 1), (1, .iconst 1), (2, .iadd), (3, .istore_n 2), (4, .aload_n 0), (5, .getfield 20), (8, .aload_n 0), (9, .getfield 109), (12, .aload_n 0), (13, .getfield 119)],
  [(16, .iastore), (17, .aload_n 0), (18, .iload_n 2), (19, .invokevirtual 96), (22, .bipush 34), (24, .if_icmp .eq 113), (27, .aload_n 0), (28, .iload_n 2), (29, .invokevirtual 96)],
  [(32, .bipush 92), (34, .if_icmp .ne 7), (37, .iconst 1), (38, .goto 4), (41, .iconst 0), (42, .istore_n 3), (43, .iload_n 3), (44, .ifCond .eq 13), (47, .aload_n 0)],
  [(48, .iload_n 2), (49, .iconst 1), (50, .iadd), (51, .invokevirtual 96), (54, .goto 8), (57, .aload_n 0), (58, .iload_n 2), (59, .invokevirtual 96), (62, .istore 4)],
  [(64, .iload 4), (66, .bipush 32), (68, .if_icmp .lt 28), (71, .iload_n 3), (72, .ifCond .eq 26), (75, .iload 4), (77, .bipush 34), (79, .if_icmp .eq 19)],
  [(82, .iload 4), (84, .bipush 92), (86, .if_icmp .eq 12), (89, .iload 4), (91, .bipush 47), (93, .if_icmp .eq 5)],
  [(96, .iconst (-1)), (97, .ireturn), (98, .aload_n 0), (99, .getfield 30), (102, .aload_n 0), (103, .getfield 119), (106, .iload 4), (108, .i2c), (109, .castore), (110, .aload_n 0), (111, .dup)],
  [(112, .getfield 119), (115, .iconst 1), (116, .iadd), (117, .putfield 119), (120, .iload_n 3), (121, .ifCond .eq 9), (124, .iload_n 2), (125, .iconst 2), (126, .iadd), (127, .goto 6)],
  [(130, .iload_n 2), (131, .iconst 1), (132, .iadd), (133, .istore_n 2), (134, .goto (-117)), (137, .aload_n 0), (138, .getfield 23), (141, .aload_n 0), (142, .getfield 109)],
  [(145, .aload_n 0), (146, .getfield 119), (149, .aload_n 0), (150, .getfield 20), (153, .aload_n 0), (154, .getfield 109), (157, .iaload), (158, .isub), (159, .iastore)],
  [(160, .iload_n 2), (161, .iconst 1), (162, .iadd), (163, .ireturn)]])
theorem mt_g247 : mx_goodB mt_q247 = true := by decide +kernel
/-- PeopleStoreModel.isSign(I)Z -/
def mt_q248 : mt_Q := (⟨"PeopleStoreModel", "isSign", "(I)Z"⟩, prog_11_method_7_code, 1, (some .boolean), 1, 25, [[(0, .iload_n 0), (1, .bipush 123), (3, .if_icmp .eq 75), (6, .iload_n 0), (7, .bipush 125), (9, .if_icmp .eq 69), (12, .iload_n 0), (13, .bipush 91), (15, .if_icmp .eq 63)],
  [(18, .iload_n 0), (19, .bipush 93), (21, .if_icmp .eq 57), (24, .iload_n 0), (25, .bipush 40), (27, .if_icmp .eq 51), (30, .iload_n 0), (31, .bipush 41)],
  [(33, .if_icmp .eq 45), (36, .iload_n 0), (37, .bipush 58), (39, .if_icmp .eq 39), (42, .iload_n 0), (43, .bipush 44), (45, .if_icmp .eq 33)],
  [(48, .iload_n 0), (49, .bipush 46), (51, .if_icmp .eq 27), (54, .iload_n 0), (55, .bipush 43), (57, .if_icmp .eq 21), (60, .iload_n 0), (61, .bipush 45), (63, .if_icmp .eq 15)],
  [(66, .iload_n 0), (67, .bipush 61), (69, .if_icmp .eq 9), (72, .iload_n 0), (73, .bipush 10), (75, .if_icmp .ne 7), (78, .iconst 1), (79, .goto 4)],
  [(82, .iconst 0), (83, .ireturn)]])
theorem mt_g248 : mx_goodB mt_q248 = true := by decide +kernel
/-- PeopleStoreModel.is(II)Z -/
def mt_q249 : mt_Q := (⟨"PeopleStoreModel", "is", "(II)Z"⟩, prog_11_method_12_code, 3, (some .boolean), 3, 25, [[(0, .iload_n 1), (1, .aload_n 0), (2, .getfield 109), (5, .if_icmp .ge 29), (8, .aload_n 0), (9, .getfield 17), (12, .iload_n 1), (13, .iaload), (14, .iconst 4), (15, .if_icmp .ne 19)],
  [(18, .aload_n 0), (19, .getfield 26), (22, .iload_n 1), (23, .laload), (24, .iload_n 2), (25, .i2l), (26, .lcmp), (27, .ifCond .ne 7), (30, .iconst 1), (31, .goto 4)],
  [(34, .iconst 0), (35, .ireturn)]])
theorem mt_g249 : mx_goodB mt_q249 = true := by decide +kernel
/-- PeopleStoreModel.valueAt(I)I -/
def mt_q250 : mt_Q := (⟨"PeopleStoreModel", "valueAt", "(I)I"⟩, prog_11_method_22_code, 3, (some .int), 2, 25, [[(0, .aload_n 0), (1, .iload_n 1), (2, .invokevirtual 165), (5, .istore_n 2), (6, .iload_n 2), (7, .ifCond .lt 16), (10, .aload_n 0), (11, .iload_n 1), (12, .iload_n 2), (13, .invokevirtual 168)],
  [(16, .ifCond .eq 7), (19, .iload_n 2), (20, .goto 4), (23, .iconst (-1)), (24, .ireturn)]])
theorem mt_g250 : mx_goodB mt_q250 = true := by decide +kernel
/-- PeopleStoreModel.behind(I)I -/
def mt_q251 : mt_Q := (⟨"PeopleStoreModel", "behind", "(I)I"⟩, prog_11_method_16_code, 7, (some .int), 2, 25, [[(0, .iconst 0), (1, .istore_n 2), (2, .iload_n 1), (3, .istore_n 3), (4, .iconst 1), (5, .istore 4), (7, .iload 4), (9, .ifCond .ne 7), (12, .iload_n 2), (13, .ifCond .le 241)],
  [(16, .aload_n 0), (17, .iload_n 3), (18, .bipush 123), (20, .invokevirtual 142), (23, .istore 5), (25, .iload 4), (27, .ifCond .eq 114), (30, .iload 5)],
  [(32, .ifCond .ne 13), (35, .aload_n 0), (36, .iload_n 3), (37, .bipush 91), (39, .invokevirtual 142), (42, .ifCond .eq 99), (45, .iinc 2 1)],
  [(48, .iload_n 2), (49, .iconst 3), (50, .if_icmp .le 5), (53, .iconst (-1)), (54, .ireturn), (55, .aload_n 0), (56, .getfield 33), (59, .iload_n 2), (60, .iload 5), (62, .ifCond .eq 8)],
  [(65, .bipush 125), (67, .goto 5), (70, .bipush 93), (72, .iastore), (73, .aload_n 0), (74, .iload_n 3), (75, .iconst 1), (76, .iadd), (77, .aload_n 0), (78, .getfield 33)],
  [(81, .iload_n 2), (82, .iaload), (83, .invokevirtual 142), (86, .ifCond .ne 7), (89, .iconst 1), (90, .goto 4), (93, .iconst 0), (94, .istore 4)],
  [(96, .iload 4), (98, .ifCond .eq 20), (101, .iload 5), (103, .ifCond .eq 15), (106, .aload_n 0), (107, .iload_n 3), (108, .iconst 1), (109, .iadd), (110, .invokevirtual 146)],
  [(113, .ifCond .ne 5), (116, .iconst (-1)), (117, .ireturn), (118, .iload 4), (120, .ifCond .eq 14), (123, .iload 5), (125, .ifCond .eq 9)],
  [(128, .iload_n 3), (129, .iconst 3), (130, .iadd), (131, .goto 6), (134, .iload_n 3), (135, .iconst 1), (136, .iadd), (137, .istore_n 3), (138, .goto 113), (141, .iload 4), (143, .ifCond .eq 22)],
  [(146, .aload_n 0), (147, .iload_n 3), (148, .invokevirtual 149), (151, .ifCond .ne 5), (154, .iconst (-1)), (155, .ireturn), (156, .iinc 3 1), (159, .iconst 0)],
  [(160, .istore 4), (162, .goto 89), (165, .aload_n 0), (166, .iload_n 3), (167, .aload_n 0), (168, .getfield 33), (171, .iload_n 2), (172, .iaload), (173, .invokevirtual 142)],
  [(176, .ifCond .eq 12), (179, .iinc 3 1), (182, .iinc 2 (-1)), (185, .goto 66), (188, .aload_n 0), (189, .getfield 33)],
  [(192, .iload_n 2), (193, .iaload), (194, .bipush 125), (196, .if_icmp .ne 7), (199, .iconst 1), (200, .goto 4), (203, .iconst 0), (204, .istore 6), (206, .aload_n 0), (207, .iload_n 3)],
  [(208, .bipush 44), (210, .invokevirtual 142), (213, .ifCond .eq 18), (216, .iload 6), (218, .ifCond .eq 15), (221, .aload_n 0), (222, .iload_n 3), (223, .iconst 1)],
  [(224, .iadd), (225, .invokevirtual 146), (228, .ifCond .ne 5), (231, .iconst (-1)), (232, .ireturn), (233, .iload 6), (235, .ifCond .eq 9), (238, .iload_n 3), (239, .iconst 3)],
  [(240, .iadd), (241, .goto 6), (244, .iload_n 3), (245, .iconst 1), (246, .iadd), (247, .istore_n 3), (248, .iconst 1), (249, .istore 4), (251, .goto (-244)), (254, .iload_n 3), (255, .ireturn)]])
theorem mt_g251 : mx_goodB mt_q251 = true := by decide +kernel
/-- PeopleStoreModel.isMember(I)Z -/
def mt_q252 : mt_Q := (⟨"PeopleStoreModel", "isMember", "(I)Z"⟩, prog_11_method_15_code, 2, (some .boolean), 2, 25, [[(0, .iload_n 1), (1, .aload_n 0), (2, .getfield 109), (5, .if_icmp .ge 29), (8, .aload_n 0), (9, .getfield 17), (12, .iload_n 1), (13, .iaload), (14, .iconst 3), (15, .if_icmp .ne 19)],
  [(18, .aload_n 0), (19, .iload_n 1), (20, .iconst 1), (21, .iadd), (22, .bipush 58), (24, .invokevirtual 142), (27, .ifCond .eq 7), (30, .iconst 1), (31, .goto 4)],
  [(34, .iconst 0), (35, .ireturn)]])
theorem mt_g252 : mx_goodB mt_q252 = true := by decide +kernel
/-- PeopleStoreModel.scalar(I)I -/
def mt_q253 : mt_Q := (⟨"PeopleStoreModel", "scalar", "(I)I"⟩, prog_11_method_14_code, 2, (some .int), 2, 25, [[(0, .iload_n 1), (1, .aload_n 0), (2, .getfield 109), (5, .if_icmp .lt 7), (8, .iconst 0), (9, .goto 58), (12, .aload_n 0), (13, .getfield 17)],
  [(16, .iload_n 1), (17, .iaload), (18, .iconst 2), (19, .if_icmp .ne 7), (22, .iconst 1), (23, .goto 44), (26, .aload_n 0), (27, .getfield 17), (30, .iload_n 1), (31, .iaload)],
  [(32, .iconst 3), (33, .if_icmp .ne 7), (36, .iconst 2), (37, .goto 30), (40, .aload_n 0), (41, .iload_n 1), (42, .ldc2_w 134), (45, .invokevirtual 136)],
  [(48, .ifCond .ne 14), (51, .aload_n 0), (52, .iload_n 1), (53, .ldc2_w 140), (56, .invokevirtual 136), (59, .ifCond .eq 7), (62, .iconst 3), (63, .goto 4)],
  [(66, .iconst 0), (67, .ireturn)]])
theorem mt_g253 : mx_goodB mt_q253 = true := by decide +kernel
/-- PeopleStoreModel.says(IJ)Z -/
def mt_q254 : mt_Q := (⟨"PeopleStoreModel", "says", "(IJ)Z"⟩, prog_11_method_13_code, 4, (some .boolean), 3, 25, [[(0, .iload_n 1), (1, .aload_n 0), (2, .getfield 109), (5, .if_icmp .ge 28), (8, .aload_n 0), (9, .getfield 17), (12, .iload_n 1), (13, .iaload), (14, .iconst 1), (15, .if_icmp .ne 18)],
  [(18, .aload_n 0), (19, .getfield 26), (22, .iload_n 1), (23, .laload), (24, .lload_n 2), (25, .lcmp), (26, .ifCond .ne 7), (29, .iconst 1), (30, .goto 4)],
  [(33, .iconst 0), (34, .ireturn)]])
theorem mt_g254 : mx_goodB mt_q254 = true := by decide +kernel
/-- PeopleStoreModel.single(II)Z -/
def mt_q255 : mt_Q := (⟨"PeopleStoreModel", "single", "(II)Z"⟩, prog_11_method_21_code, 6, (some .boolean), 3, 25, [[(0, .iload_n 1), (1, .istore_n 3), (2, .iload_n 3), (3, .iload_n 2), (4, .if_icmp .ge 86), (7, .aload_n 0), (8, .iload_n 3), (9, .bipush 123), (11, .invokevirtual 142), (14, .ifCond .eq 11)],
  [(17, .aload_n 0), (18, .iload_n 3), (19, .invokevirtual 155), (22, .goto 4), (25, .iconst (-1)), (26, .istore 4), (28, .iload 4), (30, .ifCond .lt 54)],
  [(33, .aload_n 0), (34, .iload 4), (36, .iconst 1), (37, .invokevirtual 158), (40, .istore 5), (42, .iload 5), (44, .ifCond .lt 28), (47, .aload_n 0)],
  [(48, .iload 4), (50, .iload 5), (52, .invokevirtual 162), (55, .ifCond .eq 5), (58, .iconst 0), (59, .ireturn), (60, .aload_n 0), (61, .iload 5), (63, .iconst 1)],
  [(64, .invokevirtual 158), (67, .istore 5), (69, .goto (-27)), (72, .aload_n 0), (73, .iload 4), (75, .iconst 1), (76, .invokevirtual 158), (79, .istore 4)],
  [(81, .goto (-53)), (84, .iinc 3 1), (87, .goto (-85)), (90, .iconst 1), (91, .ireturn)]])
theorem mt_g255 : mx_goodB mt_q255 = true := by decide +kernel
def mt_qk15 : List mt_Q := [mt_q240, mt_q241, mt_q242, mt_q243, mt_q244, mt_q245, mt_q246, mt_q247, mt_q248, mt_q249, mt_q250, mt_q251, mt_q252, mt_q253, mt_q254, mt_q255]
theorem mt_gk15 : ∀ q ∈ mt_qk15, mx_goodB q = true := List.forall_mem_cons.mpr ⟨mt_g240, List.forall_mem_cons.mpr ⟨mt_g241, List.forall_mem_cons.mpr ⟨mt_g242, List.forall_mem_cons.mpr ⟨mt_g243, List.forall_mem_cons.mpr ⟨mt_g244, List.forall_mem_cons.mpr ⟨mt_g245, List.forall_mem_cons.mpr ⟨mt_g246, List.forall_mem_cons.mpr ⟨mt_g247, List.forall_mem_cons.mpr ⟨mt_g248, List.forall_mem_cons.mpr ⟨mt_g249, List.forall_mem_cons.mpr ⟨mt_g250, List.forall_mem_cons.mpr ⟨mt_g251, List.forall_mem_cons.mpr ⟨mt_g252, List.forall_mem_cons.mpr ⟨mt_g253, List.forall_mem_cons.mpr ⟨mt_g254, List.forall_mem_cons.mpr ⟨mt_g255, fun _ h => absurd h List.not_mem_nil⟩⟩⟩⟩⟩⟩⟩⟩⟩⟩⟩⟩⟩⟩⟩⟩
/-- PeopleStoreModel.first(I)I -/
def mt_q256 : mt_Q := (⟨"PeopleStoreModel", "first", "(I)I"⟩, prog_11_method_18_code, 2, (some .int), 2, 25, [[(0, .aload_n 0), (1, .iload_n 1), (2, .iconst 1), (3, .iadd), (4, .bipush 125), (6, .invokevirtual 142), (9, .ifCond .ne 15), (12, .aload_n 0), (13, .iload_n 1), (14, .iconst 1), (15, .iadd)],
  [(16, .bipush 93), (18, .invokevirtual 142), (21, .ifCond .eq 7), (24, .iconst (-1)), (25, .goto 6), (28, .iload_n 1), (29, .iconst 1), (30, .iadd), (31, .ireturn)]])
theorem mt_g256 : mx_goodB mt_q256 = true := by decide +kernel
/-- PeopleStoreModel.after(IZ)I -/
def mt_q257 : mt_Q := (⟨"PeopleStoreModel", "after", "(IZ)I"⟩, prog_11_method_19_code, 4, (some .int), 3, 25, [[(0, .aload_n 0), (1, .iload_n 2), (2, .ifCond .eq 9), (5, .iload_n 1), (6, .iconst 2), (7, .iadd), (8, .goto 4), (11, .iload_n 1), (12, .invokevirtual 152), (15, .istore_n 3)],
  [(16, .aload_n 0), (17, .iload_n 3), (18, .bipush 44), (20, .invokevirtual 142), (23, .ifCond .eq 9), (26, .iload_n 3), (27, .iconst 1), (28, .iadd), (29, .goto 4)],
  [(32, .iconst (-1)), (33, .ireturn)]])
theorem mt_g257 : mx_goodB mt_q257 = true := by decide +kernel
/-- PeopleStoreModel.over(I)I -/
def mt_q258 : mt_Q := (⟨"PeopleStoreModel", "over", "(I)I"⟩, prog_11_method_17_code, 5, (some .int), 2, 25, [[(0, .iconst 0), (1, .istore_n 2), (2, .iload_n 1), (3, .istore_n 3), (4, .iconst 1), (5, .istore 4), (7, .iload 4), (9, .ifCond .eq 72), (12, .iload_n 2), (13, .aload_n 0), (14, .iload_n 3), (15, .bipush 123)],
  [(17, .invokevirtual 142), (20, .ifCond .ne 13), (23, .aload_n 0), (24, .iload_n 3), (25, .bipush 91), (27, .invokevirtual 142), (30, .ifCond .eq 7)],
  [(33, .iconst 1), (34, .goto 28), (37, .aload_n 0), (38, .iload_n 3), (39, .bipush 125), (41, .invokevirtual 142), (44, .ifCond .ne 13), (47, .aload_n 0)],
  [(48, .iload_n 3), (49, .bipush 93), (51, .invokevirtual 142), (54, .ifCond .eq 7), (57, .iconst (-1)), (58, .goto 4), (61, .iconst 0), (62, .iadd), (63, .istore_n 2)],
  [(64, .iinc 3 1), (67, .iload_n 2), (68, .ifCond .le 7), (71, .iconst 1), (72, .goto 4), (75, .iconst 0), (76, .istore 4), (78, .goto (-71))],
  [(81, .iload_n 3), (82, .ireturn)]])
theorem mt_g258 : mx_goodB mt_q258 = true := by decide +kernel
/-- PeopleStoreModel.sameName(II)Z -/
def mt_q259 : mt_Q := (⟨"PeopleStoreModel", "sameName", "(II)Z"⟩, prog_11_method_20_code, 5, (some .boolean), 3, 25, [[(0, .aload_n 0), (1, .getfield 23), (4, .iload_n 1), (5, .iaload), (6, .aload_n 0), (7, .getfield 23), (10, .iload_n 2), (11, .iaload), (12, .if_icmp .ne 7), (15, .iconst 1)],
  [(16, .goto 4), (19, .iconst 0), (20, .istore_n 3), (21, .iconst 0), (22, .istore 4), (24, .iload 4), (26, .aload_n 0), (27, .getfield 23), (30, .iload_n 1), (31, .iaload)],
  [(32, .if_icmp .ge 56), (35, .iload_n 3), (36, .ifCond .eq 52), (39, .aload_n 0), (40, .getfield 30), (43, .aload_n 0), (44, .getfield 20), (47, .iload_n 1)],
  [(48, .iaload), (49, .iload 4), (51, .iadd), (52, .caload), (53, .invokestatic 92), (56, .aload_n 0), (57, .getfield 30), (60, .aload_n 0), (61, .getfield 20)],
  [(64, .iload_n 2), (65, .iaload), (66, .iload 4), (68, .iadd), (69, .caload), (70, .invokestatic 92), (73, .if_icmp .ne 7), (76, .iconst 1), (77, .goto 4)],
  [(80, .iconst 0), (81, .istore_n 3), (82, .iinc 4 1), (85, .goto (-61)), (88, .iload_n 3), (89, .ireturn)]])
theorem mt_g259 : mx_goodB mt_q259 = true := by decide +kernel
/-- PeopleStoreModel.set(III)V -/
def mt_q260 : mt_Q := (⟨"PeopleStoreModel", "set", "(III)V"⟩, prog_11_method_25_code, 4, none, 4, 25, [[(0, .aload_n 0), (1, .getfield 7), (4, .bipush 80), (6, .iload_n 1), (7, .imul), (8, .iload_n 2), (9, .iadd), (10, .iload_n 3), (11, .iastore), (12, .return_)]])
theorem mt_g260 : mx_goodB mt_q260 = true := by decide +kernel
/-- PeopleStoreModel.fill(I)Z -/
def mt_q261 : mt_Q := (⟨"PeopleStoreModel", "fill", "(I)Z"⟩, prog_11_method_41_code, 7, (some .boolean), 2, 25, [[(0, .iconst 2), (1, .istore_n 2), (2, .iload_n 2), (3, .bipush 80), (5, .if_icmp .ge 17), (8, .aload_n 0), (9, .bipush 8), (11, .iload_n 2), (12, .iconst 0), (13, .invokevirtual 175)],
  [(16, .iinc 2 1), (19, .goto (-17)), (22, .iconst 1), (23, .istore_n 2), (24, .aload_n 0), (25, .iload_n 1), (26, .invokevirtual 155), (29, .istore_n 3), (30, .iload_n 3), (31, .ifCond .lt 139)],
  [(34, .iload_n 2), (35, .ifCond .eq 135), (38, .aload_n 0), (39, .iload_n 3), (40, .invokevirtual 179), (43, .lstore 4), (45, .iload_n 3), (46, .iconst 2), (47, .iadd)],
  [(48, .istore 6), (50, .lload 4), (52, .ldc2_w 225), (55, .lcmp), (56, .ifCond .eq 86), (59, .lload 4), (61, .ldc2_w 227)],
  [(64, .lcmp), (65, .ifCond .eq 77), (68, .lload 4), (70, .ldc2_w 229), (73, .lcmp), (74, .ifCond .ne 12), (77, .aload_n 0), (78, .iload 6)],
  [(80, .invokevirtual 189), (83, .ifCond .ne 59), (86, .lload 4), (88, .ldc2_w 231), (91, .lcmp), (92, .ifCond .ne 13), (95, .aload_n 0)],
  [(96, .iload 6), (98, .invokevirtual 149), (101, .iconst 1), (102, .if_icmp .eq 40), (105, .lload 4), (107, .ldc2_w 233), (110, .lcmp), (111, .ifCond .ne 13)],
  [(114, .aload_n 0), (115, .iload 6), (117, .invokevirtual 149), (120, .iconst 3), (121, .if_icmp .eq 21), (124, .lload 4), (126, .ldc2_w 235)],
  [(129, .lcmp), (130, .ifCond .ne 16), (133, .aload_n 0), (134, .iload 6), (136, .invokevirtual 237), (139, .ifCond .eq 7), (142, .iconst 1), (143, .goto 4)],
  [(146, .iconst 0), (147, .istore_n 2), (148, .iload_n 2), (149, .ifCond .eq 11), (152, .aload_n 0), (153, .lload 4), (155, .iload 6), (157, .invokevirtual 240)],
  [(160, .aload_n 0), (161, .iload_n 3), (162, .iconst 1), (163, .invokevirtual 158), (166, .istore_n 3), (167, .goto (-137)), (170, .iload_n 2), (171, .ifCond .eq 17), (174, .aload_n 0), (175, .bipush 8)],
  [(177, .iconst 2), (178, .invokevirtual 171), (181, .ifCond .le 7), (184, .iconst 1), (185, .goto 4), (188, .iconst 0), (189, .ireturn)]])
theorem mt_g261 : mx_goodB mt_q261 = true := by decide +kernel
/-- PeopleStoreModel.nameOf(I)J -/
def mt_q262 : mt_Q := (⟨"PeopleStoreModel", "nameOf", "(I)J"⟩, prog_11_method_23_code, 6, (some .long), 2, 25, [[(0, .lconst 0), (1, .lstore_n 2), (2, .iconst 0), (3, .istore 4), (5, .iload 4), (7, .aload_n 0), (8, .getfield 23), (11, .iload_n 1), (12, .iaload), (13, .if_icmp .ge 61)],
  [(16, .aload_n 0), (17, .getfield 30), (20, .aload_n 0), (21, .getfield 20), (24, .iload_n 1), (25, .iaload), (26, .iload 4), (28, .iadd), (29, .caload), (30, .istore 5)],
  [(32, .iload 5), (34, .invokestatic 99), (37, .ifCond .eq 10), (40, .iload 4), (42, .bipush 8), (44, .if_icmp .le 7), (47, .ldc2_w 103)],
  [(50, .lreturn), (51, .ldc2_w 105), (54, .lload_n 2), (55, .lmul), (56, .iload 5), (58, .invokestatic 92), (61, .i2l), (62, .ladd), (63, .ldc2_w 107)],
  [(66, .lsub), (67, .lstore_n 2), (68, .iinc 4 1), (71, .goto (-66)), (74, .lload_n 2), (75, .lreturn)]])
theorem mt_g262 : mx_goodB mt_q262 = true := by decide +kernel
/-- PeopleStoreModel.fits(I)Z -/
def mt_q263 : mt_Q := (⟨"PeopleStoreModel", "fits", "(I)Z"⟩, prog_11_method_28_code, 2, (some .boolean), 2, 25, [[(0, .aload_n 0), (1, .iload_n 1), (2, .invokevirtual 149), (5, .iconst 2), (6, .if_icmp .ne 28), (9, .aload_n 0), (10, .getfield 23), (13, .iload_n 1), (14, .iaload), (15, .iconst 1)],
  [(16, .if_icmp .lt 18), (19, .aload_n 0), (20, .getfield 23), (23, .iload_n 1), (24, .iaload), (25, .bipush 12), (27, .if_icmp .gt 7), (30, .iconst 1), (31, .goto 4)],
  [(34, .iconst 0), (35, .ireturn)]])
theorem mt_g263 : mx_goodB mt_q263 = true := by decide +kernel
/-- PeopleStoreModel.fillItems(I)Z -/
def mt_q264 : mt_Q := (⟨"PeopleStoreModel", "fillItems", "(I)Z"⟩, prog_11_method_40_code, 4, (some .boolean), 2, 25, [[(0, .aload_n 0), (1, .iload_n 1), (2, .invokevirtual 211), (5, .ifCond .ne 5), (8, .iconst 0), (9, .ireturn), (10, .iconst 0), (11, .istore_n 2), (12, .aload_n 0), (13, .iload_n 1), (14, .invokevirtual 155)],
  [(17, .istore_n 3), (18, .iload_n 3), (19, .ifCond .lt 44), (22, .iload_n 2), (23, .iconst 4), (24, .if_icmp .ne 5), (27, .iconst 0), (28, .ireturn), (29, .aload_n 0), (30, .bipush 8)],
  [(32, .aload_n 0), (33, .iload_n 2), (34, .invokevirtual 198), (37, .bipush 13), (39, .iadd), (40, .iconst 0), (41, .invokevirtual 175), (44, .aload_n 0), (45, .iload_n 2), (46, .iload_n 3), (47, .invokevirtual 214)],
  [(50, .iinc 2 1), (53, .aload_n 0), (54, .iload_n 3), (55, .iconst 0), (56, .invokevirtual 158), (59, .istore_n 3), (60, .goto (-42)), (63, .aload_n 0)],
  [(64, .bipush 8), (66, .bipush 19), (68, .iload_n 2), (69, .invokevirtual 175), (72, .aload_n 0), (73, .invokevirtual 217), (76, .ifCond .ne 15), (79, .aload_n 0)],
  [(80, .invokevirtual 221), (83, .iconst 2), (84, .if_icmp .ge 7), (87, .iconst 1), (88, .goto 4), (91, .iconst 0), (92, .ireturn)]])
theorem mt_g264 : mx_goodB mt_q264 = true := by decide +kernel
/-- PeopleStoreModel.isItems(I)Z -/
def mt_q265 : mt_Q := (⟨"PeopleStoreModel", "isItems", "(I)Z"⟩, prog_11_method_34_code, 4, (some .boolean), 2, 25, [[(0, .aload_n 0), (1, .iload_n 1), (2, .bipush 91), (4, .invokevirtual 142), (7, .ifCond .ne 5), (10, .iconst 0), (11, .ireturn), (12, .iconst 1), (13, .istore_n 2), (14, .aload_n 0), (15, .iload_n 1)],
  [(16, .invokevirtual 155), (19, .istore_n 3), (20, .iload_n 3), (21, .ifCond .lt 32), (24, .iload_n 2), (25, .ifCond .eq 16), (28, .aload_n 0), (29, .iload_n 3), (30, .iconst 1), (31, .invokevirtual 194)],
  [(34, .ifCond .eq 7), (37, .iconst 1), (38, .goto 4), (41, .iconst 0), (42, .istore_n 2), (43, .aload_n 0), (44, .iload_n 3), (45, .iconst 0), (46, .invokevirtual 158)],
  [(49, .istore_n 3), (50, .goto (-30)), (53, .iload_n 2), (54, .ireturn)]])
theorem mt_g265 : mx_goodB mt_q265 = true := by decide +kernel
/-- PeopleStoreModel.isItem(IZ)Z -/
def mt_q266 : mt_Q := (⟨"PeopleStoreModel", "isItem", "(IZ)Z"⟩, prog_11_method_33_code, 5, (some .boolean), 3, 25, [[(0, .aload_n 0), (1, .iload_n 1), (2, .bipush 123), (4, .invokevirtual 142), (7, .ifCond .ne 5), (10, .iconst 0), (11, .ireturn), (12, .iload_n 2), (13, .ifCond .eq 14)],
  [(16, .aload_n 0), (17, .iload_n 1), (18, .ldc2_w 183), (21, .invokevirtual 185), (24, .ifCond .lt 7), (27, .iconst 1), (28, .goto 4), (31, .iconst 0)],
  [(32, .istore_n 3), (33, .aload_n 0), (34, .iload_n 1), (35, .invokevirtual 155), (38, .istore 4), (40, .iload 4), (42, .ifCond .lt 74), (45, .iload_n 3), (46, .ifCond .eq 56)],
  [(49, .aload_n 0), (50, .iload 4), (52, .invokevirtual 179), (55, .ldc2_w 183), (58, .lcmp), (59, .ifCond .ne 14), (62, .aload_n 0), (63, .iload 4)],
  [(65, .iconst 2), (66, .iadd), (67, .invokevirtual 189), (70, .ifCond .ne 28), (73, .aload_n 0), (74, .iload 4), (76, .invokevirtual 179), (79, .ldc2_w 192)],
  [(82, .lcmp), (83, .ifCond .ne 19), (86, .aload_n 0), (87, .iload 4), (89, .iconst 2), (90, .iadd), (91, .invokevirtual 149), (94, .iconst 3), (95, .if_icmp .ne 7)],
  [(98, .iconst 1), (99, .goto 4), (102, .iconst 0), (103, .istore_n 3), (104, .aload_n 0), (105, .iload 4), (107, .iconst 1), (108, .invokevirtual 158), (111, .istore 4)],
  [(113, .goto (-73)), (116, .iload_n 3), (117, .ireturn)]])
theorem mt_g266 : mx_goodB mt_q266 = true := by decide +kernel
/-- PeopleStoreModel.member(IJ)I -/
def mt_q267 : mt_Q := (⟨"PeopleStoreModel", "member", "(IJ)I"⟩, prog_11_method_32_code, 5, (some .int), 3, 25, [[(0, .aload_n 0), (1, .iload_n 1), (2, .invokevirtual 155), (5, .istore 4), (7, .iload 4), (9, .ifCond .lt 31), (12, .aload_n 0), (13, .iload 4), (15, .invokevirtual 179)],
  [(18, .lload_n 2), (19, .lcmp), (20, .ifCond .ne 8), (23, .iload 4), (25, .iconst 2), (26, .iadd), (27, .ireturn), (28, .aload_n 0), (29, .iload 4), (31, .iconst 1)],
  [(32, .invokevirtual 158), (35, .istore 4), (37, .goto (-30)), (40, .iconst (-1)), (41, .ireturn)]])
theorem mt_g267 : mx_goodB mt_q267 = true := by decide +kernel
/-- PeopleStoreModel.item(I)I -/
def mt_q268 : mt_Q := (⟨"PeopleStoreModel", "item", "(I)I"⟩, prog_11_method_30_code, 2, (some .int), 2, 25, [[(0, .bipush 20), (2, .bipush 14), (4, .iload_n 1), (5, .imul), (6, .iadd), (7, .ireturn)]])
theorem mt_g268 : mx_goodB mt_q268 = true := by decide +kernel
/-- PeopleStoreModel.give(II)V -/
def mt_q269 : mt_Q := (⟨"PeopleStoreModel", "give", "(II)V"⟩, prog_11_method_37_code, 5, none, 3, 25, [[(0, .aload_n 0), (1, .iload_n 2), (2, .ldc2_w 183), (5, .invokevirtual 185), (8, .istore_n 3), (9, .aload_n 0), (10, .iload_n 2), (11, .ldc2_w 192), (14, .invokevirtual 185)],
  [(17, .istore 4), (19, .iload_n 3), (20, .ifCond .lt 13), (23, .aload_n 0), (24, .aload_n 0), (25, .iload_n 1), (26, .invokevirtual 198), (29, .iload_n 3), (30, .invokevirtual 201)],
  [(33, .iload 4), (35, .ifCond .lt 14), (38, .aload_n 0), (39, .iload_n 1), (40, .aload_n 0), (41, .iload 4), (43, .invokevirtual 205), (46, .invokevirtual 208)],
  [(49, .return_)]])
theorem mt_g269 : mx_goodB mt_q269 = true := by decide +kernel
/-- PeopleStoreModel.setText(II)V -/
def mt_q270 : mt_Q := (⟨"PeopleStoreModel", "setText", "(II)V"⟩, prog_11_method_29_code, 4, none, 3, 25, [[(0, .aload_n 0), (1, .bipush 8), (3, .iload_n 1), (4, .aload_n 0), (5, .getfield 23), (8, .iload_n 2), (9, .iaload), (10, .invokevirtual 175), (13, .iconst 0), (14, .istore_n 3), (15, .iload_n 3)],
  [(16, .bipush 12), (18, .if_icmp .ge 47), (21, .aload_n 0), (22, .bipush 8), (24, .iload_n 1), (25, .iconst 1), (26, .iadd), (27, .iload_n 3), (28, .iadd), (29, .iload_n 3), (30, .aload_n 0), (31, .getfield 23)],
  [(34, .iload_n 2), (35, .iaload), (36, .if_icmp .ge 19), (39, .aload_n 0), (40, .getfield 30), (43, .aload_n 0), (44, .getfield 20), (47, .iload_n 2)],
  [(48, .iaload), (49, .iload_n 3), (50, .iadd), (51, .caload), (52, .goto 4), (55, .iconst 0), (56, .invokevirtual 175), (59, .iinc 3 1), (62, .goto (-47))],
  [(65, .return_)]])
theorem mt_g270 : mx_goodB mt_q270 = true := by decide +kernel
/-- PeopleStoreModel.truthOf(I)I -/
def mt_q271 : mt_Q := (⟨"PeopleStoreModel", "truthOf", "(I)I"⟩, prog_11_method_31_code, 2, (some .int), 2, 25, [[(0, .aload_n 0), (1, .iload_n 1), (2, .ldc2_w 134), (5, .invokevirtual 136), (8, .ifCond .eq 7), (11, .iconst 1), (12, .goto 4), (15, .iconst 2)],
  [(16, .ireturn)]])
theorem mt_g271 : mx_goodB mt_q271 = true := by decide +kernel
def mt_qk16 : List mt_Q := [mt_q256, mt_q257, mt_q258, mt_q259, mt_q260, mt_q261, mt_q262, mt_q263, mt_q264, mt_q265, mt_q266, mt_q267, mt_q268, mt_q269, mt_q270, mt_q271]
theorem mt_gk16 : ∀ q ∈ mt_qk16, mx_goodB q = true := List.forall_mem_cons.mpr ⟨mt_g256, List.forall_mem_cons.mpr ⟨mt_g257, List.forall_mem_cons.mpr ⟨mt_g258, List.forall_mem_cons.mpr ⟨mt_g259, List.forall_mem_cons.mpr ⟨mt_g260, List.forall_mem_cons.mpr ⟨mt_g261, List.forall_mem_cons.mpr ⟨mt_g262, List.forall_mem_cons.mpr ⟨mt_g263, List.forall_mem_cons.mpr ⟨mt_g264, List.forall_mem_cons.mpr ⟨mt_g265, List.forall_mem_cons.mpr ⟨mt_g266, List.forall_mem_cons.mpr ⟨mt_g267, List.forall_mem_cons.mpr ⟨mt_g268, List.forall_mem_cons.mpr ⟨mt_g269, List.forall_mem_cons.mpr ⟨mt_g270, List.forall_mem_cons.mpr ⟨mt_g271, fun _ h => absurd h List.not_mem_nil⟩⟩⟩⟩⟩⟩⟩⟩⟩⟩⟩⟩⟩⟩⟩⟩
/-- PeopleStoreModel.setTruth(II)V -/
def mt_q272 : mt_Q := (⟨"PeopleStoreModel", "setTruth", "(II)V"⟩, prog_11_method_36_code, 3, none, 3, 25, [[(0, .aload_n 0), (1, .bipush 8), (3, .aload_n 0), (4, .iload_n 1), (5, .invokevirtual 198), (8, .bipush 13), (10, .iadd), (11, .iload_n 2), (12, .invokevirtual 175), (15, .aload_n 0)],
  [(16, .getfield 79), (19, .iload_n 1), (20, .iload_n 2), (21, .iconst 1), (22, .if_icmp .ne 7), (25, .iconst 1), (26, .goto 4), (29, .iconst 0), (30, .bastore), (31, .return_)]])
theorem mt_g272 : mx_goodB mt_q272 = true := by decide +kernel
/-- PeopleStoreModel.twice()Z -/
def mt_q273 : mt_Q := (⟨"PeopleStoreModel", "twice", "()Z"⟩, prog_11_method_38_code, 5, (some .boolean), 1, 25, [[(0, .iconst 0), (1, .istore_n 1), (2, .iload_n 1), (3, .aload_n 0), (4, .bipush 8), (6, .bipush 19), (8, .invokevirtual 171), (11, .if_icmp .ge 87), (14, .iconst 0), (15, .istore_n 2)],
  [(16, .iload_n 2), (17, .iload_n 1), (18, .if_icmp .ge 74), (21, .iconst 1), (22, .istore_n 3), (23, .iconst 0), (24, .istore 4), (26, .iload 4), (28, .bipush 13), (30, .if_icmp .ge 50)],
  [(33, .iload_n 3), (34, .ifCond .eq 38), (37, .aload_n 0), (38, .bipush 8), (40, .aload_n 0), (41, .iload_n 1), (42, .invokevirtual 198), (45, .iload 4), (47, .iadd)],
  [(48, .invokevirtual 171), (51, .aload_n 0), (52, .bipush 8), (54, .aload_n 0), (55, .iload_n 2), (56, .invokevirtual 198), (59, .iload 4), (61, .iadd), (62, .invokevirtual 171)],
  [(65, .if_icmp .ne 7), (68, .iconst 1), (69, .goto 4), (72, .iconst 0), (73, .istore_n 3), (74, .iinc 4 1), (77, .goto (-51))],
  [(80, .iload_n 3), (81, .ifCond .eq 5), (84, .iconst 1), (85, .ireturn), (86, .iinc 2 1), (89, .goto (-73)), (92, .iinc 1 1), (95, .goto (-93))],
  [(98, .iconst 0), (99, .ireturn)]])
theorem mt_g273 : mx_goodB mt_q273 = true := by decide +kernel
/-- PeopleStoreModel.f(II)I -/
def mt_q274 : mt_Q := (⟨"PeopleStoreModel", "f", "(II)I"⟩, prog_11_method_24_code, 3, (some .int), 3, 25, [[(0, .aload_n 0), (1, .getfield 7), (4, .bipush 80), (6, .iload_n 1), (7, .imul), (8, .iload_n 2), (9, .iadd), (10, .iaload), (11, .ireturn)]])
theorem mt_g274 : mx_goodB mt_q274 = true := by decide +kernel
/-- PeopleStoreModel.trues()I -/
def mt_q275 : mt_Q := (⟨"PeopleStoreModel", "trues", "()I"⟩, prog_11_method_39_code, 3, (some .int), 1, 25, [[(0, .iconst 0), (1, .istore_n 1), (2, .iconst 0), (3, .istore_n 2), (4, .iload_n 2), (5, .aload_n 0), (6, .bipush 8), (8, .bipush 19), (10, .invokevirtual 171), (13, .if_icmp .ge 35)],
  [(16, .aload_n 0), (17, .bipush 8), (19, .aload_n 0), (20, .iload_n 2), (21, .invokevirtual 198), (24, .bipush 13), (26, .iadd), (27, .invokevirtual 171), (30, .iconst 1), (31, .if_icmp .ne 9)],
  [(34, .iload_n 1), (35, .iconst 1), (36, .iadd), (37, .goto 4), (40, .iload_n 1), (41, .istore_n 1), (42, .iinc 2 1), (45, .goto (-41))],
  [(48, .iload_n 1), (49, .ireturn)]])
theorem mt_g275 : mx_goodB mt_q275 = true := by decide +kernel
/-- PeopleStoreModel.setAttribute(JI)V -/
def mt_q276 : mt_Q := (⟨"PeopleStoreModel", "setAttribute", "(JI)V"⟩, prog_11_method_42_code, 4, none, 3, 25, [[(0, .lload_n 1), (1, .ldc2_w 229), (4, .lcmp), (5, .ifCond .ne 9), (8, .aload_n 0), (9, .iconst 2), (10, .iload_n 3), (11, .invokevirtual 201), (14, .lload_n 1), (15, .ldc2_w 231)],
  [(18, .lcmp), (19, .ifCond .ne 27), (22, .aload_n 0), (23, .bipush 8), (25, .bipush 15), (27, .iconst 1), (28, .invokevirtual 175), (31, .aload_n 0)],
  [(32, .bipush 8), (34, .bipush 16), (36, .aload_n 0), (37, .getfield 26), (40, .iload_n 3), (41, .laload), (42, .l2i), (43, .invokevirtual 175), (46, .lload_n 1), (47, .ldc2_w 233)],
  [(50, .lcmp), (51, .ifCond .ne 25), (54, .aload_n 0), (55, .bipush 8), (57, .bipush 17), (59, .iconst 1), (60, .invokevirtual 175), (63, .aload_n 0)],
  [(64, .bipush 8), (66, .bipush 18), (68, .aload_n 0), (69, .iload_n 3), (70, .invokevirtual 205), (73, .invokevirtual 175), (76, .return_)]])
theorem mt_g276 : mx_goodB mt_q276 = true := by decide +kernel
/-- PeopleStoreModel.taken()Z -/
def mt_q277 : mt_Q := (⟨"PeopleStoreModel", "taken", "()Z"⟩, prog_11_method_43_code, 4, (some .boolean), 1, 25, [[(0, .iconst 0), (1, .istore_n 1), (2, .iload_n 1), (3, .bipush 8), (5, .if_icmp .ge 92), (8, .aload_n 0), (9, .iload_n 1), (10, .iconst 0), (11, .invokevirtual 171), (14, .ifCond .le 23)],
  [(17, .aload_n 0), (18, .iload_n 1), (19, .iconst 0), (20, .invokevirtual 171), (23, .aload_n 0), (24, .bipush 8), (26, .iconst 0), (27, .invokevirtual 171), (30, .if_icmp .eq 7)],
  [(33, .iconst 1), (34, .goto 4), (37, .iconst 0), (38, .istore_n 2), (39, .iconst 2), (40, .istore_n 3), (41, .iload_n 3), (42, .bipush 15), (44, .if_icmp .ge 41), (47, .iload_n 2)],
  [(48, .ifCond .eq 37), (51, .aload_n 0), (52, .iload_n 1), (53, .iload_n 3), (54, .invokevirtual 171), (57, .invokestatic 92), (60, .aload_n 0), (61, .bipush 8), (63, .iload_n 3)],
  [(64, .invokevirtual 171), (67, .invokestatic 92), (70, .if_icmp .ne 7), (73, .iconst 1), (74, .goto 4), (77, .iconst 0), (78, .istore_n 2), (79, .iinc 3 1)],
  [(82, .goto (-41)), (85, .iload_n 2), (86, .ifCond .eq 5), (89, .iconst 1), (90, .ireturn), (91, .iinc 1 1), (94, .goto (-92))],
  [(97, .iconst 0), (98, .ireturn)]])
theorem mt_g277 : mx_goodB mt_q277 = true := by decide +kernel
/-- PeopleStoreModel.copy(II)V -/
def mt_q278 : mt_Q := (⟨"PeopleStoreModel", "copy", "(II)V"⟩, prog_11_method_26_code, 4, none, 3, 25, [[(0, .iconst 0), (1, .istore_n 3), (2, .iload_n 3), (3, .bipush 80), (5, .if_icmp .ge 21), (8, .aload_n 0), (9, .iload_n 2), (10, .iload_n 3), (11, .aload_n 0), (12, .iload_n 1), (13, .iload_n 3), (14, .invokevirtual 171)],
  [(17, .invokevirtual 175), (20, .iinc 3 1), (23, .goto (-21)), (26, .return_)]])
theorem mt_g278 : mx_goodB mt_q278 = true := by decide +kernel
/-- PeopleStoreModel.replace(II)I -/
def mt_q279 : mt_Q := (⟨"PeopleStoreModel", "replace", "(II)I"⟩, prog_11_method_50_code, 4, (some .int), 3, 25, [[(0, .aload_n 0), (1, .aload_n 0), (2, .iload_n 1), (3, .invokevirtual 274), (6, .iload_n 2), (7, .invokevirtual 277), (10, .istore_n 3), (11, .aload_n 0), (12, .iconst 0), (13, .putfield 88)],
  [(16, .iload_n 3), (17, .ireturn)]])
theorem mt_g279 : mx_goodB mt_q279 = true := by decide +kernel
/-- PeopleStoreModel.slot(I)I -/
def mt_q280 : mt_Q := (⟨"PeopleStoreModel", "slot", "(I)I"⟩, prog_11_method_27_code, 3, (some .int), 2, 25, [[(0, .iconst 0), (1, .istore_n 2), (2, .iload_n 2), (3, .bipush 8), (5, .if_icmp .ge 25), (8, .iload_n 1), (9, .ifCond .le 15), (12, .aload_n 0), (13, .iload_n 2), (14, .iconst 0), (15, .invokevirtual 171)],
  [(18, .iload_n 1), (19, .if_icmp .ne 5), (22, .iload_n 2), (23, .ireturn), (24, .iinc 2 1), (27, .goto (-25)), (30, .iconst (-1)), (31, .ireturn)]])
theorem mt_g280 : mx_goodB mt_q280 = true := by decide +kernel
/-- PeopleStoreModel.replaced(II)I -/
def mt_q281 : mt_Q := (⟨"PeopleStoreModel", "replaced", "(II)I"⟩, prog_11_method_49_code, 5, (some .int), 3, 25, [[(0, .aload_n 0), (1, .iload_n 1), (2, .iload_n 2), (3, .invokevirtual 268), (6, .istore_n 3), (7, .iload_n 3), (8, .ifCond .ge 5), (11, .iload_n 3), (12, .ireturn), (13, .aload_n 0), (14, .invokevirtual 244)],
  [(17, .istore 4), (19, .iload 4), (21, .ifCond .eq 25), (24, .aload_n 0), (25, .iconst 0), (26, .bipush 123), (28, .invokevirtual 142), (31, .ifCond .eq 15)],
  [(34, .aload_n 0), (35, .iconst 0), (36, .invokevirtual 247), (39, .aload_n 0), (40, .getfield 109), (43, .if_icmp .eq 7), (46, .sipush (-400))],
  [(49, .ireturn), (50, .aload_n 0), (51, .iload_n 1), (52, .bipush 8), (54, .invokevirtual 259), (57, .aload_n 0), (58, .iconst 0), (59, .invokevirtual 250), (62, .ifCond .eq 11)],
  [(65, .aload_n 0), (66, .iload_n 1), (67, .invokevirtual 271), (70, .goto 6), (73, .sipush (-401)), (76, .ireturn)]])
theorem mt_g281 : mx_goodB mt_q281 = true := by decide +kernel
/-- PeopleStoreModel.check(II)I -/
def mt_q282 : mt_Q := (⟨"PeopleStoreModel", "check", "(II)I"⟩, prog_11_method_48_code, 3, (some .int), 3, 25, [[(0, .iload_n 1), (1, .ifCond .ge 9), (4, .sipush (-404)), (7, .goto 24), (10, .iload_n 2), (11, .ifCond .eq 19), (14, .iload_n 2), (15, .aload_n 0)],
  [(16, .iload_n 1), (17, .iconst 1), (18, .invokevirtual 171), (21, .if_icmp .eq 9), (24, .sipush (-412)), (27, .goto 4), (30, .iconst 0), (31, .ireturn)]])
theorem mt_g282 : mx_goodB mt_q282 = true := by decide +kernel
/-- PeopleStoreModel.finish(I)I -/
def mt_q283 : mt_Q := (⟨"PeopleStoreModel", "finish", "(I)I"⟩, prog_11_method_46_code, 4, (some .int), 2, 25, [[(0, .aload_n 0), (1, .invokevirtual 253), (4, .ifCond .eq 7), (7, .sipush (-409)), (10, .ireturn), (11, .iconst 1), (12, .istore_n 2), (13, .iconst 0), (14, .istore_n 3), (15, .iload_n 3)],
  [(16, .bipush 80), (18, .if_icmp .ge 43), (21, .iload_n 2), (22, .ifCond .eq 31), (25, .aload_n 0), (26, .iload_n 3), (27, .invokevirtual 265), (30, .ifCond .ne 19)],
  [(33, .aload_n 0), (34, .iload_n 1), (35, .iload_n 3), (36, .invokevirtual 171), (39, .aload_n 0), (40, .bipush 8), (42, .iload_n 3), (43, .invokevirtual 171), (46, .if_icmp .ne 7)],
  [(49, .iconst 1), (50, .goto 4), (53, .iconst 0), (54, .istore_n 2), (55, .iinc 3 1), (58, .goto (-43)), (61, .iload_n 2), (62, .ifCond .ne 19)],
  [(65, .aload_n 0), (66, .bipush 8), (68, .iconst 1), (69, .aload_n 0), (70, .bipush 8), (72, .iconst 1), (73, .invokevirtual 171), (76, .iconst 1), (77, .iadd), (78, .invokevirtual 175)],
  [(81, .aload_n 0), (82, .bipush 8), (84, .iload_n 1), (85, .invokevirtual 259), (88, .aload_n 0), (89, .iload_n 1), (90, .iconst 1), (91, .invokevirtual 171), (94, .ireturn)]])
theorem mt_g283 : mx_goodB mt_q283 = true := by decide +kernel
/-- PeopleStoreModel.unused(I)Z -/
def mt_q284 : mt_Q := (⟨"PeopleStoreModel", "unused", "(I)Z"⟩, prog_11_method_47_code, 2, (some .boolean), 2, 25, [[(0, .iload_n 1), (1, .bipush 20), (3, .if_icmp .lt 23), (6, .iload_n 1), (7, .aload_n 0), (8, .aload_n 0), (9, .bipush 8), (11, .bipush 19), (13, .invokevirtual 171)],
  [(16, .invokevirtual 198), (19, .if_icmp .lt 7), (22, .iconst 1), (23, .goto 4), (26, .iconst 0), (27, .ireturn)]])
theorem mt_g284 : mx_goodB mt_q284 = true := by decide +kernel
/-- PeopleStoreModel.remove(II)I -/
def mt_q285 : mt_Q := (⟨"PeopleStoreModel", "remove", "(II)I"⟩, prog_11_method_51_code, 5, (some .int), 3, 25, [[(0, .aload_n 0), (1, .iload_n 1), (2, .invokevirtual 274), (5, .istore_n 3), (6, .aload_n 0), (7, .iload_n 3), (8, .iload_n 2), (9, .invokevirtual 268), (12, .istore 4), (14, .iload 4)],
  [(16, .ifCond .ne 10), (19, .aload_n 0), (20, .iload_n 3), (21, .iconst 0), (22, .iconst 0), (23, .invokevirtual 175), (26, .iload 4), (28, .ireturn)]])
theorem mt_g285 : mx_goodB mt_q285 = true := by decide +kernel
/-- PeopleStoreModel.patch(II)I -/
def mt_q286 : mt_Q := (⟨"PeopleStoreModel", "patch", "(II)I"⟩, prog_11_method_85_code, 4, (some .int), 3, 25, [[(0, .aload_n 0), (1, .aload_n 0), (2, .iload_n 1), (3, .invokevirtual 274), (6, .iload_n 2), (7, .invokevirtual 435), (10, .istore_n 3), (11, .aload_n 0), (12, .iconst 0), (13, .putfield 88)],
  [(16, .iload_n 3), (17, .ireturn)]])
theorem mt_g286 : mx_goodB mt_q286 = true := by decide +kernel
/-- PeopleStoreModel.patched(II)I -/
def mt_q287 : mt_Q := (⟨"PeopleStoreModel", "patched", "(II)I"⟩, prog_11_method_84_code, 5, (some .int), 3, 25, [[(0, .aload_n 0), (1, .iload_n 1), (2, .iload_n 2), (3, .invokevirtual 268), (6, .istore_n 3), (7, .iload_n 3), (8, .ifCond .ge 5), (11, .iload_n 3), (12, .ireturn), (13, .aload_n 0), (14, .invokevirtual 429)],
  [(17, .ifCond .ne 7), (20, .sipush (-400)), (23, .ireturn), (24, .aload_n 0), (25, .iload_n 1), (26, .bipush 8), (28, .invokevirtual 259), (31, .iconst 0)],
  [(32, .istore 4), (34, .iload 4), (36, .aload_n 0), (37, .getfield 390), (40, .if_icmp .ge 84), (43, .iload_n 3), (44, .ifCond .ne 80), (47, .aload_n 0)],
  [(48, .getfield 64), (51, .iload 4), (53, .iaload), (54, .ifCond .ne 24), (57, .aload_n 0), (58, .aload_n 0), (59, .getfield 61), (62, .iload 4)],
  [(64, .iaload), (65, .aload_n 0), (66, .getfield 73), (69, .iload 4), (71, .iaload), (72, .invokevirtual 432), (75, .goto 42), (78, .aload_n 0), (79, .aload_n 0)],
  [(80, .getfield 61), (83, .iload 4), (85, .iaload), (86, .aload_n 0), (87, .getfield 64), (90, .iload 4), (92, .iaload), (93, .aload_n 0), (94, .getfield 67)],
  [(97, .iload 4), (99, .iaload), (100, .aload_n 0), (101, .getfield 70), (104, .iload 4), (106, .iaload), (107, .aload_n 0), (108, .getfield 73), (111, .iload 4)],
  [(113, .iaload), (114, .invokevirtual 425), (117, .istore_n 3), (118, .iinc 4 1), (121, .goto (-87)), (124, .iload_n 3), (125, .ifCond .ge 7)],
  [(128, .iload_n 3), (129, .goto 8), (132, .aload_n 0), (133, .iload_n 1), (134, .invokevirtual 271), (137, .ireturn)]])
theorem mt_g287 : mx_goodB mt_q287 = true := by decide +kernel
def mt_qk17 : List mt_Q := [mt_q272, mt_q273, mt_q274, mt_q275, mt_q276, mt_q277, mt_q278, mt_q279, mt_q280, mt_q281, mt_q282, mt_q283, mt_q284, mt_q285, mt_q286, mt_q287]
theorem mt_gk17 : ∀ q ∈ mt_qk17, mx_goodB q = true := List.forall_mem_cons.mpr ⟨mt_g272, List.forall_mem_cons.mpr ⟨mt_g273, List.forall_mem_cons.mpr ⟨mt_g274, List.forall_mem_cons.mpr ⟨mt_g275, List.forall_mem_cons.mpr ⟨mt_g276, List.forall_mem_cons.mpr ⟨mt_g277, List.forall_mem_cons.mpr ⟨mt_g278, List.forall_mem_cons.mpr ⟨mt_g279, List.forall_mem_cons.mpr ⟨mt_g280, List.forall_mem_cons.mpr ⟨mt_g281, List.forall_mem_cons.mpr ⟨mt_g282, List.forall_mem_cons.mpr ⟨mt_g283, List.forall_mem_cons.mpr ⟨mt_g284, List.forall_mem_cons.mpr ⟨mt_g285, List.forall_mem_cons.mpr ⟨mt_g286, List.forall_mem_cons.mpr ⟨mt_g287, fun _ h => absurd h List.not_mem_nil⟩⟩⟩⟩⟩⟩⟩⟩⟩⟩⟩⟩⟩⟩⟩⟩
