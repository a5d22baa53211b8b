/-- java/lang/StringLatin1.toChars([B)[C -/
def mt_q96 : mt_Q := (⟨"java/lang/StringLatin1", "toChars", "([B)[C"⟩, prog_21_method_9_code, 2, (some (.array .char)), 1, 10, [[(0, .aload_n 0), (1, .arraylength), (2, .newarray .char), (4, .astore_n 1), (5, .aload_n 0), (6, .iconst 0), (7, .aload_n 1), (8, .iconst 0), (9, .aload_n 0), (10, .arraylength), (11, .invokestatic 13), (14, .aload_n 1), (15, .areturn)]])
theorem mt_g96 : mx_goodB mt_q96 = true := by decide +kernel
/-- java/lang/StringLatin1.inflate([BI[CII)V -/
def mt_q97 : mt_Q := (⟨"java/lang/StringLatin1", "inflate", "([BI[CII)V"⟩, prog_21_method_49_code, 6, none, 5, 10, [[(0, .iconst 0), (1, .istore 5), (3, .iload 5), (5, .iload 4), (7, .if_icmp .ge 26), (10, .aload_n 2), (11, .iload_n 3), (12, .iinc 3 1), (15, .aload_n 0)],
  [(16, .iload_n 1), (17, .iinc 1 1), (20, .baload), (21, .sipush 255), (24, .iand), (25, .i2c), (26, .castore), (27, .iinc 5 1), (30, .goto (-27))],
  [(33, .return_)]])
theorem mt_g97 : mx_goodB mt_q97 = true := by decide +kernel
/-- java/lang/StringUTF16.toChars([B)[C -/
def mt_q98 : mt_Q := (⟨"java/lang/StringUTF16", "toChars", "([B)[C"⟩, prog_22_method_13_code, 2, (some (.array .char)), 1, 5, [[(0, .aload_n 0), (1, .arraylength), (2, .iconst 1), (3, .ishr), (4, .newarray .char), (6, .astore_n 1), (7, .aload_n 0), (8, .iconst 0), (9, .aload_n 1), (10, .arraylength), (11, .aload_n 1), (12, .iconst 0), (13, .invokestatic 103)],
  [(16, .aload_n 1), (17, .areturn)]])
theorem mt_g98 : mx_goodB mt_q98 = true := by decide +kernel
/-- java/lang/StringUTF16.getChars([BII[CI)V -/
def mt_q99 : mt_Q := (⟨"java/lang/StringUTF16", "getChars", "([BII[CI)V"⟩, prog_22_method_26_code, 6, none, 5, 5, [[(0, .iload_n 1), (1, .iload_n 2), (2, .if_icmp .ge 11), (5, .iload_n 1), (6, .iload_n 2), (7, .iload_n 1), (8, .isub), (9, .aload_n 0), (10, .invokestatic 173), (13, .iload_n 1), (14, .istore 5)],
  [(16, .iload 5), (18, .iload_n 2), (19, .if_icmp .ge 22), (22, .aload_n 3), (23, .iload 4), (25, .iinc 4 1), (28, .aload_n 0), (29, .iload 5), (31, .invokestatic 71)],
  [(34, .castore), (35, .iinc 5 1), (38, .goto (-22)), (41, .return_)]])
theorem mt_g99 : mx_goodB mt_q99 = true := by decide +kernel
/-- java/lang/String.<init>([C)V -/
def mt_q100 : mt_Q := (⟨"java/lang/String", "<init>", "([C)V"⟩, prog_19_method_3_code, 2, none, 2, 9, [[(0, .aload_n 0), (1, .aload_n 1), (2, .iconst 0), (3, .aload_n 1), (4, .arraylength), (5, .aconst_null), (6, .invokespecial 27), (9, .return_)]])
theorem mt_g100 : mx_goodB mt_q100 = true := by decide +kernel
/-- java/lang/String.<init>([CIILjava/lang/Void;)V -/
def mt_q101 : mt_Q := (⟨"java/lang/String", "<init>", "([CIILjava/lang/Void;)V"⟩, prog_19_method_149_code, 6, none, 5, 9, [[(0, .aload_n 0), (1, .invokespecial 1), (4, .iload_n 3), (5, .ifCond .ne 22), (8, .aload_n 0), (9, .ldc 7), (11, .getfield 9), (14, .putfield 9)],
  [(17, .aload_n 0), (18, .ldc 7), (20, .getfield 15), (23, .putfield 15), (26, .return_), (27, .getstatic 38), (30, .ifCond .eq 28)],
  [(33, .aload_n 1), (34, .iload_n 2), (35, .iload_n 3), (36, .invokestatic 177), (39, .astore 5), (41, .aload_n 0), (42, .aload 5), (44, .iload_n 3), (45, .invokestatic 47)],
  [(48, .putfield 15), (51, .aload_n 0), (52, .aload 5), (54, .putfield 9), (57, .return_), (58, .aload_n 0), (59, .iconst 1), (60, .putfield 15), (63, .aload_n 0)],
  [(64, .aload_n 1), (65, .iload_n 2), (66, .iload_n 3), (67, .invokestatic 180), (70, .putfield 9), (73, .return_)]])
theorem mt_g101 : mx_goodB mt_q101 = true := by decide +kernel
/-- java/lang/StringUTF16.compress([CII)[B -/
def mt_q102 : mt_Q := (⟨"java/lang/StringUTF16", "compress", "([CII)[B"⟩, prog_22_method_16_code, 6, (some (.array .byte)), 3, 5, [[(0, .iload_n 2), (1, .newarray .byte), (3, .astore_n 3), (4, .aload_n 0), (5, .iload_n 1), (6, .aload_n 3), (7, .iconst 0), (8, .iload_n 2), (9, .invokestatic 115), (12, .istore 4), (14, .iload 4)],
  [(16, .iload_n 2), (17, .if_icmp .eq 40), (20, .aload_n 0), (21, .iload_n 1), (22, .iload_n 2), (23, .invokestatic 119), (26, .astore 5), (28, .aload 5), (30, .iload 4)],
  [(32, .invokestatic 71), (35, .sipush 255), (38, .if_icmp .gt 16), (41, .aload 5), (43, .iconst 0), (44, .aload_n 3), (45, .iconst 0), (46, .iload_n 2), (47, .invokestatic 123)],
  [(50, .iload_n 2), (51, .if_icmp .eq 6), (54, .aload 5), (56, .areturn), (57, .aload_n 3), (58, .areturn)]])
theorem mt_g102 : mx_goodB mt_q102 = true := by decide +kernel
/-- java/lang/StringUTF16.compress([CI[BII)I -/
def mt_q103 : mt_Q := (⟨"java/lang/StringUTF16", "compress", "([CI[BII)I"⟩, prog_22_method_21_code, 7, (some .int), 5, 5, [[(0, .iconst 0), (1, .istore 5), (3, .iload 5), (5, .iload 4), (7, .if_icmp .ge 37), (10, .aload_n 0), (11, .iload_n 1), (12, .caload), (13, .istore 6), (15, .iload 6)],
  [(17, .sipush 255), (20, .if_icmp .le 6), (23, .iload 5), (25, .ireturn), (26, .aload_n 2), (27, .iload_n 3), (28, .iload 6), (30, .i2b), (31, .bastore)],
  [(32, .iinc 1 1), (35, .iinc 3 1), (38, .iinc 5 1), (41, .goto (-38)), (44, .iload 4), (46, .ireturn)]])
theorem mt_g103 : mx_goodB mt_q103 = true := by decide +kernel
/-- java/lang/StringUTF16.toBytes([CII)[B -/
def mt_q104 : mt_Q := (⟨"java/lang/StringUTF16", "toBytes", "([CII)[B"⟩, prog_22_method_14_code, 5, (some (.array .byte)), 3, 5, [[(0, .iload_n 2), (1, .invokestatic 107), (4, .astore_n 3), (5, .iconst 0), (6, .istore 4), (8, .iload 4), (10, .iload_n 2), (11, .if_icmp .ge 21), (14, .aload_n 3), (15, .iload 4)],
  [(17, .aload_n 0), (18, .iload_n 1), (19, .caload), (20, .invokestatic 111), (23, .iinc 1 1), (26, .iinc 4 1), (29, .goto (-21))],
  [(32, .aload_n 3), (33, .areturn)]])
theorem mt_g104 : mx_goodB mt_q104 = true := by decide +kernel
/-- java/lang/String.equals(Ljava/lang/Object;)Z -/
def mt_q105 : mt_Q := (⟨"java/lang/String", "equals", "(Ljava/lang/Object;)Z"⟩, prog_19_method_66_code, 3, (some .boolean), 2, 9, [[(0, .aload_n 0), (1, .aload_n 1), (2, .if_acmp .ne 5), (5, .iconst 1), (6, .ireturn), (7, .aload_n 1), (8, .instanceof 10), (11, .ifCond .eq 43), (14, .aload_n 1), (15, .checkcast 10)],
  [(18, .astore_n 2), (19, .getstatic 38), (22, .ifCond .eq 14), (25, .aload_n 0), (26, .getfield 15), (29, .aload_n 2), (30, .getfield 15)],
  [(33, .if_icmp .ne 21), (36, .aload_n 0), (37, .getfield 9), (40, .aload_n 2), (41, .getfield 9), (44, .invokestatic 541), (47, .ifCond .eq 7)],
  [(50, .iconst 1), (51, .goto 4), (54, .iconst 0), (55, .ireturn)]])
theorem mt_g105 : mx_goodB mt_q105 = true := by decide +kernel
/-- java/lang/StringLatin1.equals([B[B)Z -/
def mt_q106 : mt_Q := (⟨"java/lang/StringLatin1", "equals", "([B[B)Z"⟩, prog_21_method_13_code, 3, (some .boolean), 2, 10, [[(0, .aload_n 0), (1, .arraylength), (2, .aload_n 1), (3, .arraylength), (4, .if_icmp .ne 30), (7, .iconst 0), (8, .istore_n 2), (9, .iload_n 2), (10, .aload_n 0), (11, .arraylength), (12, .if_icmp .ge 20), (15, .aload_n 0)],
  [(16, .iload_n 2), (17, .baload), (18, .aload_n 1), (19, .iload_n 2), (20, .baload), (21, .if_icmp .eq 5), (24, .iconst 0), (25, .ireturn), (26, .iinc 2 1), (29, .goto (-20))],
  [(32, .iconst 1), (33, .ireturn), (34, .iconst 0), (35, .ireturn)]])
theorem mt_g106 : mx_goodB mt_q106 = true := by decide +kernel
/-- PeopleStore$Part.<init>(Ljava/lang/String;LPeopleStore$Value;)V -/
def mt_q107 : mt_Q := (⟨"PeopleStore$Part", "<init>", "(Ljava/lang/String;LPeopleStore$Value;)V"⟩, prog_7_method_1_code, 3, none, 3, 17, [[(0, .aload_n 0), (1, .invokespecial 1), (4, .aload_n 0), (5, .aload_n 1), (6, .putfield 7), (9, .aload_n 0), (10, .aload_n 2), (11, .putfield 13), (14, .return_)]])
theorem mt_g107 : mx_goodB mt_q107 = true := by decide +kernel
/-- PeopleStore$Value.readElement(LPeopleStore$Buffer;I)LPeopleStore$Part; -/
def mt_q108 : mt_Q := (⟨"PeopleStore$Value", "readElement", "(LPeopleStore$Buffer;I)LPeopleStore$Part;"⟩, prog_9_method_9_code, 3, (some (.object "PeopleStore$Part")), 2, 14, [[(0, .aload_n 0), (1, .iload_n 1), (2, .invokestatic 88), (5, .astore_n 2), (6, .aload_n 2), (7, .ifnonnull 7), (10, .aconst_null), (11, .goto 13), (14, .new 85)],
  [(17, .dup), (18, .ldc 16), (20, .aload_n 2), (21, .invokespecial 91), (24, .areturn)]])
theorem mt_g108 : mx_goodB mt_q108 = true := by decide +kernel
/-- PeopleStore$Value.readPlain(LPeopleStore$Buffer;)LPeopleStore$Value; -/
def mt_q109 : mt_Q := (⟨"PeopleStore$Value", "readPlain", "(LPeopleStore$Buffer;)LPeopleStore$Value;"⟩, prog_9_method_7_code, 2, (some (.object "PeopleStore$Value")), 1, 14, [[(0, .aload_n 0), (1, .ldc 44), (3, .invokevirtual 46), (6, .ifCond .eq 12), (9, .new 7), (12, .dup), (13, .iconst 1), (14, .invokespecial 50)],
  [(17, .areturn), (18, .aload_n 0), (19, .ldc 53), (21, .invokevirtual 46), (24, .ifCond .eq 12), (27, .new 7), (30, .dup), (31, .iconst 0)],
  [(32, .invokespecial 50), (35, .areturn), (36, .aconst_null), (37, .astore_n 1), (38, .aload_n 0), (39, .iconst 2), (40, .invokevirtual 30), (43, .ifCond .eq 18), (46, .new 7)],
  [(49, .dup), (50, .aload_n 0), (51, .invokevirtual 55), (54, .invokespecial 58), (57, .astore_n 1), (58, .goto 23), (61, .aload_n 0), (62, .iconst 3), (63, .invokevirtual 30)],
  [(66, .ifCond .eq 15), (69, .new 7), (72, .dup), (73, .aload_n 0), (74, .invokevirtual 61), (77, .invokespecial 64)],
  [(80, .astore_n 1), (81, .aload_n 0), (82, .invokevirtual 67), (85, .aload_n 1), (86, .areturn)]])
theorem mt_g109 : mx_goodB mt_q109 = true := by decide +kernel
/-- PeopleStore$Buffer.takeWord(Ljava/lang/String;)Z -/
def mt_q110 : mt_Q := (⟨"PeopleStore$Buffer", "takeWord", "(Ljava/lang/String;)Z"⟩, prog_3_method_11_code, 3, (some .boolean), 2, 2, [[(0, .aload_n 0), (1, .getfield 13), (4, .aload_n 0), (5, .getfield 34), (8, .iaload), (9, .iconst 1), (10, .if_icmp .ne 29), (13, .aload_n 0), (14, .getfield 20)],
  [(17, .aload_n 0), (18, .getfield 34), (21, .iaload), (22, .aload_n 0), (23, .getfield 17), (26, .aload_n 0), (27, .getfield 34), (30, .iaload), (31, .isub)],
  [(32, .aload_n 1), (33, .invokevirtual 51), (36, .if_icmp .eq 5), (39, .iconst 0), (40, .ireturn), (41, .iconst 0), (42, .istore_n 2), (43, .iload_n 2), (44, .aload_n 1), (45, .invokevirtual 51)],
  [(48, .if_icmp .ge 35), (51, .aload_n 0), (52, .getfield 9), (55, .aload_n 0), (56, .getfield 17), (59, .aload_n 0), (60, .getfield 34), (63, .iaload)],
  [(64, .iload_n 2), (65, .iadd), (66, .caload), (67, .aload_n 1), (68, .iload_n 2), (69, .invokevirtual 57), (72, .if_icmp .eq 5), (75, .iconst 0), (76, .ireturn), (77, .iinc 2 1)],
  [(80, .goto (-37)), (83, .aload_n 0), (84, .dup), (85, .getfield 34), (88, .iconst 1), (89, .iadd), (90, .putfield 34), (93, .iconst 1), (94, .ireturn)]])
theorem mt_g110 : mx_goodB mt_q110 = true := by decide +kernel
/-- java/lang/String.charAt(I)C -/
def mt_q111 : mt_Q := (⟨"java/lang/String", "charAt", "(I)C"⟩, prog_19_method_56_code, 2, (some .char), 2, 9, [[(0, .aload_n 0), (1, .invokevirtual 492), (4, .ifCond .eq 12), (7, .aload_n 0), (8, .getfield 9), (11, .iload_n 1), (12, .invokestatic 495), (15, .ireturn)],
  [(16, .aload_n 0), (17, .getfield 9), (20, .iload_n 1), (21, .invokestatic 498), (24, .ireturn)]])
theorem mt_g111 : mx_goodB mt_q111 = true := by decide +kernel
def mt_qk6 : List mt_Q := [mt_q96, mt_q97, mt_q98, mt_q99, mt_q100, mt_q101, mt_q102, mt_q103, mt_q104, mt_q105, mt_q106, mt_q107, mt_q108, mt_q109, mt_q110, mt_q111]
theorem mt_gk6 : ∀ q ∈ mt_qk6, mx_goodB q = true := List.forall_mem_cons.mpr ⟨mt_g96, List.forall_mem_cons.mpr ⟨mt_g97, List.forall_mem_cons.mpr ⟨mt_g98, List.forall_mem_cons.mpr ⟨mt_g99, List.forall_mem_cons.mpr ⟨mt_g100, List.forall_mem_cons.mpr ⟨mt_g101, List.forall_mem_cons.mpr ⟨mt_g102, List.forall_mem_cons.mpr ⟨mt_g103, List.forall_mem_cons.mpr ⟨mt_g104, List.forall_mem_cons.mpr ⟨mt_g105, List.forall_mem_cons.mpr ⟨mt_g106, List.forall_mem_cons.mpr ⟨mt_g107, List.forall_mem_cons.mpr ⟨mt_g108, List.forall_mem_cons.mpr ⟨mt_g109, List.forall_mem_cons.mpr ⟨mt_g110, List.forall_mem_cons.mpr ⟨mt_g111, fun _ h => absurd h List.not_mem_nil⟩⟩⟩⟩⟩⟩⟩⟩⟩⟩⟩⟩⟩⟩⟩⟩
/-- java/lang/StringLatin1.charAt([BI)C -/
def mt_q112 : mt_Q := (⟨"java/lang/StringLatin1", "charAt", "([BI)C"⟩, prog_21_method_2_code, 2, (some .char), 2, 10, [[(0, .iload_n 1), (1, .aload_n 0), (2, .arraylength), (3, .invokestatic 9), (6, .aload_n 0), (7, .iload_n 1), (8, .baload), (9, .sipush 255), (12, .iand), (13, .i2c), (14, .ireturn)]])
theorem mt_g112 : mx_goodB mt_q112 = true := by decide +kernel
/-- java/lang/StringUTF16.charAt([BI)C -/
def mt_q113 : mt_Q := (⟨"java/lang/StringUTF16", "charAt", "([BI)C"⟩, prog_22_method_83_code, 2, (some .char), 2, 5, [[(0, .iload_n 1), (1, .aload_n 0), (2, .invokestatic 67), (5, .aload_n 0), (6, .iload_n 1), (7, .invokestatic 71), (10, .ireturn)]])
theorem mt_g113 : mx_goodB mt_q113 = true := by decide +kernel
/-- PeopleStore$Value.<init>(Z)V -/
def mt_q114 : mt_Q := (⟨"PeopleStore$Value", "<init>", "(Z)V"⟩, prog_9_method_1_code, 2, none, 2, 14, [[(0, .aload_n 0), (1, .invokespecial 1), (4, .aload_n 0), (5, .iconst 0), (6, .putfield 9), (9, .aload_n 0), (10, .iload_n 1), (11, .ifCond .eq 7), (14, .iconst 1), (15, .goto 4)],
  [(18, .iconst 0), (19, .putfield 13), (22, .aload_n 0), (23, .ldc 16), (25, .putfield 18), (28, .aload_n 0), (29, .aconst_null), (30, .putfield 22)],
  [(33, .return_)]])
theorem mt_g114 : mx_goodB mt_q114 = true := by decide +kernel
/-- PeopleStore$Buffer.number()I -/
def mt_q115 : mt_Q := (⟨"PeopleStore$Buffer", "number", "()I"⟩, prog_3_method_14_code, 5, (some .int), 1, 2, [[(0, .aload_n 0), (1, .getfield 13), (4, .aload_n 0), (5, .getfield 34), (8, .iaload), (9, .iconst 2), (10, .if_icmp .eq 5), (13, .iconst 0), (14, .ireturn), (15, .aload_n 0)],
  [(16, .getfield 17), (19, .aload_n 0), (20, .getfield 34), (23, .iaload), (24, .istore_n 1), (25, .aload_n 0), (26, .getfield 9), (29, .iload_n 1), (30, .caload), (31, .bipush 45)],
  [(33, .if_icmp .ne 7), (36, .iconst 1), (37, .goto 4), (40, .iconst 0), (41, .istore_n 2), (42, .iconst 0), (43, .istore_n 3), (44, .iload_n 2), (45, .ifCond .eq 9)],
  [(48, .iload_n 1), (49, .iconst 1), (50, .iadd), (51, .goto 4), (54, .iload_n 1), (55, .istore 4), (57, .iload 4), (59, .aload_n 0), (60, .getfield 20), (63, .aload_n 0)],
  [(64, .getfield 34), (67, .iaload), (68, .if_icmp .ge 25), (71, .iload_n 3), (72, .bipush 10), (74, .imul), (75, .aload_n 0), (76, .getfield 9), (79, .iload 4)],
  [(81, .caload), (82, .bipush 48), (84, .isub), (85, .iadd), (86, .istore_n 3), (87, .iinc 4 1), (90, .goto (-33)), (93, .iload_n 2), (94, .ifCond .eq 8)],
  [(97, .iload_n 3), (98, .ineg), (99, .goto 4), (102, .iload_n 3), (103, .ireturn)]])
theorem mt_g115 : mx_goodB mt_q115 = true := by decide +kernel
/-- PeopleStore$Value.<init>(I)V -/
def mt_q116 : mt_Q := (⟨"PeopleStore$Value", "<init>", "(I)V"⟩, prog_9_method_2_code, 2, none, 2, 14, [[(0, .aload_n 0), (1, .invokespecial 1), (4, .aload_n 0), (5, .iconst 1), (6, .putfield 9), (9, .aload_n 0), (10, .iload_n 1), (11, .putfield 13), (14, .aload_n 0), (15, .ldc 16)],
  [(17, .putfield 18), (20, .aload_n 0), (21, .aconst_null), (22, .putfield 22), (25, .return_)]])
theorem mt_g116 : mx_goodB mt_q116 = true := by decide +kernel
/-- PeopleStore$Value.<init>(Ljava/lang/String;)V -/
def mt_q117 : mt_Q := (⟨"PeopleStore$Value", "<init>", "(Ljava/lang/String;)V"⟩, prog_9_method_3_code, 2, none, 2, 14, [[(0, .aload_n 0), (1, .invokespecial 1), (4, .aload_n 0), (5, .iconst 2), (6, .putfield 9), (9, .aload_n 0), (10, .iconst 0), (11, .putfield 13), (14, .aload_n 0), (15, .aload_n 1)],
  [(16, .putfield 18), (19, .aload_n 0), (20, .aconst_null), (21, .putfield 22), (24, .return_)]])
theorem mt_g117 : mx_goodB mt_q117 = true := by decide +kernel
/-- PeopleStore$Buffer.clear()V -/
def mt_q118 : mt_Q := (⟨"PeopleStore$Buffer", "clear", "()V"⟩, prog_3_method_5_code, 1, none, 1, 2, [[(0, .aload_n 0), (1, .iconst 0), (2, .putfield 30), (5, .return_)]])
theorem mt_g118 : mx_goodB mt_q118 = true := by decide +kernel
/-- PeopleStore$Person.from(LPeopleStore$Value;I)LPeopleStore$Person; -/
def mt_q119 : mt_Q := (⟨"PeopleStore$Person", "from", "(LPeopleStore$Value;I)LPeopleStore$Person;"⟩, prog_8_method_2_code, 4, (some (.object "PeopleStore$Person")), 2, 18, [[(0, .new 13), (3, .dup), (4, .new 25), (7, .dup), (8, .iload_n 1), (9, .invokespecial 27), (12, .new 25), (15, .dup)],
  [(16, .iconst 1), (17, .invokespecial 27), (20, .invokespecial 30), (23, .astore_n 2), (24, .aload_n 0), (25, .getfield 33), (28, .astore_n 3), (29, .aload_n 3), (30, .ifnull 31)],
  [(33, .aload_n 2), (34, .aload_n 3), (35, .getfield 37), (38, .invokestatic 43), (41, .aload_n 3), (42, .getfield 49), (45, .invokevirtual 52)],
  [(48, .ifCond .ne 5), (51, .aconst_null), (52, .areturn), (53, .aload_n 3), (54, .getfield 56), (57, .astore_n 3), (58, .goto (-29)), (61, .aload_n 2), (62, .getfield 59)],
  [(65, .ifnonnull 7), (68, .aconst_null), (69, .goto 4), (72, .aload_n 2), (73, .areturn)]])
theorem mt_g119 : mx_goodB mt_q119 = true := by decide +kernel
/-- PeopleStore$Person.<init>(LPeopleStore$Value;LPeopleStore$Value;)V -/
def mt_q120 : mt_Q := (⟨"PeopleStore$Person", "<init>", "(LPeopleStore$Value;LPeopleStore$Value;)V"⟩, prog_8_method_1_code, 3, none, 3, 18, [[(0, .aload_n 0), (1, .invokespecial 3), (4, .aload_n 0), (5, .new 9), (8, .dup), (9, .invokespecial 11), (12, .putfield 12), (15, .aload_n 0)],
  [(16, .aload_n 1), (17, .putfield 18), (20, .aload_n 0), (21, .aload_n 2), (22, .putfield 22), (25, .return_)]])
theorem mt_g120 : mx_goodB mt_q120 = true := by decide +kernel
/-- PeopleStore$Attribute.ofPerson(Ljava/lang/String;)I -/
def mt_q121 : mt_Q := (⟨"PeopleStore$Attribute", "ofPerson", "(Ljava/lang/String;)I"⟩, prog_2_method_4_code, 2, (some .int), 1, 19, [[(0, .iconst 0), (1, .istore_n 1), (2, .iload_n 1), (3, .iconst 5), (4, .if_icmp .gt 22), (7, .iload_n 1), (8, .invokestatic 29), (11, .aload_n 0), (12, .invokevirtual 33), (15, .ifCond .eq 5)],
  [(18, .iload_n 1), (19, .ireturn), (20, .iinc 1 1), (23, .goto (-21)), (26, .iconst (-1)), (27, .ireturn)]])
theorem mt_g121 : mx_goodB mt_q121 = true := by decide +kernel
/-- PeopleStore$Attribute.nameOf(I)Ljava/lang/String; -/
def mt_q122 : mt_Q := (⟨"PeopleStore$Attribute", "nameOf", "(I)Ljava/lang/String;"⟩, prog_2_method_2_code, 1, (some (.object "java/lang/String")), 1, 19, [[(0, .iload_n 0), (1, .tableswitch 64 0 6 #[43, 46, 49, 52, 55, 58, 61])],
  [],
  [(44, .ldc 7), (46, .areturn), (47, .ldc 9)],
  [(49, .areturn), (50, .ldc 11), (52, .areturn), (53, .ldc 13), (55, .areturn), (56, .ldc 15), (58, .areturn), (59, .ldc 17), (61, .areturn), (62, .ldc 19)],
  [(64, .areturn), (65, .ldc 21), (67, .areturn)]])
theorem mt_g122 : mx_goodB mt_q122 = true := by decide +kernel
/-- PeopleStore$Person.accepts(ILPeopleStore$Value;)Z -/
def mt_q123 : mt_Q := (⟨"PeopleStore$Person", "accepts", "(ILPeopleStore$Value;)Z"⟩, prog_8_method_3_code, 3, (some .boolean), 3, 18, [[(0, .iload_n 1), (1, .invokestatic 61), (4, .ifCond .eq 5), (7, .iconst 1), (8, .ireturn), (9, .iload_n 1), (10, .iconst 5), (11, .if_icmp .ne 28), (14, .aload_n 2), (15, .getfield 65)],
  [(18, .iconst 4), (19, .if_icmp .ne 18), (22, .aload_n 0), (23, .aload_n 2), (24, .invokestatic 69), (27, .invokevirtual 75), (30, .ifCond .eq 7)],
  [(33, .iconst 1), (34, .goto 4), (37, .iconst 0), (38, .ireturn), (39, .iload_n 1), (40, .aload_n 2), (41, .invokestatic 79), (44, .ifCond .ne 5), (47, .iconst 0)],
  [(48, .ireturn), (49, .aload_n 0), (50, .iload_n 1), (51, .aload_n 2), (52, .invokevirtual 82), (55, .iconst 1), (56, .ireturn)]])
theorem mt_g123 : mx_goodB mt_q123 = true := by decide +kernel
/-- PeopleStore$Attribute.isReadOnly(I)Z -/
def mt_q124 : mt_Q := (⟨"PeopleStore$Attribute", "isReadOnly", "(I)Z"⟩, prog_2_method_7_code, 1, (some .boolean), 1, 19, [[(0, .iload_n 0), (1, .ifCond .eq 8), (4, .iload_n 0), (5, .iconst 1), (6, .if_icmp .ne 7), (9, .iconst 1), (10, .goto 4), (13, .iconst 0), (14, .ireturn)]])
theorem mt_g124 : mx_goodB mt_q124 = true := by decide +kernel
/-- PeopleStore$Item.wholeOnes(LPeopleStore$Value;)Ljava/util/ArrayList; -/
def mt_q125 : mt_Q := (⟨"PeopleStore$Item", "wholeOnes", "(LPeopleStore$Value;)Ljava/util/ArrayList;"⟩, prog_5_method_3_code, 5, (some (.object "java/util/ArrayList")), 1, 20, [[(0, .new 51), (3, .dup), (4, .invokespecial 53), (7, .astore_n 1), (8, .aload_n 0), (9, .getfield 16), (12, .iconst 4), (13, .if_icmp .ne 10)],
  [(16, .aload_n 0), (17, .getfield 25), (20, .goto 13), (23, .new 30), (26, .dup), (27, .ldc 54), (29, .aload_n 0), (30, .invokespecial 56)],
  [(33, .astore_n 2), (34, .aload_n 2), (35, .astore_n 3), (36, .aload_n 3), (37, .ifnull 42), (40, .aload_n 3), (41, .getfield 41), (44, .invokestatic 59), (47, .astore 4)],
  [(49, .aload 4), (51, .ifnull 11), (54, .aload 4), (56, .getfield 7), (59, .ifnonnull 5), (62, .aconst_null), (63, .areturn)],
  [(64, .aload_n 1), (65, .aload 4), (67, .invokevirtual 63), (70, .pop), (71, .aload_n 3), (72, .getfield 48), (75, .astore_n 3), (76, .goto (-40)), (79, .aload_n 1)],
  [(80, .areturn)]])
theorem mt_g125 : mx_goodB mt_q125 = true := by decide +kernel
/-- PeopleStore$Item.from(LPeopleStore$Value;)LPeopleStore$Item; -/
def mt_q126 : mt_Q := (⟨"PeopleStore$Item", "from", "(LPeopleStore$Value;)LPeopleStore$Item;"⟩, prog_5_method_2_code, 4, (some (.object "PeopleStore$Item")), 1, 20, [[(0, .aload_n 0), (1, .getfield 16), (4, .iconst 3), (5, .if_icmp .eq 5), (8, .aconst_null), (9, .areturn), (10, .new 8), (13, .dup), (14, .aconst_null), (15, .aconst_null)],
  [(16, .invokespecial 22), (19, .astore_n 1), (20, .aload_n 0), (21, .getfield 25), (24, .astore_n 2), (25, .aload_n 2), (26, .ifnull 57), (29, .aload_n 2), (30, .getfield 29)],
  [(33, .invokestatic 35), (36, .istore_n 3), (37, .iload_n 3), (38, .aload_n 2), (39, .getfield 41), (42, .invokestatic 44), (45, .ifCond .ne 5)],
  [(48, .aconst_null), (49, .areturn), (50, .iload_n 3), (51, .bipush 6), (53, .if_icmp .ne 14), (56, .aload_n 1), (57, .aload_n 2), (58, .getfield 41), (61, .putfield 7)],
  [(64, .goto 11), (67, .aload_n 1), (68, .aload_n 2), (69, .getfield 41), (72, .putfield 13), (75, .aload_n 2), (76, .getfield 48), (79, .astore_n 2)],
  [(80, .goto (-55)), (83, .aload_n 1), (84, .areturn)]])
theorem mt_g126 : mx_goodB mt_q126 = true := by decide +kernel
/-- PeopleStore$Item.<init>(LPeopleStore$Value;LPeopleStore$Value;)V -/
def mt_q127 : mt_Q := (⟨"PeopleStore$Item", "<init>", "(LPeopleStore$Value;LPeopleStore$Value;)V"⟩, prog_5_method_1_code, 3, none, 3, 20, [[(0, .aload_n 0), (1, .invokespecial 1), (4, .aload_n 0), (5, .aload_n 1), (6, .putfield 7), (9, .aload_n 0), (10, .aload_n 2), (11, .putfield 13), (14, .return_)]])
theorem mt_g127 : mx_goodB mt_q127 = true := by decide +kernel
def mt_qk7 : List mt_Q := [mt_q112, mt_q113, mt_q114, mt_q115, mt_q116, mt_q117, mt_q118, mt_q119, mt_q120, mt_q121, mt_q122, mt_q123, mt_q124, mt_q125, mt_q126, mt_q127]
theorem mt_gk7 : ∀ q ∈ mt_qk7, mx_goodB q = true := List.forall_mem_cons.mpr ⟨mt_g112, List.forall_mem_cons.mpr ⟨mt_g113, List.forall_mem_cons.mpr ⟨mt_g114, List.forall_mem_cons.mpr ⟨mt_g115, List.forall_mem_cons.mpr ⟨mt_g116, List.forall_mem_cons.mpr ⟨mt_g117, List.forall_mem_cons.mpr ⟨mt_g118, List.forall_mem_cons.mpr ⟨mt_g119, List.forall_mem_cons.mpr ⟨mt_g120, List.forall_mem_cons.mpr ⟨mt_g121, List.forall_mem_cons.mpr ⟨mt_g122, List.forall_mem_cons.mpr ⟨mt_g123, List.forall_mem_cons.mpr ⟨mt_g124, List.forall_mem_cons.mpr ⟨mt_g125, List.forall_mem_cons.mpr ⟨mt_g126, List.forall_mem_cons.mpr ⟨mt_g127, fun _ h => absurd h List.not_mem_nil⟩⟩⟩⟩⟩⟩⟩⟩⟩⟩⟩⟩⟩⟩⟩⟩
/-- PeopleStore$Attribute.ofItem(Ljava/lang/String;)I -/
def mt_q128 : mt_Q := (⟨"PeopleStore$Attribute", "ofItem", "(Ljava/lang/String;)I"⟩, prog_2_method_5_code, 1, (some .int), 1, 19, [[(0, .aload_n 0), (1, .ldc 19), (3, .invokevirtual 33), (6, .ifCond .eq 6), (9, .bipush 6), (11, .ireturn), (12, .aload_n 0), (13, .ldc 21), (15, .invokevirtual 33)],
  [(18, .ifCond .eq 8), (21, .bipush 7), (23, .goto 4), (26, .iconst (-1)), (27, .ireturn)]])
theorem mt_g128 : mx_goodB mt_q128 = true := by decide +kernel
/-- PeopleStore$Attribute.fits(ILPeopleStore$Value;)Z -/
def mt_q129 : mt_Q := (⟨"PeopleStore$Attribute", "fits", "(ILPeopleStore$Value;)Z"⟩, prog_2_method_8_code, 3, (some .boolean), 2, 19, [[(0, .aload_n 1), (1, .ifnull 14), (4, .aload_n 1), (5, .getfield 39), (8, .iload_n 0), (9, .invokestatic 45), (12, .if_icmp .eq 5), (15, .iconst 0)],
  [(16, .ireturn), (17, .aload_n 1), (18, .getfield 49), (21, .invokevirtual 53), (24, .istore_n 2), (25, .aload_n 1), (26, .getfield 39), (29, .iconst 2), (30, .if_icmp .ne 14)],
  [(33, .iload_n 2), (34, .iconst 1), (35, .if_icmp .lt 13), (38, .iload_n 2), (39, .bipush 12), (41, .if_icmp .gt 7), (44, .iconst 1), (45, .goto 4)],
  [(48, .iconst 0), (49, .ireturn)]])
theorem mt_g129 : mx_goodB mt_q129 = true := by decide +kernel
/-- PeopleStore$Attribute.kindOf(I)I -/
def mt_q130 : mt_Q := (⟨"PeopleStore$Attribute", "kindOf", "(I)I"⟩, prog_2_method_3_code, 1, (some .int), 1, 19, [[(0, .iload_n 0), (1, .ifCond .lt 19), (4, .iload_n 0), (5, .getstatic 23), (8, .arraylength), (9, .if_icmp .ge 11), (12, .getstatic 23), (15, .iload_n 0)],
  [(16, .iaload), (17, .goto 4), (20, .iconst (-1)), (21, .ireturn)]])
theorem mt_g130 : mx_goodB mt_q130 = true := by decide +kernel
/-- java/util/ArrayList.add(Ljava/lang/Object;)Z -/
def mt_q131 : mt_Q := (⟨"java/util/ArrayList", "add", "(Ljava/lang/Object;)Z"⟩, prog_26_method_25_code, 2, (some .boolean), 2, 6, [[(0, .aload_n 0), (1, .dup), (2, .getfield 63), (5, .iconst 1), (6, .iadd), (7, .putfield 63), (10, .aload_n 0), (11, .aload_n 1), (12, .aload_n 0), (13, .getfield 9)],
  [(16, .aload_n 0), (17, .getfield 48), (20, .invokevirtual 131), (23, .iconst 1), (24, .ireturn)]])
theorem mt_g131 : mx_goodB mt_q131 = true := by decide +kernel
/-- java/util/ArrayList.add(Ljava/lang/Object;[Ljava/lang/Object;I)V -/
def mt_q132 : mt_Q := (⟨"java/util/ArrayList", "add", "(Ljava/lang/Object;[Ljava/lang/Object;I)V"⟩, prog_26_method_24_code, 4, none, 4, 6, [[(0, .iload_n 3), (1, .aload_n 2), (2, .arraylength), (3, .if_icmp .ne 8), (6, .aload_n 0), (7, .invokevirtual 129), (10, .astore_n 2), (11, .aload_n 2), (12, .iload_n 3), (13, .aload_n 1), (14, .aastore), (15, .aload_n 0)],
  [(16, .iload_n 3), (17, .iconst 1), (18, .iadd), (19, .putfield 48), (22, .return_)]])
theorem mt_g132 : mx_goodB mt_q132 = true := by decide +kernel
/-- java/util/ArrayList.grow()[Ljava/lang/Object; -/
def mt_q133 : mt_Q := (⟨"java/util/ArrayList", "grow", "()[Ljava/lang/Object;"⟩, prog_26_method_7_code, 1, (some (.array (.object "java/lang/Object"))), 1, 6, [[(0, .aload_n 0), (1, .aload_n 0), (2, .getfield 48), (5, .iconst 1), (6, .iadd), (7, .invokevirtual 69), (10, .areturn)]])
theorem mt_g133 : mx_goodB mt_q133 = true := by decide +kernel
/-- java/util/ArrayList.grow(I)[Ljava/lang/Object; -/
def mt_q134 : mt_Q := (⟨"java/util/ArrayList", "grow", "(I)[Ljava/lang/Object;"⟩, prog_26_method_6_code, 4, (some (.array (.object "java/lang/Object"))), 2, 6, [[(0, .aload_n 0), (1, .getfield 9), (4, .arraylength), (5, .istore_n 2), (6, .iload_n 2), (7, .ifCond .gt 13), (10, .aload_n 0), (11, .getfield 9), (14, .getstatic 39)],
  [(17, .if_acmp .eq 28), (20, .iload_n 2), (21, .iload_n 1), (22, .iload_n 2), (23, .isub), (24, .iload_n 2), (25, .iconst 1), (26, .ishr), (27, .invokestatic 73), (30, .istore_n 3), (31, .aload_n 0)],
  [(32, .aload_n 0), (33, .getfield 9), (36, .iload_n 3), (37, .invokestatic 66), (40, .dup_x1), (41, .putfield 9), (44, .areturn), (45, .aload_n 0), (46, .bipush 10)],
  [(48, .iload_n 1), (49, .invokestatic 79), (52, .anewarray 7), (55, .dup_x1), (56, .putfield 9), (59, .areturn)]])
theorem mt_g134 : mx_goodB mt_q134 = true := by decide +kernel
/-- java/util/Arrays.copyOf([Ljava/lang/Object;I)[Ljava/lang/Object; -/
def mt_q135 : mt_Q := (⟨"java/util/Arrays", "copyOf", "([Ljava/lang/Object;I)[Ljava/lang/Object;"⟩, prog_27_method_119_code, 2, (some (.array (.object "java/lang/Object"))), 2, 16, [[(0, .aload_n 0), (1, .iload_n 1), (2, .aload_n 0), (3, .invokevirtual 86), (6, .invokestatic 300), (9, .areturn)]])
theorem mt_g135 : mx_goodB mt_q135 = true := by decide +kernel
/-- java/util/Arrays.copyOf([Ljava/lang/Object;ILjava/lang/Class;)[Ljava/lang/Object; -/
def mt_q136 : mt_Q := (⟨"java/util/Arrays", "copyOf", "([Ljava/lang/Object;ILjava/lang/Class;)[Ljava/lang/Object;"⟩, prog_27_method_120_code, 4, (some (.array (.object "java/lang/Object"))), 3, 16, [[(0, .aload_n 2), (1, .ldc 110), (3, .if_acmp .ne 10), (6, .iload_n 1), (7, .anewarray 2), (10, .goto 14), (13, .aload_n 2), (14, .invokevirtual 90)],
  [(17, .iload_n 1), (18, .invokestatic 95), (21, .checkcast 110), (24, .astore_n 3), (25, .aload_n 0), (26, .iconst 0), (27, .aload_n 3), (28, .iconst 0), (29, .aload_n 0), (30, .arraylength), (31, .iload_n 1)],
  [(32, .invokestatic 304), (35, .invokestatic 150), (38, .aload_n 3), (39, .areturn)]])
theorem mt_g136 : mx_goodB mt_q136 = true := by decide +kernel
/-- PeopleStore$Person.acceptsMail(Ljava/util/ArrayList;)Z -/
def mt_q137 : mt_Q := (⟨"PeopleStore$Person", "acceptsMail", "(Ljava/util/ArrayList;)Z"⟩, prog_8_method_4_code, 4, (some .boolean), 2, 18, [[(0, .aload_n 1), (1, .ifnull 11), (4, .aload_n 1), (5, .invokevirtual 86), (8, .iconst 4), (9, .if_icmp .le 5), (12, .iconst 0), (13, .ireturn), (14, .aload_n 0), (15, .aload_n 1)],
  [(16, .putfield 12), (19, .iconst 0), (20, .istore_n 2), (21, .iconst 0), (22, .istore_n 3), (23, .iload_n 3), (24, .aload_n 0), (25, .getfield 12), (28, .invokevirtual 86), (31, .if_icmp .ge 29)],
  [(34, .aload_n 0), (35, .getfield 12), (38, .iload_n 3), (39, .invokevirtual 90), (42, .checkcast 70), (45, .invokevirtual 94)],
  [(48, .ifCond .eq 6), (51, .iinc 2 1), (54, .iinc 3 1), (57, .goto (-34)), (60, .iload_n 2), (61, .iconst 1), (62, .if_icmp .gt 14)],
  [(65, .aload_n 0), (66, .invokevirtual 98), (69, .ifCond .ne 7), (72, .iconst 1), (73, .goto 4), (76, .iconst 0), (77, .ireturn)]])
theorem mt_g137 : mx_goodB mt_q137 = true := by decide +kernel
/-- java/util/ArrayList.size()I -/
def mt_q138 : mt_Q := (⟨"java/util/ArrayList", "size", "()I"⟩, prog_26_method_8_code, 1, (some .int), 1, 6, [[(0, .aload_n 0), (1, .getfield 48), (4, .ireturn)]])
theorem mt_g138 : mx_goodB mt_q138 = true := by decide +kernel
/-- java/util/ArrayList.get(I)Ljava/lang/Object; -/
def mt_q139 : mt_Q := (⟨"java/util/ArrayList", "get", "(I)Ljava/lang/Object;"⟩, prog_26_method_20_code, 2, (some (.object "java/lang/Object")), 2, 6, [[(0, .iload_n 1), (1, .aload_n 0), (2, .getfield 48), (5, .invokestatic 118), (8, .pop), (9, .aload_n 0), (10, .iload_n 1), (11, .invokevirtual 123), (14, .areturn)]])
theorem mt_g139 : mx_goodB mt_q139 = true := by decide +kernel
/-- java/util/Objects.checkIndex(II)I -/
def mt_q140 : mt_Q := (⟨"java/util/Objects", "checkIndex", "(II)I"⟩, prog_30_method_17_code, 2, (some .int), 2, 21, [[(0, .iload_n 0), (1, .iload_n 1), (2, .aconst_null), (3, .invokestatic 105), (6, .ireturn)]])
theorem mt_g140 : mx_goodB mt_q140 = true := by decide +kernel
/-- java/util/ArrayList.elementData(I)Ljava/lang/Object; -/
def mt_q141 : mt_Q := (⟨"java/util/ArrayList", "elementData", "(I)Ljava/lang/Object;"⟩, prog_26_method_18_code, 2, (some (.object "java/lang/Object")), 2, 6, [[(0, .aload_n 0), (1, .getfield 9), (4, .iload_n 1), (5, .aaload), (6, .areturn)]])
theorem mt_g141 : mx_goodB mt_q141 = true := by decide +kernel
/-- PeopleStore$Item.isPrimary()Z -/
def mt_q142 : mt_Q := (⟨"PeopleStore$Item", "isPrimary", "()Z"⟩, prog_5_method_5_code, 1, (some .boolean), 1, 20, [[(0, .aload_n 0), (1, .getfield 13), (4, .ifnull 18), (7, .aload_n 0), (8, .getfield 13), (11, .getfield 67), (14, .iconst 1), (15, .if_icmp .ne 7)],
  [(18, .iconst 1), (19, .goto 4), (22, .iconst 0), (23, .ireturn)]])
theorem mt_g142 : mx_goodB mt_q142 = true := by decide +kernel
/-- PeopleStore$Person.hasTwins()Z -/
def mt_q143 : mt_Q := (⟨"PeopleStore$Person", "hasTwins", "()Z"⟩, prog_8_method_11_code, 3, (some .boolean), 1, 18, [[(0, .iconst 0), (1, .istore_n 1), (2, .iload_n 1), (3, .aload_n 0), (4, .getfield 12), (7, .invokevirtual 86), (10, .if_icmp .ge 58), (13, .iconst 0), (14, .istore_n 2), (15, .iload_n 2)],
  [(16, .iload_n 1), (17, .if_icmp .ge 45), (20, .aload_n 0), (21, .getfield 12), (24, .iload_n 1), (25, .invokevirtual 90), (28, .checkcast 70), (31, .getfield 110)],
  [(34, .aload_n 0), (35, .getfield 12), (38, .iload_n 2), (39, .invokevirtual 90), (42, .checkcast 70), (45, .getfield 110)],
  [(48, .invokestatic 121), (51, .ifCond .eq 5), (54, .iconst 1), (55, .ireturn), (56, .iinc 2 1), (59, .goto (-44)), (62, .iinc 1 1)],
  [(65, .goto (-63)), (68, .iconst 0), (69, .ireturn)]])
theorem mt_g143 : mx_goodB mt_q143 = true := by decide +kernel
def mt_qk8 : List mt_Q := [mt_q128, mt_q129, mt_q130, mt_q131, mt_q132, mt_q133, mt_q134, mt_q135, mt_q136, mt_q137, mt_q138, mt_q139, mt_q140, mt_q141, mt_q142, mt_q143]
theorem mt_gk8 : ∀ q ∈ mt_qk8, mx_goodB q = true := List.forall_mem_cons.mpr ⟨mt_g128, List.forall_mem_cons.mpr ⟨mt_g129, List.forall_mem_cons.mpr ⟨mt_g130, List.forall_mem_cons.mpr ⟨mt_g131, List.forall_mem_cons.mpr ⟨mt_g132, List.forall_mem_cons.mpr ⟨mt_g133, List.forall_mem_cons.mpr ⟨mt_g134, List.forall_mem_cons.mpr ⟨mt_g135, List.forall_mem_cons.mpr ⟨mt_g136, List.forall_mem_cons.mpr ⟨mt_g137, List.forall_mem_cons.mpr ⟨mt_g138, List.forall_mem_cons.mpr ⟨mt_g139, List.forall_mem_cons.mpr ⟨mt_g140, List.forall_mem_cons.mpr ⟨mt_g141, List.forall_mem_cons.mpr ⟨mt_g142, List.forall_mem_cons.mpr ⟨mt_g143, fun _ h => absurd h List.not_mem_nil⟩⟩⟩⟩⟩⟩⟩⟩⟩⟩⟩⟩⟩⟩⟩⟩
/-- PeopleStore$Value.same(LPeopleStore$Value;LPeopleStore$Value;)Z -/
def mt_q144 : mt_Q := (⟨"PeopleStore$Value", "same", "(LPeopleStore$Value;LPeopleStore$Value;)Z"⟩, prog_9_method_5_code, 2, (some .boolean), 2, 14, [[(0, .aload_n 0), (1, .ifnull 7), (4, .aload_n 1), (5, .ifnonnull 17), (8, .aload_n 0), (9, .ifnonnull 11), (12, .aload_n 1), (13, .ifnonnull 7)],
  [(16, .iconst 1), (17, .goto 4), (20, .iconst 0), (21, .ireturn), (22, .aload_n 0), (23, .aload_n 1), (24, .invokevirtual 26), (27, .ifCond .ne 7), (30, .iconst 1), (31, .goto 4)],
  [(34, .iconst 0), (35, .ireturn)]])
theorem mt_g144 : mx_goodB mt_q144 = true := by decide +kernel
/-- PeopleStore$Value.compare(LPeopleStore$Value;)I -/
def mt_q145 : mt_Q := (⟨"PeopleStore$Value", "compare", "(LPeopleStore$Value;)I"⟩, prog_9_method_11_code, 5, (some .int), 2, 14, [[(0, .aload_n 0), (1, .getfield 18), (4, .invokevirtual 109), (7, .aload_n 1), (8, .getfield 18), (11, .invokevirtual 109), (14, .invokestatic 112)],
  [(17, .istore_n 2), (18, .iconst 0), (19, .istore_n 3), (20, .iload_n 3), (21, .iload_n 2), (22, .if_icmp .ge 36), (25, .aload_n 0), (26, .getfield 18), (29, .iload_n 3), (30, .invokevirtual 118)],
  [(33, .aload_n 1), (34, .getfield 18), (37, .iload_n 3), (38, .invokevirtual 118), (41, .isub), (42, .istore 4), (44, .iload 4), (46, .ifCond .eq 6)],
  [(49, .iload 4), (51, .ireturn), (52, .iinc 3 1), (55, .goto (-35)), (58, .aload_n 0), (59, .getfield 18), (62, .invokevirtual 109)],
  [(65, .aload_n 1), (66, .getfield 18), (69, .invokevirtual 109), (72, .invokestatic 122), (75, .istore_n 3), (76, .iload_n 3), (77, .ifCond .eq 7)],
  [(80, .iload_n 3), (81, .goto 14), (84, .aload_n 0), (85, .getfield 13), (88, .aload_n 1), (89, .getfield 13), (92, .invokestatic 122), (95, .ireturn)]])
theorem mt_g145 : mx_goodB mt_q145 = true := by decide +kernel
/-- java/lang/Integer.compare(II)I -/
def mt_q146 : mt_Q := (⟨"java/lang/Integer", "compare", "(II)I"⟩, prog_16_method_40_code, 2, (some .int), 2, 22, [[(0, .iload_n 0), (1, .iload_n 1), (2, .if_icmp .ge 7), (5, .iconst (-1)), (6, .goto 13), (9, .iload_n 0), (10, .iload_n 1), (11, .if_icmp .ne 7), (14, .iconst 0), (15, .goto 4)],
  [(18, .iconst 1), (19, .ireturn)]])
theorem mt_g146 : mx_goodB mt_q146 = true := by decide +kernel
/-- PeopleStore$Person.set(ILPeopleStore$Value;)V -/
def mt_q147 : mt_Q := (⟨"PeopleStore$Person", "set", "(ILPeopleStore$Value;)V"⟩, prog_8_method_8_code, 3, none, 3, 18, [[(0, .iload_n 1), (1, .iconst 2), (2, .if_icmp .ne 33), (5, .aload_n 2), (6, .ifnull 29), (9, .aload_n 0), (10, .aload_n 2), (11, .putfield 59), (14, .aload_n 0), (15, .new 25)],
  [(18, .dup), (19, .aload_n 2), (20, .getfield 129), (23, .invokestatic 132), (26, .invokespecial 136), (29, .putfield 101)],
  [(32, .goto 26), (35, .iload_n 1), (36, .iconst 3), (37, .if_icmp .ne 11), (40, .aload_n 0), (41, .aload_n 2), (42, .putfield 104), (45, .goto 13)],
  [(48, .iload_n 1), (49, .iconst 4), (50, .if_icmp .ne 8), (53, .aload_n 0), (54, .aload_n 2), (55, .putfield 107), (58, .return_)]])
theorem mt_g147 : mx_goodB mt_q147 = true := by decide +kernel
/-- PeopleStore.isNameTaken(LPeopleStore$Person;)Z -/
def mt_q148 : mt_Q := (⟨"PeopleStore", "isNameTaken", "(LPeopleStore$Person;)Z"⟩, prog_1_method_19_code, 5, (some .boolean), 2, 1, [[(0, .iconst 0), (1, .istore_n 2), (2, .iload_n 2), (3, .aload_n 0), (4, .getfield 19), (7, .invokevirtual 71), (10, .if_icmp .ge 66), (13, .aload_n 0), (14, .getfield 19)],
  [(17, .iload_n 2), (18, .invokevirtual 100), (21, .checkcast 62), (24, .astore_n 3), (25, .aload_n 3), (26, .getfield 190), (29, .getfield 154)],
  [(32, .aload_n 1), (33, .getfield 190), (36, .getfield 154), (39, .if_icmp .eq 7), (42, .iconst 1), (43, .goto 4), (46, .iconst 0), (47, .istore 4)],
  [(49, .iload 4), (51, .ifCond .eq 19), (54, .aload_n 3), (55, .getfield 193), (58, .aload_n 1), (59, .getfield 193), (62, .invokestatic 196)],
  [(65, .ifCond .eq 5), (68, .iconst 1), (69, .ireturn), (70, .iinc 2 1), (73, .goto (-71)), (76, .iconst 0), (77, .ireturn)]])
theorem mt_g148 : mx_goodB mt_q148 = true := by decide +kernel
/-- PeopleStore.replace(II)I -/
def mt_q149 : mt_Q := (⟨"PeopleStore", "replace", "(II)I"⟩, prog_1_method_4_code, 7, (some .int), 3, 1, [[(0, .aload_n 0), (1, .invokevirtual 53), (4, .astore_n 3), (5, .aload_n 0), (6, .iload_n 1), (7, .invokevirtual 79), (10, .istore 4), (12, .aload_n 0), (13, .iload 4), (15, .iload_n 2)],
  [(16, .invokevirtual 83), (19, .istore 5), (21, .iload 5), (23, .ifCond .eq 6), (26, .iload 5), (28, .ireturn), (29, .aload_n 3), (30, .ifnonnull 7)],
  [(33, .sipush (-400)), (36, .ireturn), (37, .aload_n 3), (38, .iload_n 1), (39, .invokestatic 61), (42, .astore 6), (44, .aload 6), (46, .ifnonnull 7)],
  [(49, .sipush (-401)), (52, .ireturn), (53, .aload_n 0), (54, .iload 4), (56, .aload 6), (58, .invokevirtual 87), (61, .ireturn)]])
theorem mt_g149 : mx_goodB mt_q149 = true := by decide +kernel
/-- PeopleStore.placeOf(I)I -/
def mt_q150 : mt_Q := (⟨"PeopleStore", "placeOf", "(I)I"⟩, prog_1_method_17_code, 3, (some .int), 2, 1, [[(0, .iconst 0), (1, .istore_n 2), (2, .iload_n 2), (3, .aload_n 0), (4, .getfield 19), (7, .invokevirtual 71), (10, .if_icmp .ge 32), (13, .aload_n 0), (14, .getfield 19)],
  [(17, .iload_n 2), (18, .invokevirtual 100), (21, .checkcast 62), (24, .getfield 190), (27, .getfield 154), (30, .iload_n 1), (31, .if_icmp .ne 5)],
  [(34, .iload_n 2), (35, .ireturn), (36, .iinc 2 1), (39, .goto (-37)), (42, .iconst (-1)), (43, .ireturn)]])
theorem mt_g150 : mx_goodB mt_q150 = true := by decide +kernel
/-- PeopleStore.refusalAt(II)I -/
def mt_q151 : mt_Q := (⟨"PeopleStore", "refusalAt", "(II)I"⟩, prog_1_method_18_code, 3, (some .int), 3, 1, [[(0, .iload_n 1), (1, .iconst (-1)), (2, .if_icmp .ne 7), (5, .sipush (-404)), (8, .ireturn), (9, .iload_n 2), (10, .ifCond .eq 24), (13, .iload_n 2), (14, .aload_n 0), (15, .getfield 19)],
  [(18, .iload_n 1), (19, .invokevirtual 100), (22, .checkcast 62), (25, .getfield 150), (28, .getfield 154), (31, .if_icmp .ne 7)],
  [(34, .iconst 0), (35, .goto 6), (38, .sipush (-412)), (41, .ireturn)]])
theorem mt_g151 : mx_goodB mt_q151 = true := by decide +kernel
/-- PeopleStore.settle(ILPeopleStore$Person;)I -/
def mt_q152 : mt_Q := (⟨"PeopleStore", "settle", "(ILPeopleStore$Person;)I"⟩, prog_1_method_20_code, 4, (some .int), 3, 1, [[(0, .aload_n 0), (1, .aload_n 2), (2, .invokevirtual 67), (5, .ifCond .eq 7), (8, .sipush (-409)), (11, .ireturn), (12, .aload_n 0), (13, .getfield 19)],
  [(16, .iload_n 1), (17, .invokevirtual 100), (20, .checkcast 62), (23, .astore_n 3), (24, .aload_n 2), (25, .aload_n 3), (26, .invokevirtual 200), (29, .ifCond .eq 11)],
  [(32, .aload_n 3), (33, .getfield 150), (36, .getfield 154), (39, .ireturn), (40, .aload_n 2), (41, .new 155), (44, .dup), (45, .aload_n 3), (46, .getfield 150)],
  [(49, .getfield 154), (52, .iconst 1), (53, .iadd), (54, .invokespecial 203), (57, .putfield 150), (60, .aload_n 0), (61, .getfield 19)],
  [(64, .iload_n 1), (65, .aload_n 2), (66, .invokevirtual 205), (69, .pop), (70, .aload_n 2), (71, .getfield 150), (74, .getfield 154), (77, .ireturn)]])
theorem mt_g152 : mx_goodB mt_q152 = true := by decide +kernel
/-- PeopleStore$Person.isLike(LPeopleStore$Person;)Z -/
def mt_q153 : mt_Q := (⟨"PeopleStore$Person", "isLike", "(LPeopleStore$Person;)Z"⟩, prog_8_method_6_code, 3, (some .boolean), 2, 18, [[(0, .aload_n 0), (1, .getfield 59), (4, .aload_n 1), (5, .getfield 59), (8, .invokestatic 121), (11, .ifCond .eq 48), (14, .aload_n 0), (15, .getfield 104)],
  [(18, .aload_n 1), (19, .getfield 104), (22, .invokestatic 121), (25, .ifCond .eq 34), (28, .aload_n 0), (29, .getfield 107)],
  [(32, .aload_n 1), (33, .getfield 107), (36, .invokestatic 121), (39, .ifCond .eq 20), (42, .aload_n 0), (43, .getfield 12), (46, .invokevirtual 86)],
  [(49, .aload_n 1), (50, .getfield 12), (53, .invokevirtual 86), (56, .if_icmp .eq 5), (59, .iconst 0), (60, .ireturn), (61, .iconst 0), (62, .istore_n 2), (63, .iload_n 2)],
  [(64, .aload_n 0), (65, .getfield 12), (68, .invokevirtual 86), (71, .if_icmp .ge 39), (74, .aload_n 0), (75, .getfield 12), (78, .iload_n 2), (79, .invokevirtual 90)],
  [(82, .checkcast 70), (85, .aload_n 1), (86, .getfield 12), (89, .iload_n 2), (90, .invokevirtual 90), (93, .checkcast 70)],
  [(96, .invokevirtual 125), (99, .ifCond .ne 5), (102, .iconst 0), (103, .ireturn), (104, .iinc 2 1), (107, .goto (-44)), (110, .iconst 1), (111, .ireturn)]])
theorem mt_g153 : mx_goodB mt_q153 = true := by decide +kernel
/-- PeopleStore$Item.isLike(LPeopleStore$Item;)Z -/
def mt_q154 : mt_Q := (⟨"PeopleStore$Item", "isLike", "(LPeopleStore$Item;)Z"⟩, prog_5_method_6_code, 2, (some .boolean), 2, 20, [[(0, .aload_n 0), (1, .getfield 7), (4, .aload_n 1), (5, .getfield 7), (8, .invokestatic 70), (11, .ifCond .eq 21), (14, .aload_n 0), (15, .getfield 13)],
  [(18, .aload_n 1), (19, .getfield 13), (22, .invokestatic 70), (25, .ifCond .eq 7), (28, .iconst 1), (29, .goto 4)],
  [(32, .iconst 0), (33, .ireturn)]])
theorem mt_g154 : mx_goodB mt_q154 = true := by decide +kernel
/-- java/util/ArrayList.set(ILjava/lang/Object;)Ljava/lang/Object; -/
def mt_q155 : mt_Q := (⟨"java/util/ArrayList", "set", "(ILjava/lang/Object;)Ljava/lang/Object;"⟩, prog_26_method_23_code, 4, (some (.object "java/lang/Object")), 3, 6, [[(0, .iload_n 1), (1, .aload_n 0), (2, .getfield 48), (5, .invokestatic 118), (8, .pop), (9, .aload_n 0), (10, .iload_n 1), (11, .invokevirtual 123), (14, .astore_n 3), (15, .aload_n 0)],
  [(16, .getfield 9), (19, .iload_n 1), (20, .aload_n 2), (21, .aastore), (22, .aload_n 3), (23, .areturn)]])
theorem mt_g155 : mx_goodB mt_q155 = true := by decide +kernel
/-- PeopleStore.patch(II)I -/
def mt_q156 : mt_Q := (⟨"PeopleStore", "patch", "(II)I"⟩, prog_1_method_5_code, 9, (some .int), 3, 1, [[(0, .aload_n 0), (1, .getfield 10), (4, .invokestatic 91), (7, .astore_n 3), (8, .aload_n 0), (9, .getfield 10), (12, .invokevirtual 97), (15, .aload_n 0)],
  [(16, .iload_n 1), (17, .invokevirtual 79), (20, .istore 4), (22, .aload_n 0), (23, .iload 4), (25, .iload_n 2), (26, .invokevirtual 83), (29, .istore 5), (31, .iload 5)],
  [(33, .ifCond .eq 6), (36, .iload 5), (38, .ireturn), (39, .aload_n 3), (40, .ifnonnull 7), (43, .sipush (-400)), (46, .ireturn), (47, .aload_n 0)],
  [(48, .getfield 19), (51, .iload 4), (53, .invokevirtual 100), (56, .checkcast 62), (59, .invokevirtual 104), (62, .astore 6)],
  [(64, .aload_n 3), (65, .astore 7), (67, .aload 7), (69, .ifnull 30), (72, .aload 7), (74, .aload 6), (76, .invokevirtual 108), (79, .istore 8)],
  [(81, .iload 8), (83, .ifCond .eq 6), (86, .iload 8), (88, .ireturn), (89, .aload 7), (91, .getfield 112), (94, .astore 7)],
  [(96, .goto (-29)), (99, .aload_n 0), (100, .iload 4), (102, .aload 6), (104, .invokevirtual 87), (107, .ireturn)]])
theorem mt_g156 : mx_goodB mt_q156 = true := by decide +kernel
/-- PeopleStore$Operation.readAll(LPeopleStore$Buffer;)LPeopleStore$Operation; -/
def mt_q157 : mt_Q := (⟨"PeopleStore$Operation", "readAll", "(LPeopleStore$Buffer;)LPeopleStore$Operation;"⟩, prog_6_method_2_code, 5, (some (.object "PeopleStore$Operation")), 1, 23, [[(0, .aload_n 0), (1, .invokevirtual 20), (4, .aconst_null), (5, .astore_n 1), (6, .aconst_null), (7, .astore_n 2), (8, .iconst 0), (9, .istore_n 3), (10, .iload_n 3), (11, .bipush 120), (13, .if_icmp .ge 94)],
  [(16, .new 12), (19, .dup), (20, .aload_n 0), (21, .invokevirtual 25), (24, .invokespecial 29), (27, .astore 4), (29, .aload_n 0), (30, .invokevirtual 32)],
  [(33, .aload 4), (35, .invokevirtual 35), (38, .ifCond .eq 21), (41, .aload 4), (43, .aload_n 0), (44, .invokevirtual 39), (47, .ifCond .eq 12)],
  [(50, .aload 4), (52, .aload_n 0), (53, .invokevirtual 43), (56, .ifCond .ne 5), (59, .aconst_null), (60, .areturn), (61, .aload_n 2), (62, .ifnonnull 9)],
  [(65, .aload 4), (67, .astore_n 1), (68, .goto 9), (71, .aload_n 2), (72, .aload 4), (74, .putfield 46), (77, .aload 4), (79, .astore_n 2)],
  [(80, .aload_n 0), (81, .iconst 0), (82, .invokevirtual 49), (85, .ifCond .eq 5), (88, .aload_n 1), (89, .areturn), (90, .aload_n 0), (91, .bipush 10), (93, .invokevirtual 53)],
  [(96, .ifCond .ne 5), (99, .aconst_null), (100, .areturn), (101, .iinc 3 1), (104, .goto (-94)), (107, .aconst_null), (108, .areturn)]])
theorem mt_g157 : mx_goodB mt_q157 = true := by decide +kernel
/-- PeopleStore$Buffer.kind()I -/
def mt_q158 : mt_Q := (⟨"PeopleStore$Buffer", "kind", "()I"⟩, prog_3_method_7_code, 1, (some .int), 1, 2, [[(0, .aload_n 0), (1, .getfield 13), (4, .aload_n 0), (5, .getfield 34), (8, .iaload), (9, .ireturn)]])
theorem mt_g158 : mx_goodB mt_q158 = true := by decide +kernel
/-- PeopleStore$Operation.<init>(I)V -/
def mt_q159 : mt_Q := (⟨"PeopleStore$Operation", "<init>", "(I)V"⟩, prog_6_method_1_code, 2, none, 2, 23, [[(0, .aload_n 0), (1, .invokespecial 3), (4, .aload_n 0), (5, .iconst (-1)), (6, .putfield 11), (9, .aload_n 0), (10, .iload_n 1), (11, .putfield 17), (14, .return_)]])
theorem mt_g159 : mx_goodB mt_q159 = true := by decide +kernel
def mt_qk9 : List mt_Q := [mt_q144, mt_q145, mt_q146, mt_q147, mt_q148, mt_q149, mt_q150, mt_q151, mt_q152, mt_q153, mt_q154, mt_q155, mt_q156, mt_q157, mt_q158, mt_q159]
theorem mt_gk9 : ∀ q ∈ mt_qk9, mx_goodB q = true := List.forall_mem_cons.mpr ⟨mt_g144, List.forall_mem_cons.mpr ⟨mt_g145, List.forall_mem_cons.mpr ⟨mt_g146, List.forall_mem_cons.mpr ⟨mt_g147, List.forall_mem_cons.mpr ⟨mt_g148, List.forall_mem_cons.mpr ⟨mt_g149, List.forall_mem_cons.mpr ⟨mt_g150, List.forall_mem_cons.mpr ⟨mt_g151, List.forall_mem_cons.mpr ⟨mt_g152, List.forall_mem_cons.mpr ⟨mt_g153, List.forall_mem_cons.mpr ⟨mt_g154, List.forall_mem_cons.mpr ⟨mt_g155, List.forall_mem_cons.mpr ⟨mt_g156, List.forall_mem_cons.mpr ⟨mt_g157, List.forall_mem_cons.mpr ⟨mt_g158, List.forall_mem_cons.mpr ⟨mt_g159, fun _ h => absurd h List.not_mem_nil⟩⟩⟩⟩⟩⟩⟩⟩⟩⟩⟩⟩⟩⟩⟩⟩
/-- PeopleStore$Operation.hasSign()Z -/
def mt_q160 : mt_Q := (⟨"PeopleStore$Operation", "hasSign", "()Z"⟩, prog_6_method_3_code, 1, (some .boolean), 1, 23, [[(0, .aload_n 0), (1, .getfield 17), (4, .bipush 43), (6, .if_icmp .eq 21), (9, .aload_n 0), (10, .getfield 17), (13, .bipush 45), (15, .if_icmp .eq 12)],
  [(18, .aload_n 0), (19, .getfield 17), (22, .bipush 61), (24, .if_icmp .ne 7), (27, .iconst 1), (28, .goto 4), (31, .iconst 0)],
  [(32, .ireturn)]])
theorem mt_g160 : mx_goodB mt_q160 = true := by decide +kernel
/-- PeopleStore$Operation.readTarget(LPeopleStore$Buffer;)Z -/
def mt_q161 : mt_Q := (⟨"PeopleStore$Operation", "readTarget", "(LPeopleStore$Buffer;)Z"⟩, prog_6_method_4_code, 2, (some .boolean), 2, 23, [[(0, .aload_n 1), (1, .iconst 1), (2, .invokevirtual 49), (5, .ifCond .ne 18), (8, .aload_n 0), (9, .getfield 17), (12, .bipush 45), (14, .if_icmp .eq 7)],
  [(17, .iconst 1), (18, .goto 4), (21, .iconst 0), (22, .ireturn), (23, .aload_n 0), (24, .aload_n 1), (25, .invokevirtual 56), (28, .invokestatic 60), (31, .putfield 11)],
  [(34, .aload_n 0), (35, .getfield 11), (38, .iconst 5), (39, .if_icmp .ne 40), (42, .aload_n 1), (43, .bipush 91), (45, .invokevirtual 53)],
  [(48, .ifCond .eq 31), (51, .aload_n 0), (52, .aload_n 1), (53, .iconst 1), (54, .iconst 1), (55, .invokestatic 64), (58, .putfield 70), (61, .aload_n 0), (62, .getfield 70)],
  [(65, .ifnull 12), (68, .aload_n 1), (69, .bipush 93), (71, .invokevirtual 53), (74, .ifCond .ne 5), (77, .iconst 0), (78, .ireturn), (79, .aload_n 0)],
  [(80, .getfield 11), (83, .iconst 5), (84, .if_icmp .ne 23), (87, .aload_n 1), (88, .bipush 46), (90, .invokevirtual 53), (93, .ifCond .eq 14)],
  [(96, .aload_n 0), (97, .aload_n 1), (98, .invokevirtual 56), (101, .invokestatic 74), (104, .putfield 11), (107, .aload_n 0), (108, .getfield 11), (111, .iconst (-1))],
  [(112, .if_icmp .eq 7), (115, .iconst 1), (116, .goto 4), (119, .iconst 0), (120, .ireturn)]])
theorem mt_g161 : mx_goodB mt_q161 = true := by decide +kernel
/-- PeopleStore$Buffer.takeAnyWord()Ljava/lang/String; -/
def mt_q162 : mt_Q := (⟨"PeopleStore$Buffer", "takeAnyWord", "()Ljava/lang/String;"⟩, prog_3_method_12_code, 2, (some (.object "java/lang/String")), 1, 2, [[(0, .aload_n 0), (1, .getfield 13), (4, .aload_n 0), (5, .getfield 34), (8, .iaload), (9, .iconst 1), (10, .if_icmp .eq 6), (13, .ldc 61), (15, .areturn)],
  [(16, .aload_n 0), (17, .invokevirtual 63), (20, .astore_n 1), (21, .aload_n 0), (22, .dup), (23, .getfield 34), (26, .iconst 1), (27, .iadd), (28, .putfield 34), (31, .aload_n 1)],
  [(32, .areturn)]])
theorem mt_g162 : mx_goodB mt_q162 = true := by decide +kernel
/-- PeopleStore$Filter.readOr(LPeopleStore$Buffer;IZ)LPeopleStore$Filter; -/
def mt_q163 : mt_Q := (⟨"PeopleStore$Filter", "readOr", "(LPeopleStore$Buffer;IZ)LPeopleStore$Filter;"⟩, prog_4_method_2_code, 7, (some (.object "PeopleStore$Filter")), 3, 24, [[(0, .iconst 0), (1, .aconst_null), (2, .invokestatic 23), (5, .astore_n 3), (6, .iconst 1), (7, .aconst_null), (8, .invokestatic 23), (11, .astore 4), (13, .iconst 0), (14, .istore 5)],
  [(16, .iload 5), (18, .bipush 120), (20, .if_icmp .ge 64), (23, .aload_n 0), (24, .iload_n 1), (25, .iload_n 2), (26, .invokestatic 29), (29, .astore 6), (31, .aload 6)],
  [(33, .ifnonnull 5), (36, .aconst_null), (37, .areturn), (38, .aload 4), (40, .aload 6), (42, .invokevirtual 33), (45, .aload_n 0), (46, .ldc 37)],
  [(48, .invokevirtual 39), (51, .ifCond .ne 27), (54, .aload_n 3), (55, .aload 4), (57, .invokevirtual 33), (60, .aload_n 0), (61, .ldc 43), (63, .invokevirtual 39)],
  [(66, .ifCond .ne 5), (69, .aload_n 3), (70, .areturn), (71, .iconst 1), (72, .aconst_null), (73, .invokestatic 23), (76, .astore 4), (78, .iinc 5 1)],
  [(81, .goto (-65)), (84, .aconst_null), (85, .areturn)]])
theorem mt_g163 : mx_goodB mt_q163 = true := by decide +kernel
/-- PeopleStore$Filter.around(ILPeopleStore$Filter;)LPeopleStore$Filter; -/
def mt_q164 : mt_Q := (⟨"PeopleStore$Filter", "around", "(ILPeopleStore$Filter;)LPeopleStore$Filter;"⟩, prog_4_method_9_code, 3, (some (.object "PeopleStore$Filter")), 2, 24, [[(0, .new 8), (3, .dup), (4, .iload_n 0), (5, .iconst (-1)), (6, .iconst (-1)), (7, .aconst_null), (8, .invokespecial 84), (11, .astore_n 2), (12, .aload_n 2), (13, .aload_n 1), (14, .putfield 145)],
  [(17, .aload_n 2), (18, .areturn)]])
theorem mt_g164 : mx_goodB mt_q164 = true := by decide +kernel
/-- PeopleStore$Filter.<init>(IIILPeopleStore$Value;)V -/
def mt_q165 : mt_Q := (⟨"PeopleStore$Filter", "<init>", "(IIILPeopleStore$Value;)V"⟩, prog_4_method_1_code, 5, none, 5, 24, [[(0, .aload_n 0), (1, .invokespecial 1), (4, .aload_n 0), (5, .iload_n 1), (6, .putfield 7), (9, .aload_n 0), (10, .iload_n 2), (11, .putfield 13), (14, .aload_n 0), (15, .iload_n 3)],
  [(16, .putfield 16), (19, .aload_n 0), (20, .aload 4), (22, .putfield 19), (25, .return_)]])
theorem mt_g165 : mx_goodB mt_q165 = true := by decide +kernel
/-- PeopleStore$Filter.readTerm(LPeopleStore$Buffer;IZ)LPeopleStore$Filter; -/
def mt_q166 : mt_Q := (⟨"PeopleStore$Filter", "readTerm", "(LPeopleStore$Buffer;IZ)LPeopleStore$Filter;"⟩, prog_4_method_4_code, 6, (some (.object "PeopleStore$Filter")), 3, 24, [[(0, .aload_n 0), (1, .ldc 55), (3, .invokevirtual 39), (6, .istore_n 3), (7, .aload_n 0), (8, .bipush 40), (10, .invokevirtual 57), (13, .ifCond .eq 34)],
  [(16, .aload_n 0), (17, .bipush 41), (19, .iload_n 1), (20, .iload_n 2), (21, .invokestatic 60), (24, .astore 4), (26, .aload 4), (28, .ifnull 16), (31, .iload_n 3)],
  [(32, .ifCond .eq 12), (35, .iconst 2), (36, .aload 4), (38, .invokestatic 23), (41, .goto 5), (44, .aload 4), (46, .areturn), (47, .iload_n 3)],
  [(48, .ifCond .eq 5), (51, .aconst_null), (52, .areturn), (53, .iload_n 2), (54, .ifCond .eq 15), (57, .aload_n 0), (58, .aload_n 0), (59, .invokevirtual 64), (62, .invokestatic 68)],
  [(65, .invokestatic 74), (68, .areturn), (69, .aload_n 0), (70, .invokevirtual 64), (73, .invokestatic 78), (76, .istore 4), (78, .iload 4)],
  [(80, .iconst 5), (81, .if_icmp .eq 10), (84, .aload_n 0), (85, .iload 4), (87, .invokestatic 74), (90, .areturn), (91, .aload_n 0), (92, .bipush 91), (94, .invokevirtual 57)],
  [(97, .ifCond .eq 29), (100, .aload_n 0), (101, .bipush 93), (103, .iload_n 1), (104, .iconst 1), (105, .invokestatic 60), (108, .astore 5), (110, .aload 5)],
  [(112, .ifnonnull 7), (115, .aconst_null), (116, .goto 9), (119, .iconst 3), (120, .aload 5), (122, .invokestatic 23), (125, .areturn), (126, .aload_n 0), (127, .bipush 46)],
  [(129, .invokevirtual 51), (132, .istore 5), (134, .aload_n 0), (135, .iload 5), (137, .ifCond .eq 13), (140, .aload_n 0), (141, .invokevirtual 64)],
  [(144, .invokestatic 68), (147, .goto 5), (150, .bipush 6), (152, .invokestatic 74), (155, .areturn)]])
theorem mt_g166 : mx_goodB mt_q166 = true := by decide +kernel
/-- PeopleStore$Filter.readGroup(LPeopleStore$Buffer;IIZ)LPeopleStore$Filter; -/
def mt_q167 : mt_Q := (⟨"PeopleStore$Filter", "readGroup", "(LPeopleStore$Buffer;IIZ)LPeopleStore$Filter;"⟩, prog_4_method_3_code, 5, (some (.object "PeopleStore$Filter")), 4, 24, [[(0, .aload_n 0), (1, .invokevirtual 45), (4, .iload_n 2), (5, .bipush 6), (7, .if_icmp .ge 14), (10, .aload_n 0), (11, .iload_n 2), (12, .iconst 1), (13, .iadd), (14, .iload_n 3), (15, .invokestatic 48)],
  [(18, .goto 4), (21, .aconst_null), (22, .astore 4), (24, .aload 4), (26, .ifnull 16), (29, .aload_n 0), (30, .iload_n 1), (31, .invokevirtual 51)],
  [(34, .ifCond .eq 8), (37, .aload 4), (39, .goto 4), (42, .aconst_null), (43, .areturn)]])
theorem mt_g167 : mx_goodB mt_q167 = true := by decide +kernel
/-- PeopleStore$Filter.readComparison(LPeopleStore$Buffer;I)LPeopleStore$Filter; -/
def mt_q168 : mt_Q := (⟨"PeopleStore$Filter", "readComparison", "(LPeopleStore$Buffer;I)LPeopleStore$Filter;"⟩, prog_4_method_5_code, 7, (some (.object "PeopleStore$Filter")), 2, 24, [[(0, .aload_n 0), (1, .invokevirtual 64), (4, .invokestatic 81), (7, .istore_n 2), (8, .iload_n 1), (9, .iconst (-1)), (10, .if_icmp .eq 8), (13, .iload_n 2), (14, .iconst (-1)), (15, .if_icmp .ne 5)],
  [(18, .aconst_null), (19, .areturn), (20, .iload_n 2), (21, .ifCond .ne 15), (24, .new 8), (27, .dup), (28, .iconst 4), (29, .iload_n 1), (30, .iload_n 2), (31, .aconst_null)],
  [(32, .invokespecial 84), (35, .areturn), (36, .iload_n 1), (37, .invokestatic 87), (40, .istore_n 3), (41, .aload_n 0), (42, .invokestatic 91), (45, .astore 4), (47, .aload 4)],
  [(49, .ifnull 20), (52, .aload 4), (54, .getfield 97), (57, .iload_n 3), (58, .if_icmp .ne 11), (61, .iload_n 2), (62, .iload_n 3), (63, .invokestatic 98)],
  [(66, .ifCond .ne 5), (69, .aconst_null), (70, .areturn), (71, .iload_n 1), (72, .iconst 2), (73, .if_icmp .ne 7), (76, .iconst 1), (77, .goto 4)],
  [(80, .iconst 0), (81, .istore 5), (83, .iload 5), (85, .ifCond .eq 21), (88, .new 92), (91, .dup), (92, .aload 4), (94, .getfield 102)],
  [(97, .invokestatic 106), (100, .invokespecial 112), (103, .goto 5), (106, .aload 4), (108, .astore 6), (110, .new 8)],
  [(113, .dup), (114, .iconst 4), (115, .iload_n 1), (116, .iload_n 2), (117, .aload 6), (119, .invokespecial 84), (122, .areturn)]])
theorem mt_g168 : mx_goodB mt_q168 = true := by decide +kernel
/-- PeopleStore$Filter.operatorNamed(Ljava/lang/String;)I -/
def mt_q169 : mt_Q := (⟨"PeopleStore$Filter", "operatorNamed", "(Ljava/lang/String;)I"⟩, prog_4_method_6_code, 2, (some .int), 1, 24, [[(0, .iconst 0), (1, .istore_n 1), (2, .iload_n 1), (3, .bipush 9), (5, .if_icmp .gt 22), (8, .iload_n 1), (9, .invokestatic 115), (12, .aload_n 0), (13, .invokevirtual 119)],
  [(16, .ifCond .eq 5), (19, .iload_n 1), (20, .ireturn), (21, .iinc 1 1), (24, .goto (-22)), (27, .iconst (-1)), (28, .ireturn)]])
theorem mt_g169 : mx_goodB mt_q169 = true := by decide +kernel
/-- PeopleStore$Filter.nameOf(I)Ljava/lang/String; -/
def mt_q170 : mt_Q := (⟨"PeopleStore$Filter", "nameOf", "(I)Ljava/lang/String;"⟩, prog_4_method_7_code, 1, (some (.object "java/lang/String")), 1, 24, [[(0, .iload_n 0), (1, .tableswitch 78 0 8 #[51, 54, 57, 60, 63, 66, 69, 72, 75])],
  [],
  [],
  [(52, .ldc 125), (54, .areturn), (55, .ldc 127), (57, .areturn), (58, .ldc 129), (60, .areturn), (61, .ldc 131), (63, .areturn)],
  [(64, .ldc 133), (66, .areturn), (67, .ldc 135), (69, .areturn), (70, .ldc 137), (72, .areturn), (73, .ldc 139), (75, .areturn), (76, .ldc 141), (78, .areturn), (79, .ldc 143)],
  [(81, .areturn)]])
theorem mt_g170 : mx_goodB mt_q170 = true := by decide +kernel
/-- PeopleStore$Filter.standsWith(II)Z -/
def mt_q171 : mt_Q := (⟨"PeopleStore$Filter", "standsWith", "(II)Z"⟩, prog_4_method_8_code, 2, (some .boolean), 2, 24, [[(0, .iload_n 0), (1, .tableswitch 48 1 5 #[35, 35, 37, 37, 37])],
  [],
  [(36, .iconst 1), (37, .ireturn), (38, .iload_n 1), (39, .iconst 2), (40, .if_icmp .ne 7), (43, .iconst 1), (44, .goto 4), (47, .iconst 0)],
  [(48, .ireturn), (49, .iload_n 1), (50, .ifCond .eq 7), (53, .iconst 1), (54, .goto 4), (57, .iconst 0), (58, .ireturn)]])
theorem mt_g171 : mx_goodB mt_q171 = true := by decide +kernel
/-- PeopleStore$Filter.adopt(LPeopleStore$Filter;)V -/
def mt_q172 : mt_Q := (⟨"PeopleStore$Filter", "adopt", "(LPeopleStore$Filter;)V"⟩, prog_4_method_10_code, 2, none, 2, 24, [[(0, .aload_n 1), (1, .aload_n 0), (2, .getfield 145), (5, .putfield 149), (8, .aload_n 0), (9, .aload_n 1), (10, .putfield 145), (13, .return_)]])
theorem mt_g172 : mx_goodB mt_q172 = true := by decide +kernel
/-- PeopleStore$Operation.readValue(LPeopleStore$Buffer;)Z -/
def mt_q173 : mt_Q := (⟨"PeopleStore$Operation", "readValue", "(LPeopleStore$Buffer;)Z"⟩, prog_6_method_5_code, 2, (some .boolean), 2, 23, [[(0, .aload_n 0), (1, .getfield 17), (4, .bipush 45), (6, .if_icmp .ne 5), (9, .iconst 1), (10, .ireturn), (11, .aload_n 0), (12, .aload_n 1), (13, .bipush 58), (15, .invokevirtual 53)],
  [(18, .ifCond .eq 11), (21, .aload_n 1), (22, .iconst 0), (23, .invokestatic 77), (26, .goto 4), (29, .aconst_null), (30, .putfield 83)],
  [(33, .aload_n 0), (34, .getfield 83), (37, .ifnull 7), (40, .iconst 1), (41, .goto 4), (44, .iconst 0), (45, .ireturn)]])
theorem mt_g173 : mx_goodB mt_q173 = true := by decide +kernel
/-- PeopleStore$Person.copy()LPeopleStore$Person; -/
def mt_q174 : mt_Q := (⟨"PeopleStore$Person", "copy", "()LPeopleStore$Person;"⟩, prog_8_method_5_code, 4, (some (.object "PeopleStore$Person")), 1, 18, [[(0, .new 13), (3, .dup), (4, .aload_n 0), (5, .getfield 18), (8, .aload_n 0), (9, .getfield 22), (12, .invokespecial 30), (15, .astore_n 1)],
  [(16, .aload_n 1), (17, .aload_n 0), (18, .getfield 59), (21, .putfield 59), (24, .aload_n 1), (25, .aload_n 0), (26, .getfield 101), (29, .putfield 101)],
  [(32, .aload_n 1), (33, .aload_n 0), (34, .getfield 104), (37, .putfield 104), (40, .aload_n 1), (41, .aload_n 0), (42, .getfield 107), (45, .putfield 107)],
  [(48, .iconst 0), (49, .istore_n 2), (50, .iload_n 2), (51, .aload_n 0), (52, .getfield 12), (55, .invokevirtual 86), (58, .if_icmp .ge 44), (61, .aload_n 0), (62, .getfield 12)],
  [(65, .iload_n 2), (66, .invokevirtual 90), (69, .checkcast 70), (72, .astore_n 3), (73, .aload_n 1), (74, .getfield 12), (77, .new 70)],
  [(80, .dup), (81, .aload_n 3), (82, .getfield 110), (85, .aload_n 3), (86, .getfield 113), (89, .invokespecial 116), (92, .invokevirtual 117), (95, .pop)],
  [(96, .iinc 2 1), (99, .goto (-49)), (102, .aload_n 1), (103, .areturn)]])
theorem mt_g174 : mx_goodB mt_q174 = true := by decide +kernel
/-- PeopleStore$Operation.applyTo(LPeopleStore$Person;)I -/
def mt_q175 : mt_Q := (⟨"PeopleStore$Operation", "applyTo", "(LPeopleStore$Person;)I"⟩, prog_6_method_6_code, 5, (some .int), 2, 23, [[(0, .aload_n 0), (1, .getfield 11), (4, .iconst (-1)), (5, .if_icmp .eq 17), (8, .aload_n 0), (9, .aload_n 1), (10, .aload_n 0), (11, .getfield 11), (14, .aload_n 0), (15, .getfield 83)],
  [(18, .invokevirtual 87), (21, .ireturn), (22, .aload_n 0), (23, .getfield 83), (26, .ifnull 14), (29, .aload_n 0), (30, .getfield 83)],
  [(33, .getfield 91), (36, .iconst 3), (37, .if_icmp .eq 7), (40, .sipush (-401)), (43, .ireturn), (44, .aload_n 0), (45, .getfield 83)],
  [(48, .getfield 93), (51, .astore_n 2), (52, .aload_n 2), (53, .ifnull 62), (56, .aload_n 2), (57, .getfield 97), (60, .invokestatic 60), (63, .istore_n 3)],
  [(64, .iconst 0), (65, .istore 4), (67, .iload_n 3), (68, .iconst (-1)), (69, .if_icmp .ne 11), (72, .sipush (-401)), (75, .istore 4), (77, .goto 22)],
  [(80, .iload_n 3), (81, .invokestatic 103), (84, .ifCond .ne 15), (87, .aload_n 0), (88, .aload_n 1), (89, .iload_n 3), (90, .aload_n 2), (91, .getfield 106), (94, .invokevirtual 87)],
  [(97, .istore 4), (99, .iload 4), (101, .ifCond .eq 6), (104, .iload 4), (106, .ireturn), (107, .aload_n 2), (108, .getfield 107), (111, .astore_n 2)],
  [(112, .goto (-60)), (115, .iconst 0), (116, .ireturn)]])
theorem mt_g175 : mx_goodB mt_q175 = true := by decide +kernel
def mt_qk10 : List mt_Q := [mt_q160, mt_q161, mt_q162, mt_q163, mt_q164, mt_q165, mt_q166, mt_q167, mt_q168, mt_q169, mt_q170, mt_q171, mt_q172, mt_q173, mt_q174, mt_q175]
theorem mt_gk10 : ∀ q ∈ mt_qk10, mx_goodB q = true := List.forall_mem_cons.mpr ⟨mt_g160, List.forall_mem_cons.mpr ⟨mt_g161, List.forall_mem_cons.mpr ⟨mt_g162, List.forall_mem_cons.mpr ⟨mt_g163, List.forall_mem_cons.mpr ⟨mt_g164, List.forall_mem_cons.mpr ⟨mt_g165, List.forall_mem_cons.mpr ⟨mt_g166, List.forall_mem_cons.mpr ⟨mt_g167, List.forall_mem_cons.mpr ⟨mt_g168, List.forall_mem_cons.mpr ⟨mt_g169, List.forall_mem_cons.mpr ⟨mt_g170, List.forall_mem_cons.mpr ⟨mt_g171, List.forall_mem_cons.mpr ⟨mt_g172, List.forall_mem_cons.mpr ⟨mt_g173, List.forall_mem_cons.mpr ⟨mt_g174, List.forall_mem_cons.mpr ⟨mt_g175, fun _ h => absurd h List.not_mem_nil⟩⟩⟩⟩⟩⟩⟩⟩⟩⟩⟩⟩⟩⟩⟩⟩
/-- PeopleStore$Operation.applyToTarget(LPeopleStore$Person;ILPeopleStore$Value;)I -/
def mt_q176 : mt_Q := (⟨"PeopleStore$Operation", "applyToTarget", "(LPeopleStore$Person;ILPeopleStore$Value;)I"⟩, prog_6_method_7_code, 4, (some .int), 4, 23, [[(0, .iload_n 2), (1, .invokestatic 109), (4, .ifCond .eq 14), (7, .aload_n 0), (8, .aload_n 1), (9, .aload_n 0), (10, .aload_n 1), (11, .invokevirtual 112), (14, .invokevirtual 116)],
  [(17, .ireturn), (18, .aload_n 0), (19, .getfield 70), (22, .ifnull 14), (25, .aload_n 0), (26, .aload_n 1), (27, .aload_n 0), (28, .aload_n 1), (29, .invokevirtual 112)],
  [(32, .invokevirtual 120), (35, .ireturn), (36, .iload_n 2), (37, .iconst 5), (38, .if_icmp .ne 10), (41, .aload_n 0), (42, .aload_n 1), (43, .aload_n 3), (44, .invokevirtual 123), (47, .ireturn)],
  [(48, .aload_n 0), (49, .aload_n 1), (50, .iload_n 2), (51, .aload_n 3), (52, .invokevirtual 127), (55, .ireturn)]])
theorem mt_g176 : mx_goodB mt_q176 = true := by decide +kernel
/-- PeopleStore$Attribute.isOfItem(I)Z -/
def mt_q177 : mt_Q := (⟨"PeopleStore$Attribute", "isOfItem", "(I)Z"⟩, prog_2_method_6_code, 1, (some .boolean), 1, 19, [[(0, .iload_n 0), (1, .bipush 6), (3, .if_icmp .eq 9), (6, .iload_n 0), (7, .bipush 7), (9, .if_icmp .ne 7), (12, .iconst 1), (13, .goto 4)],
  [(16, .iconst 0), (17, .ireturn)]])
theorem mt_g177 : mx_goodB mt_q177 = true := by decide +kernel
/-- PeopleStore$Operation.chooseItems(LPeopleStore$Person;)Z -/
def mt_q178 : mt_Q := (⟨"PeopleStore$Operation", "chooseItems", "(LPeopleStore$Person;)Z"⟩, prog_6_method_12_code, 5, (some .boolean), 2, 23, [[(0, .iconst 0), (1, .istore_n 2), (2, .iconst 0), (3, .istore_n 3), (4, .iload_n 3), (5, .aload_n 1), (6, .getfield 140), (9, .invokevirtual 155), (12, .if_icmp .ge 70), (15, .aload_n 1)],
  [(16, .getfield 140), (19, .iload_n 3), (20, .invokevirtual 158), (23, .checkcast 150), (26, .astore 4), (28, .aload 4), (30, .aload_n 0), (31, .getfield 70)],
  [(34, .ifnull 16), (37, .aload_n 0), (38, .getfield 70), (41, .aload_n 1), (42, .aload 4), (44, .invokevirtual 196), (47, .ifCond .eq 7)],
  [(50, .iconst 1), (51, .goto 4), (54, .iconst 0), (55, .putfield 170), (58, .iload_n 2), (59, .ifCond .ne 11), (62, .aload 4)],
  [(64, .getfield 170), (67, .ifCond .eq 7), (70, .iconst 1), (71, .goto 4), (74, .iconst 0), (75, .istore_n 2), (76, .iinc 3 1), (79, .goto (-75))],
  [(82, .iload_n 2), (83, .ireturn)]])
theorem mt_g178 : mx_goodB mt_q178 = true := by decide +kernel
/-- PeopleStore$Filter.matches(LPeopleStore$Person;LPeopleStore$Item;)Z -/
def mt_q179 : mt_Q := (⟨"PeopleStore$Filter", "matches", "(LPeopleStore$Person;LPeopleStore$Item;)Z"⟩, prog_4_method_11_code, 5, (some .boolean), 3, 24, [[(0, .aload_n 0), (1, .getfield 7), (4, .iconst 4), (5, .if_icmp .ne 40), (8, .aload_n 0), (9, .getfield 16), (12, .iconst 2), (13, .if_icmp .ne 21)],
  [(16, .aload_n 0), (17, .iconst 1), (18, .aload_n 1), (19, .aload_n 2), (20, .invokevirtual 151), (23, .ifCond .ne 7), (26, .iconst 1), (27, .goto 17), (30, .iconst 0), (31, .goto 13)],
  [(34, .aload_n 0), (35, .aload_n 0), (36, .getfield 16), (39, .aload_n 1), (40, .aload_n 2), (41, .invokevirtual 151), (44, .ireturn), (45, .aload_n 0), (46, .getfield 7)],
  [(49, .iconst 3), (50, .if_icmp .ne 55), (53, .iconst 0), (54, .istore_n 3), (55, .aload_n 0), (56, .getfield 145), (59, .ifnull 44), (62, .iload_n 3), (63, .aload_n 1)],
  [(64, .getfield 155), (67, .invokevirtual 161), (70, .if_icmp .ge 33), (73, .aload_n 0), (74, .getfield 145), (77, .aload_n 1), (78, .aload_n 1), (79, .getfield 155)],
  [(82, .iload_n 3), (83, .invokevirtual 167), (86, .checkcast 171), (89, .invokevirtual 173), (92, .ifCond .eq 5), (95, .iconst 1)],
  [(96, .ireturn), (97, .iinc 3 1), (100, .goto (-45)), (103, .iconst 0), (104, .ireturn), (105, .aload_n 0), (106, .getfield 7), (109, .iconst 2), (110, .if_icmp .ne 28)],
  [(113, .aload_n 0), (114, .getfield 145), (117, .ifnull 19), (120, .aload_n 0), (121, .getfield 145), (124, .aload_n 1), (125, .aload_n 2), (126, .invokevirtual 173)],
  [(129, .ifCond .ne 7), (132, .iconst 1), (133, .goto 4), (136, .iconst 0), (137, .ireturn), (138, .aload_n 0), (139, .getfield 7), (142, .ifCond .ne 7)],
  [(145, .iconst 1), (146, .goto 4), (149, .iconst 0), (150, .istore_n 3), (151, .aload_n 0), (152, .getfield 145), (155, .astore 4), (157, .aload 4), (159, .ifnull 26)],
  [(162, .aload 4), (164, .aload_n 1), (165, .aload_n 2), (166, .invokevirtual 173), (169, .iload_n 3), (170, .if_icmp .ne 5), (173, .iload_n 3), (174, .ireturn), (175, .aload 4)],
  [(177, .getfield 149), (180, .astore 4), (182, .goto (-25)), (185, .iload_n 3), (186, .ifCond .ne 7), (189, .iconst 1), (190, .goto 4)],
  [(193, .iconst 0), (194, .ireturn)]])
theorem mt_g179 : mx_goodB mt_q179 = true := by decide +kernel
/-- PeopleStore$Filter.compares(ILPeopleStore$Person;LPeopleStore$Item;)Z -/
def mt_q180 : mt_Q := (⟨"PeopleStore$Filter", "compares", "(ILPeopleStore$Person;LPeopleStore$Item;)Z"⟩, prog_4_method_12_code, 5, (some .boolean), 4, 24, [[(0, .aload_n 3), (1, .ifnull 17), (4, .aload_n 0), (5, .iload_n 1), (6, .aload_n 3), (7, .aload_n 0), (8, .getfield 13), (11, .invokevirtual 177), (14, .invokevirtual 180)],
  [(17, .ireturn), (18, .aload_n 0), (19, .getfield 13), (22, .invokestatic 184), (25, .ifCond .ne 17), (28, .aload_n 0), (29, .iload_n 1), (30, .aload_n 2), (31, .aload_n 0)],
  [(32, .getfield 13), (35, .invokevirtual 187), (38, .invokevirtual 180), (41, .ireturn), (42, .iconst 0), (43, .istore 4), (45, .iload 4), (47, .aload_n 2)],
  [(48, .getfield 155), (51, .invokevirtual 161), (54, .if_icmp .ge 38), (57, .aload_n 0), (58, .iload_n 1), (59, .aload_n 2), (60, .getfield 155), (63, .iload 4)],
  [(65, .invokevirtual 167), (68, .checkcast 171), (71, .aload_n 0), (72, .getfield 13), (75, .invokevirtual 177), (78, .invokevirtual 180)],
  [(81, .ifCond .eq 5), (84, .iconst 1), (85, .ireturn), (86, .iinc 4 1), (89, .goto (-44)), (92, .iconst 0), (93, .ireturn)]])
theorem mt_g180 : mx_goodB mt_q180 = true := by decide +kernel
/-- PeopleStore$Item.get(I)LPeopleStore$Value; -/
def mt_q181 : mt_Q := (⟨"PeopleStore$Item", "get", "(I)LPeopleStore$Value;"⟩, prog_5_method_4_code, 2, (some (.object "PeopleStore$Value")), 2, 20, [[(0, .iload_n 1), (1, .bipush 6), (3, .if_icmp .ne 10), (6, .aload_n 0), (7, .getfield 7), (10, .goto 7), (13, .aload_n 0), (14, .getfield 13)],
  [(17, .areturn)]])
theorem mt_g181 : mx_goodB mt_q181 = true := by decide +kernel
/-- PeopleStore$Filter.holds(ILPeopleStore$Value;)Z -/
def mt_q182 : mt_Q := (⟨"PeopleStore$Filter", "holds", "(ILPeopleStore$Value;)Z"⟩, prog_4_method_13_code, 4, (some .boolean), 3, 24, [[(0, .aload_n 2), (1, .ifnull 10), (4, .aload_n 0), (5, .getfield 19), (8, .ifnonnull 17), (11, .aload_n 2), (12, .ifnull 11), (15, .iload_n 1)],
  [(16, .ifCond .ne 7), (19, .iconst 1), (20, .goto 4), (23, .iconst 0), (24, .ireturn), (25, .aload_n 2), (26, .getfield 102), (29, .invokevirtual 190)],
  [(32, .aload_n 0), (33, .getfield 19), (36, .getfield 102), (39, .invokevirtual 190), (42, .isub), (43, .istore_n 3), (44, .iload_n 1), (45, .tableswitch 148 1 8 #[47, 148, 64, 75, 86, 97, 114, 131])],
  [],
  [],
  [(92, .aload_n 2), (93, .aload_n 0), (94, .getfield 19)],
  [(97, .invokevirtual 193), (100, .ifCond .ne 7), (103, .iconst 1), (104, .goto 4), (107, .iconst 0), (108, .ireturn), (109, .aload_n 2), (110, .aload_n 0), (111, .getfield 19)],
  [(114, .iconst 0), (115, .iload_n 3), (116, .invokevirtual 197), (119, .ireturn), (120, .aload_n 2), (121, .aload_n 0), (122, .getfield 19), (125, .iconst 0), (126, .iconst 0), (127, .invokevirtual 197)],
  [(130, .ireturn), (131, .aload_n 2), (132, .aload_n 0), (133, .getfield 19), (136, .iload_n 3), (137, .iload_n 3), (138, .invokevirtual 197), (141, .ireturn), (142, .aload_n 2), (143, .aload_n 0)],
  [(144, .getfield 19), (147, .invokevirtual 193), (150, .ifCond .le 7), (153, .iconst 1), (154, .goto 4), (157, .iconst 0), (158, .ireturn), (159, .aload_n 2)],
  [(160, .aload_n 0), (161, .getfield 19), (164, .invokevirtual 193), (167, .ifCond .lt 7), (170, .iconst 1), (171, .goto 4), (174, .iconst 0), (175, .ireturn)],
  [(176, .aload_n 2), (177, .aload_n 0), (178, .getfield 19), (181, .invokevirtual 193), (184, .ifCond .ge 7), (187, .iconst 1), (188, .goto 4), (191, .iconst 0)],
  [(192, .ireturn), (193, .aload_n 2), (194, .aload_n 0), (195, .getfield 19), (198, .invokevirtual 193), (201, .ifCond .gt 7), (204, .iconst 1), (205, .goto 4)],
  [(208, .iconst 0), (209, .ireturn)]])
theorem mt_g182 : mx_goodB mt_q182 = true := by decide +kernel
/-- PeopleStore$Value.has(LPeopleStore$Value;II)Z -/
def mt_q183 : mt_Q := (⟨"PeopleStore$Value", "has", "(LPeopleStore$Value;II)Z"⟩, prog_9_method_12_code, 6, (some .boolean), 4, 14, [[(0, .iload_n 2), (1, .iconst 0), (2, .invokestatic 126), (5, .istore 4), (7, .iload 4), (9, .iload_n 3), (10, .if_icmp .gt 83), (13, .iconst 0), (14, .istore 5)],
  [(16, .iload 5), (18, .aload_n 1), (19, .getfield 18), (22, .invokevirtual 109), (25, .if_icmp .ge 48), (28, .iload 4), (30, .iload 5)],
  [(32, .iadd), (33, .aload_n 0), (34, .getfield 18), (37, .invokevirtual 109), (40, .if_icmp .ge 33), (43, .aload_n 0), (44, .getfield 18), (47, .iload 4)],
  [(49, .iload 5), (51, .iadd), (52, .invokevirtual 118), (55, .aload_n 1), (56, .getfield 18), (59, .iload 5), (61, .invokevirtual 118)],
  [(64, .if_icmp .ne 9), (67, .iinc 5 1), (70, .goto (-54)), (73, .iload 5), (75, .aload_n 1), (76, .getfield 18), (79, .invokevirtual 109)],
  [(82, .if_icmp .ne 5), (85, .iconst 1), (86, .ireturn), (87, .iinc 4 1), (90, .goto (-83)), (93, .iconst 0), (94, .ireturn)]])
theorem mt_g183 : mx_goodB mt_q183 = true := by decide +kernel
/-- PeopleStore$Person.compared(I)LPeopleStore$Value; -/
def mt_q184 : mt_Q := (⟨"PeopleStore$Person", "compared", "(I)LPeopleStore$Value;"⟩, prog_8_method_9_code, 2, (some (.object "PeopleStore$Value")), 2, 18, [[(0, .iload_n 1), (1, .iconst 2), (2, .if_icmp .ne 10), (5, .aload_n 0), (6, .getfield 101), (9, .goto 8), (12, .aload_n 0), (13, .iload_n 1), (14, .invokevirtual 139)],
  [(17, .areturn)]])
theorem mt_g184 : mx_goodB mt_q184 = true := by decide +kernel
/-- PeopleStore$Person.get(I)LPeopleStore$Value; -/
def mt_q185 : mt_Q := (⟨"PeopleStore$Person", "get", "(I)LPeopleStore$Value;"⟩, prog_8_method_7_code, 2, (some (.object "PeopleStore$Value")), 2, 18, [[(0, .iload_n 1), (1, .tableswitch 60 0 4 #[35, 40, 45, 50, 55])],
  [],
  [(36, .aload_n 0), (37, .getfield 18), (40, .areturn), (41, .aload_n 0), (42, .getfield 22), (45, .areturn), (46, .aload_n 0), (47, .getfield 59)],
  [(50, .areturn), (51, .aload_n 0), (52, .getfield 104), (55, .areturn), (56, .aload_n 0), (57, .getfield 107), (60, .areturn), (61, .aconst_null), (62, .areturn)]])
theorem mt_g185 : mx_goodB mt_q185 = true := by decide +kernel
/-- PeopleStore$Operation.applyToItemParts(LPeopleStore$Person;Z)I -/
def mt_q186 : mt_Q := (⟨"PeopleStore$Operation", "applyToItemParts", "(LPeopleStore$Person;Z)I"⟩, prog_6_method_10_code, 6, (some .int), 3, 23, [[(0, .aload_n 0), (1, .getfield 17), (4, .bipush 45), (6, .if_icmp .ne 7), (9, .iconst 1), (10, .goto 4), (13, .iconst 0), (14, .istore_n 3), (15, .iload_n 3)],
  [(16, .ifCond .eq 16), (19, .aload_n 0), (20, .getfield 11), (23, .bipush 6), (25, .if_icmp .ne 7), (28, .sipush (-402)), (31, .ireturn)],
  [(32, .iload_n 3), (33, .ifCond .ne 11), (36, .iload_n 2), (37, .ifCond .ne 7), (40, .sipush (-403)), (43, .ireturn), (44, .iload_n 3), (45, .ifCond .ne 21)],
  [(48, .aload_n 0), (49, .getfield 11), (52, .aload_n 0), (53, .getfield 83), (56, .invokestatic 130), (59, .ifCond .ne 7), (62, .sipush (-401))],
  [(65, .ireturn), (66, .iconst 0), (67, .istore 4), (69, .iload 4), (71, .aload_n 1), (72, .getfield 140), (75, .invokevirtual 155), (78, .if_icmp .ge 69)],
  [(81, .aload_n 1), (82, .getfield 140), (85, .iload 4), (87, .invokevirtual 158), (90, .checkcast 150), (93, .astore 5), (95, .aload 5)],
  [(97, .getfield 170), (100, .ifCond .eq 24), (103, .aload_n 0), (104, .getfield 11), (107, .bipush 6), (109, .if_icmp .ne 15)],
  [(112, .aload 5), (114, .aload_n 0), (115, .getfield 83), (118, .putfield 174), (121, .goto 20), (124, .aload 5), (126, .getfield 170)],
  [(129, .ifCond .eq 12), (132, .aload 5), (134, .aload_n 0), (135, .getfield 83), (138, .invokevirtual 177), (141, .iinc 4 1)],
  [(144, .goto (-75)), (147, .aload_n 1), (148, .invokestatic 166), (151, .ireturn)]])
theorem mt_g186 : mx_goodB mt_q186 = true := by decide +kernel
/-- PeopleStore$Item.give(LPeopleStore$Value;)V -/
def mt_q187 : mt_Q := (⟨"PeopleStore$Item", "give", "(LPeopleStore$Value;)V"⟩, prog_5_method_7_code, 2, none, 2, 20, [[(0, .aload_n 0), (1, .aload_n 1), (2, .putfield 13), (5, .aload_n 0), (6, .aload_n 0), (7, .invokevirtual 74), (10, .putfield 78), (13, .return_)]])
theorem mt_g187 : mx_goodB mt_q187 = true := by decide +kernel
/-- PeopleStore$Operation.finish(LPeopleStore$Person;)I -/
def mt_q188 : mt_Q := (⟨"PeopleStore$Operation", "finish", "(LPeopleStore$Person;)I"⟩, prog_6_method_14_code, 1, (some .int), 1, 23, [[(0, .aload_n 0), (1, .invokevirtual 203), (4, .aload_n 0), (5, .invokevirtual 206), (8, .ifCond .eq 9), (11, .sipush (-401)), (14, .goto 4)],
  [(17, .iconst 0), (18, .ireturn)]])
theorem mt_g188 : mx_goodB mt_q188 = true := by decide +kernel
/-- PeopleStore$Person.keepOnePrimary()V -/
def mt_q189 : mt_Q := (⟨"PeopleStore$Person", "keepOnePrimary", "()V"⟩, prog_8_method_13_code, 4, none, 1, 18, [[(0, .iconst (-1)), (1, .istore_n 1), (2, .aload_n 0), (3, .getfield 12), (6, .invokevirtual 86), (9, .iconst 1), (10, .isub), (11, .istore_n 2), (12, .iload_n 2), (13, .ifCond .lt 28)],
  [(16, .aload_n 0), (17, .getfield 12), (20, .iload_n 2), (21, .invokevirtual 90), (24, .checkcast 70), (27, .getfield 155), (30, .ifCond .eq 5)],
  [(33, .iload_n 2), (34, .istore_n 1), (35, .iinc 2 (-1)), (38, .goto (-26)), (41, .iconst 0), (42, .istore_n 2), (43, .iload_n 2), (44, .aload_n 0), (45, .getfield 12)],
  [(48, .invokevirtual 86), (51, .if_icmp .ge 55), (54, .aload_n 0), (55, .getfield 12), (58, .iload_n 2), (59, .invokevirtual 90), (62, .checkcast 70)],
  [(65, .astore_n 3), (66, .aload_n 3), (67, .iconst 0), (68, .putfield 155), (71, .iload_n 1), (72, .iconst (-1)), (73, .if_icmp .eq 27), (76, .iload_n 2), (77, .iload_n 1), (78, .if_icmp .eq 22)],
  [(81, .aload_n 3), (82, .invokevirtual 94), (85, .ifCond .eq 15), (88, .aload_n 3), (89, .new 25), (92, .dup), (93, .iconst 0), (94, .invokespecial 159)],
  [(97, .putfield 113), (100, .iinc 2 1), (103, .goto (-60)), (106, .return_)]])
theorem mt_g189 : mx_goodB mt_q189 = true := by decide +kernel
/-- PeopleStore$Operation.applyToItems(LPeopleStore$Person;Z)I -/
def mt_q190 : mt_Q := (⟨"PeopleStore$Operation", "applyToItems", "(LPeopleStore$Person;Z)I"⟩, prog_6_method_11_code, 6, (some .int), 3, 23, [[(0, .aload_n 0), (1, .getfield 17), (4, .bipush 45), (6, .if_icmp .eq 10), (9, .aload_n 0), (10, .getfield 83), (13, .ifnonnull 9)],
  [(16, .aload_n 1), (17, .invokestatic 181), (20, .iconst 0), (21, .ireturn), (22, .iload_n 2), (23, .ifCond .ne 7), (26, .sipush (-403)), (29, .ireturn), (30, .aload_n 0), (31, .getfield 83)],
  [(34, .invokestatic 185), (37, .astore_n 3), (38, .aload_n 3), (39, .ifnull 19), (42, .aload_n 0), (43, .getfield 17), (46, .bipush 61)],
  [(48, .if_icmp .ne 14), (51, .aload_n 3), (52, .getfield 174), (55, .ifnonnull 7), (58, .sipush (-401)), (61, .ireturn), (62, .iconst 0), (63, .istore 4)],
  [(65, .iload 4), (67, .aload_n 1), (68, .getfield 140), (71, .invokevirtual 155), (74, .if_icmp .ge 63), (77, .aload_n 1), (78, .getfield 140)],
  [(81, .iload 4), (83, .invokevirtual 158), (86, .checkcast 150), (89, .astore 5), (91, .aload 5), (93, .getfield 170)],
  [(96, .ifCond .eq 21), (99, .aload_n 0), (100, .getfield 17), (103, .bipush 61), (105, .if_icmp .ne 12), (108, .aload 5), (110, .aload_n 3), (111, .invokevirtual 189)],
  [(114, .goto 17), (117, .aload 5), (119, .getfield 170), (122, .ifCond .eq 9), (125, .aload 5), (127, .aload_n 3)],
  [(128, .invokevirtual 193), (131, .iinc 4 1), (134, .goto (-69)), (137, .aload_n 1), (138, .invokestatic 166), (141, .ireturn)]])
theorem mt_g190 : mx_goodB mt_q190 = true := by decide +kernel
/-- PeopleStore$Operation.dropChosen(LPeopleStore$Person;)V -/
def mt_q191 : mt_Q := (⟨"PeopleStore$Operation", "dropChosen", "(LPeopleStore$Person;)V"⟩, prog_6_method_13_code, 2, none, 1, 23, [[(0, .aload_n 0), (1, .getfield 140), (4, .invokevirtual 155), (7, .iconst 1), (8, .isub), (9, .istore_n 1), (10, .iload_n 1), (11, .ifCond .lt 35), (14, .aload_n 0), (15, .getfield 140)],
  [(18, .iload_n 1), (19, .invokevirtual 158), (22, .checkcast 150), (25, .getfield 170), (28, .ifCond .eq 12), (31, .aload_n 0)],
  [(32, .getfield 140), (35, .iload_n 1), (36, .invokevirtual 200), (39, .pop), (40, .iinc 1 (-1)), (43, .goto (-33)), (46, .return_)]])
theorem mt_g191 : mx_goodB mt_q191 = true := by decide +kernel
def mt_qk11 : List mt_Q := [mt_q176, mt_q177, mt_q178, mt_q179, mt_q180, mt_q181, mt_q182, mt_q183, mt_q184, mt_q185, mt_q186, mt_q187, mt_q188, mt_q189, mt_q190, mt_q191]
theorem mt_gk11 : ∀ q ∈ mt_qk11, mx_goodB q = true := List.forall_mem_cons.mpr ⟨mt_g176, List.forall_mem_cons.mpr ⟨mt_g177, List.forall_mem_cons.mpr ⟨mt_g178, List.forall_mem_cons.mpr ⟨mt_g179, List.forall_mem_cons.mpr ⟨mt_g180, List.forall_mem_cons.mpr ⟨mt_g181, List.forall_mem_cons.mpr ⟨mt_g182, List.forall_mem_cons.mpr ⟨mt_g183, List.forall_mem_cons.mpr ⟨mt_g184, List.forall_mem_cons.mpr ⟨mt_g185, List.forall_mem_cons.mpr ⟨mt_g186, List.forall_mem_cons.mpr ⟨mt_g187, List.forall_mem_cons.mpr ⟨mt_g188, List.forall_mem_cons.mpr ⟨mt_g189, List.forall_mem_cons.mpr ⟨mt_g190, List.forall_mem_cons.mpr ⟨mt_g191, fun _ h => absurd h List.not_mem_nil⟩⟩⟩⟩⟩⟩⟩⟩⟩⟩⟩⟩⟩⟩⟩⟩
