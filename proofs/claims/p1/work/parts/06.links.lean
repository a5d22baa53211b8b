def mt_FL : List (List (Nat × Nat × String × Option String)) := [[],
  [(10, 0, "PeopleStore", none), (19, 1, "PeopleStore", none), (23, 2, "PeopleStore", none), (26, 3, "PeopleStore", none), (33, 4, "PeopleStore", none), (57, 6, "PeopleStore", none), (187, 22, "PeopleStore$Value", (some "PeopleStore")), (190, 33, "PeopleStore$Person", (some "PeopleStore")), (154, 23, "PeopleStore$Value", (some "PeopleStore")), (193, 36, "PeopleStore$Person", (some "PeopleStore")), (150, 34, "PeopleStore$Person", (some "PeopleStore")), (112, 48, "PeopleStore$Operation", (some "PeopleStore")), (147, 5, "PeopleStore", none)],
  [(9, 7, "PeopleStore$Buffer", none), (13, 8, "PeopleStore$Buffer", none), (17, 9, "PeopleStore$Buffer", none), (20, 10, "PeopleStore$Buffer", none), (26, 11, "PeopleStore$Buffer", none), (30, 12, "PeopleStore$Buffer", none), (34, 14, "PeopleStore$Buffer", none), (41, 13, "PeopleStore$Buffer", none)],
  [],
  [(15, 15, "java/lang/AbstractStringBuilder", none), (22, 16, "java/lang/AbstractStringBuilder", none), (79, 18, "java/lang/AbstractStringBuilder", none), (73, 17, "java/lang/AbstractStringBuilder", none)],
  [],
  [(9, 19, "java/util/ArrayList", none), (63, 21, "java/util/ArrayList", none), (48, 20, "java/util/ArrayList", none)],
  [(7, 21, "java/util/AbstractList", none)],
  [],
  [(9, 26, "java/lang/String", none), (15, 27, "java/lang/String", none), (1048, 17, "java/lang/AbstractStringBuilder", none)],
  [],
  [],
  [],
  [],
  [(84, 32, "PeopleStore$Part", (some "PeopleStore")), (9, 22, "PeopleStore$Value", none), (13, 23, "PeopleStore$Value", none), (18, 24, "PeopleStore$Value", none), (22, 25, "PeopleStore$Value", none), (100, 30, "PeopleStore$Part", (some "PeopleStore"))],
  [],
  [],
  [(7, 30, "PeopleStore$Part", none), (13, 31, "PeopleStore$Part", none)],
  [(33, 25, "PeopleStore$Value", (some "PeopleStore")), (37, 30, "PeopleStore$Part", (some "PeopleStore")), (49, 31, "PeopleStore$Part", (some "PeopleStore")), (56, 32, "PeopleStore$Part", (some "PeopleStore")), (59, 35, "PeopleStore$Person", none), (12, 39, "PeopleStore$Person", none), (18, 33, "PeopleStore$Person", none), (22, 34, "PeopleStore$Person", none), (65, 22, "PeopleStore$Value", (some "PeopleStore")), (110, 40, "PeopleStore$Item", (some "PeopleStore")), (129, 24, "PeopleStore$Value", (some "PeopleStore")), (101, 36, "PeopleStore$Person", none), (104, 37, "PeopleStore$Person", none), (107, 38, "PeopleStore$Person", none), (113, 41, "PeopleStore$Item", (some "PeopleStore")), (155, 43, "PeopleStore$Item", (some "PeopleStore"))],
  [(39, 22, "PeopleStore$Value", (some "PeopleStore")), (49, 24, "PeopleStore$Value", (some "PeopleStore"))],
  [(16, 22, "PeopleStore$Value", (some "PeopleStore")), (25, 25, "PeopleStore$Value", (some "PeopleStore")), (41, 31, "PeopleStore$Part", (some "PeopleStore")), (7, 40, "PeopleStore$Item", none), (48, 32, "PeopleStore$Part", (some "PeopleStore")), (29, 30, "PeopleStore$Part", (some "PeopleStore")), (13, 41, "PeopleStore$Item", none), (67, 23, "PeopleStore$Value", (some "PeopleStore")), (78, 43, "PeopleStore$Item", none)],
  [],
  [],
  [(46, 48, "PeopleStore$Operation", none), (11, 45, "PeopleStore$Operation", none), (17, 44, "PeopleStore$Operation", none), (70, 46, "PeopleStore$Operation", none), (83, 47, "PeopleStore$Operation", none), (91, 22, "PeopleStore$Value", (some "PeopleStore")), (93, 25, "PeopleStore$Value", (some "PeopleStore")), (97, 30, "PeopleStore$Part", (some "PeopleStore")), (106, 31, "PeopleStore$Part", (some "PeopleStore")), (107, 32, "PeopleStore$Part", (some "PeopleStore")), (140, 39, "PeopleStore$Person", (some "PeopleStore")), (170, 42, "PeopleStore$Item", (some "PeopleStore")), (174, 40, "PeopleStore$Item", (some "PeopleStore"))],
  [(145, 53, "PeopleStore$Filter", none), (7, 49, "PeopleStore$Filter", none), (13, 50, "PeopleStore$Filter", none), (16, 51, "PeopleStore$Filter", none), (19, 52, "PeopleStore$Filter", none), (97, 22, "PeopleStore$Value", (some "PeopleStore")), (102, 24, "PeopleStore$Value", (some "PeopleStore")), (149, 54, "PeopleStore$Filter", none), (155, 39, "PeopleStore$Person", (some "PeopleStore"))],
  [(7, 55, "PeopleStoreModel", none), (13, 57, "PeopleStoreModel", none), (17, 60, "PeopleStoreModel", none), (20, 61, "PeopleStoreModel", none), (23, 62, "PeopleStoreModel", none), (26, 63, "PeopleStoreModel", none), (30, 64, "PeopleStoreModel", none), (33, 66, "PeopleStoreModel", none), (36, 68, "PeopleStoreModel", none), (39, 69, "PeopleStoreModel", none), (42, 70, "PeopleStoreModel", none), (45, 71, "PeopleStoreModel", none), (48, 72, "PeopleStoreModel", none), (51, 75, "PeopleStoreModel", none), (54, 79, "PeopleStoreModel", none), (58, 80, "PeopleStoreModel", none), (61, 82, "PeopleStoreModel", none), (64, 83, "PeopleStoreModel", none), (67, 84, "PeopleStoreModel", none), (70, 85, "PeopleStoreModel", none), (73, 86, "PeopleStoreModel", none), (76, 87, "PeopleStoreModel", none), (79, 88, "PeopleStoreModel", none), (82, 90, "PeopleStoreModel", none), (85, 91, "PeopleStoreModel", none), (88, 58, "PeopleStoreModel", none), (109, 59, "PeopleStoreModel", none), (256, 56, "PeopleStoreModel", none), (119, 65, "PeopleStoreModel", none), (390, 81, "PeopleStoreModel", none), (280, 67, "PeopleStoreModel", none), (300, 77, "PeopleStoreModel", none), (283, 74, "PeopleStoreModel", none), (293, 76, "PeopleStoreModel", none), (296, 78, "PeopleStoreModel", none), (332, 73, "PeopleStoreModel", none), (454, 89, "PeopleStoreModel", none), (461, 92, "PeopleStoreModel", none), (464, 93, "PeopleStoreModel", none), (467, 94, "PeopleStoreModel", none)]]
def mx_flw (own : String) (q : Nat × Nat × String × Option String) : List Cond := (match q.2.2.2 with
  | none => Cond.fieldLink own q.1 q.2.2.1 (mt_fd q.2.1).2.1 (mt_fd q.2.1).2.2.1
  | some h => Cond.fieldLinkNest own q.1 q.2.2.1 (mt_fd q.2.1).2.1 (mt_fd q.2.1).2.2.1 h) :: (if q.2.2.1 = (mt_fd q.2.1).1 then [] else [Cond.sameField q.2.2.1 (mt_fd q.2.1).1 (mt_fd q.2.1).2.1 (mt_fd q.2.1).2.2.1])

theorem mt_fw0 : ∀ w ∈ (mt_FL.getD 0 []).flatMap (mx_flw (mt_ow.getD 0 "")), w ∈ mt_tbl := mx_in [] (by decide +kernel)
theorem mt_fw1 : ∀ w ∈ (mt_FL.getD 1 []).flatMap (mx_flw (mt_ow.getD 1 "")), w ∈ mt_tbl := mx_in [259, 260, 261, 262, 263, 265, 461, 777, 464, 782, 779, 1027, 264] (by decide +kernel)
theorem mt_fw2 : ∀ w ∈ (mt_FL.getD 2 []).flatMap (mx_flw (mt_ow.getD 2 "")), w ∈ mt_tbl := mx_in [206, 207, 208, 209, 210, 211, 213, 212] (by decide +kernel)
theorem mt_fw3 : ∀ w ∈ (mt_FL.getD 3 []).flatMap (mx_flw (mt_ow.getD 3 "")), w ∈ mt_tbl := mx_in [] (by decide +kernel)
theorem mt_fw4 : ∀ w ∈ (mt_FL.getD 4 []).flatMap (mx_flw (mt_ow.getD 4 "")), w ∈ mt_tbl := mx_in [189, 190, 193, 191] (by decide +kernel)
theorem mt_fw5 : ∀ w ∈ (mt_FL.getD 5 []).flatMap (mx_flw (mt_ow.getD 5 "")), w ∈ mt_tbl := mx_in [] (by decide +kernel)
theorem mt_fw6 : ∀ w ∈ (mt_FL.getD 6 []).flatMap (mx_flw (mt_ow.getD 6 "")), w ∈ mt_tbl := mx_in [245, 248, 249, 246] (by decide +kernel)
theorem mt_fw7 : ∀ w ∈ (mt_FL.getD 7 []).flatMap (mx_flw (mt_ow.getD 7 "")), w ∈ mt_tbl := mx_in [247] (by decide +kernel)
theorem mt_fw8 : ∀ w ∈ (mt_FL.getD 8 []).flatMap (mx_flw (mt_ow.getD 8 "")), w ∈ mt_tbl := mx_in [] (by decide +kernel)
theorem mt_fw9 : ∀ w ∈ (mt_FL.getD 9 []).flatMap (mx_flw (mt_ow.getD 9 "")), w ∈ mt_tbl := mx_in [636, 637, 192] (by decide +kernel)
theorem mt_fw10 : ∀ w ∈ (mt_FL.getD 10 []).flatMap (mx_flw (mt_ow.getD 10 "")), w ∈ mt_tbl := mx_in [] (by decide +kernel)
theorem mt_fw11 : ∀ w ∈ (mt_FL.getD 11 []).flatMap (mx_flw (mt_ow.getD 11 "")), w ∈ mt_tbl := mx_in [] (by decide +kernel)
theorem mt_fw12 : ∀ w ∈ (mt_FL.getD 12 []).flatMap (mx_flw (mt_ow.getD 12 "")), w ∈ mt_tbl := mx_in [] (by decide +kernel)
theorem mt_fw13 : ∀ w ∈ (mt_FL.getD 13 []).flatMap (mx_flw (mt_ow.getD 13 "")), w ∈ mt_tbl := mx_in [] (by decide +kernel)
theorem mt_fw14 : ∀ w ∈ (mt_FL.getD 14 []).flatMap (mx_flw (mt_ow.getD 14 "")), w ∈ mt_tbl := mx_in [713, 455, 462, 465, 469, 705] (by decide +kernel)
theorem mt_fw15 : ∀ w ∈ (mt_FL.getD 15 []).flatMap (mx_flw (mt_ow.getD 15 "")), w ∈ mt_tbl := mx_in [] (by decide +kernel)
theorem mt_fw16 : ∀ w ∈ (mt_FL.getD 16 []).flatMap (mx_flw (mt_ow.getD 16 "")), w ∈ mt_tbl := mx_in [] (by decide +kernel)
theorem mt_fw17 : ∀ w ∈ (mt_FL.getD 17 []).flatMap (mx_flw (mt_ow.getD 17 "")), w ∈ mt_tbl := mx_in [701, 706] (by decide +kernel)
theorem mt_fw18 : ∀ w ∈ (mt_FL.getD 18 []).flatMap (mx_flw (mt_ow.getD 18 "")), w ∈ mt_tbl := mx_in [471, 703, 708, 710, 780, 785, 776, 778, 457, 843, 468, 781, 783, 784, 846, 849] (by decide +kernel)
theorem mt_fw19 : ∀ w ∈ (mt_FL.getD 19 []).flatMap (mx_flw (mt_ow.getD 19 "")), w ∈ mt_tbl := mx_in [460, 467] (by decide +kernel)
theorem mt_fw20 : ∀ w ∈ (mt_FL.getD 20 []).flatMap (mx_flw (mt_ow.getD 20 "")), w ∈ mt_tbl := mx_in [456, 470, 707, 842, 711, 702, 845, 463, 848] (by decide +kernel)
theorem mt_fw21 : ∀ w ∈ (mt_FL.getD 21 []).flatMap (mx_flw (mt_ow.getD 21 "")), w ∈ mt_tbl := mx_in [] (by decide +kernel)
theorem mt_fw22 : ∀ w ∈ (mt_FL.getD 22 []).flatMap (mx_flw (mt_ow.getD 22 "")), w ∈ mt_tbl := mx_in [] (by decide +kernel)
theorem mt_fw23 : ∀ w ∈ (mt_FL.getD 23 []).flatMap (mx_flw (mt_ow.getD 23 "")), w ∈ mt_tbl := mx_in [1026, 1023, 1022, 1024, 1025, 459, 472, 704, 709, 712, 786, 847, 844] (by decide +kernel)
theorem mt_fw24 : ∀ w ∈ (mt_FL.getD 24 []).flatMap (mx_flw (mt_ow.getD 24 "")), w ∈ mt_tbl := mx_in [1072, 1068, 1069, 1070, 1071, 458, 466, 1073, 787] (by decide +kernel)
theorem mt_fw25 : ∀ w ∈ (mt_FL.getD 25 []).flatMap (mx_flw (mt_ow.getD 25 "")), w ∈ mt_tbl := mx_in [1440, 1442, 1445, 1446, 1447, 1448, 1449, 1451, 1453, 1454, 1455, 1456, 1457, 1460, 1464, 1465, 1467, 1468, 1469, 1470, 1471, 1472, 1473, 1475, 1476, 1443, 1444, 1441, 1450, 1466, 1452, 1462, 1459, 1461, 1463, 1458, 1474, 1477, 1478, 1479] (by decide +kernel)
theorem mt_fw_all (o : Nat) (ho : o < 26) : ∀ w ∈ (mt_FL.getD o []).flatMap (mx_flw (mt_ow.getD o "")), w ∈ mt_tbl := by
  match o, ho with
  | 0, _ => exact mt_fw0
  | 1, _ => exact mt_fw1
  | 2, _ => exact mt_fw2
  | 3, _ => exact mt_fw3
  | 4, _ => exact mt_fw4
  | 5, _ => exact mt_fw5
  | 6, _ => exact mt_fw6
  | 7, _ => exact mt_fw7
  | 8, _ => exact mt_fw8
  | 9, _ => exact mt_fw9
  | 10, _ => exact mt_fw10
  | 11, _ => exact mt_fw11
  | 12, _ => exact mt_fw12
  | 13, _ => exact mt_fw13
  | 14, _ => exact mt_fw14
  | 15, _ => exact mt_fw15
  | 16, _ => exact mt_fw16
  | 17, _ => exact mt_fw17
  | 18, _ => exact mt_fw18
  | 19, _ => exact mt_fw19
  | 20, _ => exact mt_fw20
  | 21, _ => exact mt_fw21
  | 22, _ => exact mt_fw22
  | 23, _ => exact mt_fw23
  | 24, _ => exact mt_fw24
  | 25, _ => exact mt_fw25
  | _ + 26, h => exact absurd h (by omega)
def mt_row {α : Type} (t : List (List (Nat × α))) (mi idx : Nat) : Option α := ((t.getD (mt_o mi) []).find? (fun q => q.1 == idx)).map fun q => q.2
theorem mt_row_mem {α : Type} {t : List (List (Nat × α))} {mi idx : Nat} {a : α} (h : mt_row t mi idx = some a) : (idx, a) ∈ t.getD (mt_o mi) [] := by
  unfold mt_row at h
  obtain ⟨q, h1, h2⟩ := Option.map_eq_some_iff.mp h
  have h3 := List.find?_some h1
  have h4 : q.1 = idx := by simpa using h3
  have h5 := List.mem_of_find?_eq_some h1
  obtain ⟨a1, a2⟩ := q
  dsimp only at h2 h4
  subst h2; subst h4
  exact h5
theorem mt_own_ow {mi : Nat} {q : mt_Q} (h : mt_q mi = some q) : mt_o mi < 26 ∧ mt_ow.getD (mt_o mi) "" = mt_own mi := by
  have hg := mt_q_ok h
  unfold mx_goodB at hg
  simp only [Bool.and_eq_true, decide_eq_true_eq] at hg
  have h1 := hg.2.2.2.2
  unfold mt_o mt_own mt_nm
  rw [h]
  dsimp only
  have h2 := (List.getElem?_eq_some_iff.mp h1).1
  exact ⟨h2, by rw [List.getD_eq_getElem?_getD, h1]; rfl⟩
/-- a row that is there: the method is one of the claim's -/
theorem mt_row_q {α : Type} {t : List (List (Nat × α))} {mi idx : Nat} {a : α} (h : mt_row t mi idx = some a) (ht : t.length ≤ 999) : ∃ q, mt_q mi = some q := by
  cases hq : mt_q mi with
  | some q => exact ⟨q, rfl⟩
  | none =>
    have := mt_row_mem h
    unfold mt_o at this
    rw [hq] at this
    dsimp only at this
    rw [List.getD_eq_getElem?_getD, List.getElem?_eq_none (by omega)] at this
    simp at this
def mt_fl (mi idx : Nat) : Option Nat := (mt_row mt_FL mi idx).map fun q => q.1

def mt_SC : List (List (Nat × Nat × Nat)) := [[(9, 1, 2), (12, 236, 2)],
  [(9, 2, 3), (18, 7, 2), (32, 3, 2), (41, 12, 0), (45, 13, 0), (61, 119, 0), (183, 48, 1), (176, 43, 0), (180, 100, 2), (196, 144, 0), (203, 116, 2), (91, 157, 0), (125, 163, 1), (209, 203, 0), (224, 27, 0)],
  [(25, 3, 2), (98, 43, 1)],
  [(1, 4, 2), (333, 57, 4), (50, 69, 4), (137, 83, 2), (343, 87, 4), (29, 217, 4), (53, 225, 4), (329, 235, 4)],
  [(26, 5, 0), (133, 64, 0), (137, 67, 0), (108, 62, 0), (114, 60, 0), (191, 70, 0), (197, 78, 0), (125, 72, 0), (226, 219, 0), (245, 226, 0), (248, 227, 0), (251, 228, 0), (138, 28, 0), (144, 80, 0), (148, 37, 0)],
  [(11, 6, 0), (224, 27, 0), (183, 28, 0), (228, 31, 0), (232, 38, 0), (96, 32, 0), (244, 36, 0), (48, 33, 0), (241, 34, 0), (71, 37, 0), (164, 39, 0), (157, 40, 0), (161, 41, 0), (380, 65, 0), (173, 74, 0), (111, 77, 0), (419, 75, 0), (67, 79, 0), (414, 80, 0), (123, 92, 0), (126, 88, 0), (103, 99, 0), (115, 103, 0), (119, 104, 0), (107, 5, 0), (393, 229, 0)],
  [(1, 8, 2), (73, 60, 0), (66, 135, 0), (79, 27, 0), (118, 140, 0)],
  [(1, 9, 2)],
  [],
  [(637, 25, 0), (640, 30, 0), (1062, 35, 0), (1065, 76, 0), (1059, 81, 0), (489, 84, 2), (54, 88, 0), (1051, 91, 0), (47, 93, 0), (299, 96, 0), (303, 98, 0), (27, 101, 2), (177, 102, 0), (180, 104, 0), (541, 106, 0), (495, 112, 0), (498, 113, 0), (106, 72, 0)],
  [(88, 26, 0), (92, 27, 0), (38, 28, 0), (95, 29, 0), (236, 65, 0), (240, 73, 0), (13, 97, 0), (9, 80, 0)],
  [],
  [],
  [],
  [(36, 50, 0), (40, 109, 0), (73, 53, 2), (76, 54, 0), (80, 108, 0), (94, 94, 1), (88, 48, 0), (91, 107, 2), (50, 114, 2), (58, 116, 2), (64, 117, 2), (112, 28, 0), (122, 146, 0), (126, 27, 0)],
  [(194, 27, 0), (201, 61, 0)],
  [(304, 28, 0), (13, 66, 0), (339, 89, 0), (343, 90, 0), (300, 136, 0)],
  [],
  [(27, 116, 2), (30, 120, 2), (43, 121, 0), (11, 7, 2), (61, 124, 0), (69, 125, 0), (79, 129, 0), (121, 144, 0), (132, 94, 1), (136, 117, 2), (116, 127, 2), (159, 114, 2), (168, 215, 0), (184, 122, 0)],
  [(29, 122, 0), (45, 130, 0)],
  [(53, 7, 2), (56, 107, 2), (59, 126, 0), (22, 127, 2), (35, 128, 0), (44, 129, 0), (70, 144, 0), (92, 215, 0)],
  [(105, 81, 0)],
  [],
  [(29, 159, 2), (60, 121, 0), (64, 163, 1), (74, 128, 0), (77, 48, 1), (103, 124, 0), (109, 177, 0), (130, 129, 0), (166, 188, 0), (181, 191, 0), (185, 126, 0), (149, 125, 0)],
  [(23, 164, 0), (29, 166, 0), (84, 165, 2), (60, 167, 0), (68, 128, 0), (74, 168, 0), (78, 121, 0), (48, 163, 0), (81, 169, 0), (87, 130, 0), (91, 109, 0), (98, 171, 0), (106, 94, 1), (112, 117, 2), (115, 170, 0), (184, 177, 0)],
  [(112, 242, 0), (99, 243, 0), (131, 248, 0), (92, 244, 0)]]
def mx_scw (own : String) (q : Nat × Nat × Nat) : List Cond := match q.2.2 with
  | 0 => [.methodLink own q.1 (mt_nm q.2.1), .static (mt_nm q.2.1), .initialized (mt_nm q.2.1).cls]
  | 1 => [.methodLinkNest own q.1 (mt_nm q.2.1) "PeopleStore", .static (mt_nm q.2.1), .initialized (mt_nm q.2.1).cls]
  | 2 => [.methodLink own q.1 (mt_nm q.2.1), .instanceMethod (mt_nm q.2.1), .initialized (mt_nm q.2.1).cls]
  | 3 => [.methodLinkNest own q.1 (mt_nm q.2.1) "PeopleStore", .instanceMethod (mt_nm q.2.1), .initialized (mt_nm q.2.1).cls]
  | _ => [.methodLink own q.1 (mt_nm q.2.1), .sameMethod (mt_nm q.2.1).cls (mt_nm q.2.1).cls (mt_nm q.2.1).name (mt_nm q.2.1).desc, .superclass own (mt_nm q.2.1).cls, .instanceMethod (mt_nm q.2.1), .initialized (mt_nm q.2.1).cls]

theorem mt_sw0 : ∀ w ∈ (mt_SC.getD 0 []).flatMap (mx_scw (mt_ow.getD 0 "")), w ∈ mt_tbl := mx_in [159, 160, 131, 1436, 1437, 140] (by decide +kernel)
theorem mt_sw1 : ∀ w ∈ (mt_SC.getD 1 []).flatMap (mx_scw (mt_ow.getD 1 "")), w ∈ mt_tbl := mx_in [167, 168, 132, 233, 234, 139, 258, 174, 134, 289, 290, 131, 292, 293, 132, 763, 764, 150, 429, 430, 145, 666, 410, 131, 668, 669, 135, 971, 945, 145, 999, 753, 145, 1008, 1009, 155, 1277, 1057, 156, 1286, 1287, 131, 1311, 348, 142] (by decide +kernel)
theorem mt_sw2 : ∀ w ∈ (mt_SC.getD 2 []).flatMap (mx_scw (mt_ow.getD 2 "")), w ∈ mt_tbl := mx_in [173, 174, 134, 409, 410, 131] (by decide +kernel)
theorem mt_sw3 : ∀ w ∈ (mt_SC.getD 3 []).flatMap (mx_scw (mt_ow.getD 3 "")), w ∈ mt_tbl := mx_in [176, 177, 133, 494, 1994, 202, 495, 133, 550, 1997, 202, 551, 133, 596, 597, 135, 614, 610, 202, 609, 133, 1346, 1999, 202, 1347, 133, 1381, 2003, 202, 1382, 133, 1428, 2005, 202, 1429, 133] (by decide +kernel)
theorem mt_sw4 : ∀ w ∈ (mt_SC.getD 4 []).flatMap (mx_scw (mt_ow.getD 4 "")), w ∈ mt_tbl := mx_in [182, 183, 136, 533, 534, 141, 542, 543, 136, 514, 515, 147, 505, 506, 146, 553, 554, 141, 578, 579, 136, 560, 561, 141, 1353, 1354, 136, 1384, 1385, 154, 1387, 1388, 154, 1394, 1395, 136, 1431, 351, 142, 1432, 585, 135, 1433, 383, 136] (by decide +kernel)
theorem mt_sw5 : ∀ w ∈ (mt_SC.getD 5 []).flatMap (mx_scw (mt_ow.getD 5 "")), w ∈ mt_tbl := mx_in [185, 186, 136, 359, 348, 142, 360, 351, 142, 362, 363, 136, 391, 392, 136, 365, 366, 136, 379, 380, 136, 368, 369, 136, 371, 372, 135, 382, 383, 136, 394, 395, 144, 397, 398, 144, 401, 402, 144, 545, 537, 147, 566, 567, 136, 575, 576, 136, 569, 570, 135, 581, 582, 136, 584, 585, 135, 629, 630, 136, 632, 618, 147, 663, 664, 136, 678, 679, 136, 681, 682, 136, 684, 183, 136, 1397, 1398, 136] (by decide +kernel)
theorem mt_sw6 : ∀ w ∈ (mt_SC.getD 6 []).flatMap (mx_scw (mt_ow.getD 6 "")), w ∈ mt_tbl := mx_in [236, 237, 138, 887, 506, 146, 888, 889, 147, 913, 348, 142, 927, 928, 153] (by decide +kernel)
theorem mt_sw7 : ∀ w ∈ (mt_SC.getD 7 []).flatMap (mx_scw (mt_ow.getD 7 "")), w ∈ mt_tbl := mx_in [239, 240, 137] (by decide +kernel)
theorem mt_sw8 : ∀ w ∈ (mt_SC.getD 8 []).flatMap (mx_scw (mt_ow.getD 8 "")), w ∈ mt_tbl := mx_in [] (by decide +kernel)
theorem mt_sw9 : ∀ w ∈ (mt_SC.getD 9 []).flatMap (mx_scw (mt_ow.getD 9 "")), w ∈ mt_tbl := mx_in [341, 342, 141, 356, 357, 136, 376, 377, 143, 572, 573, 143, 587, 588, 143, 599, 600, 135, 617, 618, 147, 626, 627, 136, 633, 634, 136, 654, 655, 141, 660, 661, 136, 671, 672, 135, 675, 676, 136, 685, 682, 136, 691, 692, 141, 737, 738, 141, 741, 742, 136, 1371, 561, 141] (by decide +kernel)
theorem mt_sw10 : ∀ w ∈ (mt_SC.getD 10 []).flatMap (mx_scw (mt_ow.getD 10 "")), w ∈ mt_tbl := mx_in [344, 345, 141, 347, 348, 142, 350, 351, 142, 353, 354, 141, 536, 537, 147, 563, 564, 136, 657, 658, 141, 740, 585, 135] (by decide +kernel)
theorem mt_sw11 : ∀ w ∈ (mt_SC.getD 11 []).flatMap (mx_scw (mt_ow.getD 11 "")), w ∈ mt_tbl := mx_in [] (by decide +kernel)
theorem mt_sw12 : ∀ w ∈ (mt_SC.getD 12 []).flatMap (mx_scw (mt_ow.getD 12 "")), w ∈ mt_tbl := mx_in [] (by decide +kernel)
theorem mt_sw13 : ∀ w ∈ (mt_SC.getD 13 []).flatMap (mx_scw (mt_ow.getD 13 "")), w ∈ mt_tbl := mx_in [] (by decide +kernel)
theorem mt_sw14 : ∀ w ∈ (mt_SC.getD 14 []).flatMap (mx_scw (mt_ow.getD 14 "")), w ∈ mt_tbl := mx_in [436, 437, 145, 724, 725, 145, 450, 451, 145, 482, 483, 145, 721, 722, 145, 647, 648, 131, 694, 430, 145, 697, 698, 149, 744, 745, 145, 752, 753, 145, 755, 756, 145, 952, 351, 142, 954, 955, 154, 1188, 348, 142] (by decide +kernel)
theorem mt_sw15 : ∀ w ∈ (mt_SC.getD 15 []).flatMap (mx_scw (mt_ow.getD 15 "")), w ∈ mt_tbl := mx_in [508, 348, 142, 510, 511, 146] (by decide +kernel)
theorem mt_sw16 : ∀ w ∈ (mt_SC.getD 16 []).flatMap (mx_scw (mt_ow.getD 16 "")), w ∈ mt_tbl := mx_in [524, 351, 142, 539, 540, 147, 620, 621, 147, 623, 624, 147, 907, 908, 147] (by decide +kernel)
theorem mt_sw17 : ∀ w ∈ (mt_SC.getD 17 []).flatMap (mx_scw (mt_ow.getD 17 "")), w ∈ mt_tbl := mx_in [] (by decide +kernel)
theorem mt_sw18 : ∀ w ∈ (mt_SC.getD 18 []).flatMap (mx_scw (mt_ow.getD 18 "")), w ∈ mt_tbl := mx_in [769, 753, 145, 770, 771, 150, 803, 804, 151, 775, 234, 139, 822, 823, 151, 825, 826, 152, 957, 863, 151, 944, 945, 145, 962, 648, 131, 963, 756, 145, 1146, 839, 152, 1219, 745, 145, 1338, 1339, 150, 1341, 807, 151] (by decide +kernel)
theorem mt_sw19 : ∀ w ∈ (mt_SC.getD 19 []).flatMap (mx_scw (mt_ow.getD 19 "")), w ∈ mt_tbl := mx_in [806, 807, 151, 865, 866, 151] (by decide +kernel)
theorem mt_sw20 : ∀ w ∈ (mt_SC.getD 20 []).flatMap (mx_scw (mt_ow.getD 20 "")), w ∈ mt_tbl := mx_in [829, 234, 139, 832, 698, 149, 833, 834, 152, 838, 839, 152, 859, 860, 151, 862, 863, 151, 997, 945, 145, 1418, 1339, 150] (by decide +kernel)
theorem mt_sw21 : ∀ w ∈ (mt_SC.getD 21 []).flatMap (mx_scw (mt_ow.getD 21 "")), w ∈ mt_tbl := mx_in [930, 588, 143] (by decide +kernel)
theorem mt_sw22 : ∀ w ∈ (mt_SC.getD 22 []).flatMap (mx_scw (mt_ow.getD 22 "")), w ∈ mt_tbl := mx_in [] (by decide +kernel)
theorem mt_sw23 : ∀ w ∈ (mt_SC.getD 23 []).flatMap (mx_scw (mt_ow.getD 23 "")), w ∈ mt_tbl := mx_in [1018, 1019, 155, 1054, 804, 151, 1056, 1057, 156, 1136, 860, 151, 1141, 430, 145, 1266, 823, 151, 1156, 1157, 151, 1206, 863, 151, 1212, 1213, 155, 1225, 1226, 155, 1237, 834, 152, 1255, 826, 152] (by decide +kernel)
theorem mt_sw24 : ∀ w ∈ (mt_SC.getD 24 []).flatMap (mx_scw (mt_ow.getD 24 "")), w ∈ mt_tbl := mx_in [1059, 1060, 156, 1087, 1088, 156, 1064, 1065, 156, 1093, 1094, 156, 1100, 860, 151, 1101, 1102, 156, 1129, 804, 151, 1097, 1057, 156, 1104, 1105, 156, 1121, 866, 151, 1122, 725, 145, 1123, 1124, 156, 1127, 648, 131, 1128, 756, 145, 1107, 1108, 156, 1189, 1157, 151] (by decide +kernel)
theorem mt_sw25 : ∀ w ∈ (mt_SC.getD 25 []).flatMap (mx_scw (mt_ow.getD 25 "")), w ∈ mt_tbl := mx_in [1583, 1584, 140, 1586, 1587, 140, 1609, 1610, 140, 1589, 1590, 140] (by decide +kernel)
theorem mt_sw_all (o : Nat) (ho : o < 26) : ∀ w ∈ (mt_SC.getD o []).flatMap (mx_scw (mt_ow.getD o "")), w ∈ mt_tbl := by
  match o, ho with
  | 0, _ => exact mt_sw0
  | 1, _ => exact mt_sw1
  | 2, _ => exact mt_sw2
  | 3, _ => exact mt_sw3
  | 4, _ => exact mt_sw4
  | 5, _ => exact mt_sw5
  | 6, _ => exact mt_sw6
  | 7, _ => exact mt_sw7
  | 8, _ => exact mt_sw8
  | 9, _ => exact mt_sw9
  | 10, _ => exact mt_sw10
  | 11, _ => exact mt_sw11
  | 12, _ => exact mt_sw12
  | 13, _ => exact mt_sw13
  | 14, _ => exact mt_sw14
  | 15, _ => exact mt_sw15
  | 16, _ => exact mt_sw16
  | 17, _ => exact mt_sw17
  | 18, _ => exact mt_sw18
  | 19, _ => exact mt_sw19
  | 20, _ => exact mt_sw20
  | 21, _ => exact mt_sw21
  | 22, _ => exact mt_sw22
  | 23, _ => exact mt_sw23
  | 24, _ => exact mt_sw24
  | 25, _ => exact mt_sw25
  | _ + 26, h => exact absurd h (by omega)
def mt_VC : List (List (Nat × Nat × List (Nat × Nat × Nat × Nat))) := [[(13, 2, [(0, 10, 0, 10)]), (17, 2, [(11, 237, 0, 237)]), (18, 0, [(0, 15, 0, 15)]), (22, 0, [(11, 238, 0, 238)]), (23, 2, [(0, 149, 0, 149)]), (27, 2, [(11, 279, 0, 279)]), (28, 2, [(0, 156, 0, 156)]), (31, 2, [(11, 286, 0, 286)]), (32, 2, [(0, 200, 0, 200)]), (35, 2, [(11, 285, 0, 285)]), (36, 4, [(0, 201, 0, 201)]), (40, 4, [(11, 320, 0, 320)]), (41, 1, [(0, 209, 0, 209)]), (45, 1, [(11, 327, 0, 327)]), (46, 0, [(0, 210, 0, 210)]), (49, 0, [(11, 328, 0, 328)]), (50, 1, [(0, 211, 0, 211)]), (53, 1, [(11, 329, 0, 329)]), (54, 1, [(0, 212, 0, 212)]), (57, 1, [(11, 330, 0, 330)]), (58, 2, [(0, 233, 0, 233)]), (61, 2, [(11, 338, 0, 338)])],
  [(37, 1, [(1, 11, 0, 11)]), (49, 1, [(1, 14, 0, 14)]), (53, 0, [(0, 16, 0, 16)]), (67, 1, [(0, 148, 0, 148)]), (71, 0, [(3, 138, 0, 138)]), (75, 1, [(3, 131, 0, 131)]), (119, 0, [(1, 17, 0, 17)]), (122, 1, [(1, 49, 0, 49)]), (97, 0, [(1, 118, 0, 118)]), (170, 0, [(5, 95, 0, 95)]), (100, 1, [(3, 139, 0, 139)]), (79, 1, [(0, 150, 0, 150)]), (83, 2, [(0, 151, 0, 151)]), (87, 2, [(0, 152, 0, 152)]), (200, 1, [(7, 153, 0, 153)]), (205, 2, [(3, 155, 0, 155)]), (104, 0, [(7, 174, 0, 174)]), (108, 1, [(9, 175, 0, 175)]), (116, 1, [(3, 192, 0, 192)]), (134, 0, [(3, 197, 0, 197)]), (135, 2, [(10, 179, 1, 179)]), (139, 3, [(0, 202, 0, 202)]), (143, 2, [(0, 208, 0, 208)]), (213, 2, [(3, 206, 0, 206)]), (216, 1, [(7, 204, 0, 204)]), (220, 1, [(4, 145, 0, 145)]), (159, 1, [(0, 213, 0, 213)]), (163, 0, [(2, 86, 0, 86)]), (229, 1, [(2, 56, 0, 56)]), (232, 1, [(7, 214, 0, 214)]), (166, 1, [(2, 234, 0, 234)])],
  [(37, 1, [(1, 18, 0, 18)]), (44, 1, [(1, 19, 0, 19)]), (79, 1, [(5, 20, 0, 20)]), (82, 1, [(1, 42, 0, 42)]), (86, 1, [(1, 44, 0, 44)]), (89, 1, [(1, 45, 0, 45)]), (92, 1, [(1, 46, 0, 46)]), (95, 1, [(1, 47, 0, 47)]), (48, 0, [(1, 51, 0, 51)]), (67, 1, [(2, 56, 0, 56)]), (70, 1, [(2, 68, 0, 68)]), (74, 0, [(2, 82, 0, 82)]), (51, 0, [(5, 23, 0, 23)]), (57, 1, [(5, 111, 0, 111)]), (63, 0, [(1, 55, 0, 55)])],
  [],
  [(100, 1, [(2, 58, 2, 58)]), (83, 0, [(2, 63, 2, 63)]), (104, 1, [(2, 59, 2, 59)]), (195, 0, [(2, 71, 2, 71)]), (204, 0, [(2, 218, 2, 218)]), (32, 0, [(5, 23, 0, 23)]), (208, 2, [(2, 220, 2, 220)]), (397, 1, [(2, 221, 2, 221)]), (399, 3, [(5, 222, 0, 222)]), (40, 0, [(5, 24, 0, 24)])],
  [],
  [(131, 3, [(3, 132, 0, 132)]), (129, 0, [(3, 133, 0, 133)]), (69, 1, [(3, 134, 0, 134)]), (123, 1, [(3, 141, 0, 141)]), (144, 2, [(3, 193, 0, 193)]), (135, 1, [(3, 207, 0, 207)])],
  [],
  [],
  [(633, 2, [(5, 21, 0, 21)]), (492, 0, [(5, 22, 0, 22)]), (505, 0, [(5, 23, 0, 23)]), (335, 0, [(5, 24, 0, 24)]), (552, 0, [(2, 85, 2, 85)]), (549, 0, [(2, 86, 3, 87)]), (1047, 0, [(2, 63, 2, 63)])],
  [],
  [],
  [],
  [],
  [(30, 1, [(1, 49, 0, 49)]), (67, 0, [(1, 51, 0, 51)]), (70, 1, [(1, 52, 0, 52)]), (61, 0, [(1, 55, 0, 55)]), (103, 1, [(5, 105, 0, 105)]), (46, 1, [(1, 110, 0, 110)]), (55, 0, [(1, 115, 0, 115)]), (26, 1, [(4, 145, 0, 145)]), (109, 0, [(5, 23, 0, 23)]), (118, 1, [(5, 111, 0, 111)]), (129, 1, [(2, 224, 0, 224)]), (135, 1, [(2, 216, 0, 216)]), (138, 1, [(4, 230, 0, 230)]), (142, 1, [(2, 68, 0, 68)])],
  [],
  [],
  [],
  [(52, 2, [(7, 123, 0, 123)]), (75, 1, [(7, 137, 0, 137)]), (82, 2, [(7, 147, 0, 147)]), (86, 0, [(3, 138, 0, 138)]), (90, 1, [(3, 139, 0, 139)]), (94, 0, [(8, 142, 0, 142)]), (98, 0, [(7, 143, 0, 143)]), (125, 1, [(8, 154, 0, 154)]), (117, 1, [(3, 131, 0, 131)]), (139, 1, [(7, 185, 0, 185)]), (148, 1, [(8, 195, 0, 195)]), (152, 1, [(8, 194, 0, 194)]), (142, 1, [(7, 184, 0, 184)]), (145, 0, [(3, 205, 0, 205)]), (162, 1, [(2, 68, 0, 68)]), (172, 1, [(7, 231, 0, 231)]), (178, 1, [(2, 216, 0, 216)]), (190, 1, [(4, 223, 0, 223)]), (181, 1, [(8, 232, 0, 232)])],
  [(33, 1, [(5, 105, 0, 105)]), (53, 0, [(5, 23, 0, 23)])],
  [(63, 1, [(3, 131, 0, 131)]), (74, 0, [(8, 142, 0, 142)]), (82, 1, [(8, 187, 0, 187)]), (86, 1, [(2, 68, 0, 68)])],
  [],
  [],
  [(20, 0, [(1, 17, 0, 17)]), (25, 0, [(1, 158, 0, 158)]), (32, 0, [(1, 51, 0, 51)]), (35, 0, [(9, 160, 0, 160)]), (39, 1, [(9, 161, 0, 161)]), (43, 1, [(9, 173, 0, 173)]), (49, 1, [(1, 49, 0, 49)]), (53, 1, [(1, 52, 0, 52)]), (56, 0, [(1, 162, 0, 162)]), (87, 3, [(9, 176, 0, 176)]), (112, 1, [(9, 178, 0, 178)]), (116, 2, [(9, 186, 0, 186)]), (120, 2, [(9, 190, 0, 190)]), (123, 2, [(9, 196, 0, 196)]), (127, 3, [(9, 199, 0, 199)]), (155, 0, [(3, 138, 0, 138)]), (158, 1, [(3, 139, 0, 139)]), (196, 2, [(10, 179, 1, 179)]), (177, 1, [(8, 187, 0, 187)]), (203, 0, [(7, 189, 0, 189)]), (206, 0, [(7, 143, 0, 143)]), (189, 1, [(8, 194, 0, 194)]), (193, 1, [(8, 195, 0, 195)]), (200, 1, [(3, 192, 0, 192)]), (144, 0, [(3, 197, 0, 197)]), (162, 1, [(7, 198, 0, 198)]), (134, 2, [(7, 147, 0, 147)])],
  [(33, 1, [(10, 172, 0, 172)]), (39, 1, [(1, 110, 0, 110)]), (57, 1, [(1, 49, 0, 49)]), (64, 0, [(1, 162, 0, 162)]), (51, 1, [(1, 52, 0, 52)]), (45, 0, [(1, 51, 0, 51)]), (119, 1, [(5, 105, 0, 105)]), (151, 3, [(10, 180, 0, 180)]), (161, 0, [(3, 138, 0, 138)]), (167, 1, [(3, 139, 0, 139)]), (173, 2, [(10, 179, 0, 179)]), (177, 1, [(8, 181, 0, 181)]), (180, 2, [(10, 182, 0, 182)]), (187, 1, [(7, 184, 0, 184)]), (190, 0, [(5, 23, 0, 23)]), (193, 1, [(4, 145, 0, 145)]), (197, 3, [(4, 183, 0, 183)])],
  [(262, 0, [(11, 239, 0, 239)]), (244, 0, [(11, 240, 0, 240)]), (142, 2, [(11, 249, 0, 249)]), (247, 1, [(11, 250, 0, 250)]), (175, 3, [(11, 260, 0, 260)]), (250, 1, [(11, 261, 0, 261)]), (253, 0, [(11, 277, 0, 277)]), (171, 2, [(11, 274, 0, 274)]), (259, 2, [(11, 278, 0, 278)]), (96, 1, [(11, 241, 0, 241)]), (122, 1, [(11, 245, 0, 245)]), (125, 1, [(11, 246, 0, 246)]), (128, 1, [(11, 247, 0, 247)]), (165, 1, [(11, 251, 0, 251)]), (168, 2, [(11, 255, 0, 255)]), (146, 1, [(11, 252, 0, 252)]), (149, 1, [(11, 253, 0, 253)]), (136, 2, [(11, 254, 0, 254)]), (155, 1, [(11, 256, 0, 256)]), (158, 2, [(11, 257, 0, 257)]), (162, 2, [(11, 259, 0, 259)]), (152, 1, [(11, 258, 0, 258)]), (179, 1, [(11, 262, 0, 262)]), (189, 1, [(11, 263, 0, 263)]), (237, 1, [(11, 264, 0, 264)]), (240, 2, [(11, 276, 0, 276)]), (211, 1, [(11, 265, 0, 265)]), (198, 1, [(11, 268, 0, 268)]), (214, 2, [(11, 269, 0, 269)]), (217, 0, [(11, 273, 0, 273)]), (221, 0, [(11, 275, 0, 275)]), (194, 2, [(11, 266, 0, 266)]), (185, 2, [(11, 267, 0, 267)]), (201, 2, [(11, 270, 0, 270)]), (205, 1, [(11, 271, 0, 271)]), (208, 2, [(11, 272, 0, 272)]), (274, 1, [(11, 280, 0, 280)]), (277, 2, [(11, 281, 0, 281)]), (268, 2, [(11, 282, 0, 282)]), (271, 1, [(11, 283, 0, 283)]), (265, 1, [(11, 284, 0, 284)]), (435, 2, [(11, 287, 0, 287)]), (429, 0, [(11, 288, 0, 288)]), (432, 2, [(11, 301, 0, 301)]), (425, 5, [(11, 302, 0, 302)]), (399, 1, [(11, 289, 0, 289)]), (396, 1, [(11, 290, 0, 290)]), (303, 1, [(11, 291, 0, 291)]), (393, 2, [(11, 292, 0, 292)]), (342, 1, [(11, 293, 0, 293)]), (338, 1, [(11, 299, 0, 299)]), (290, 1, [(11, 295, 0, 295)]), (349, 1, [(11, 300, 0, 300)]), (329, 1, [(11, 294, 0, 294)]), (286, 1, [(11, 296, 0, 296)]), (335, 1, [(11, 297, 0, 297)]), (318, 1, [(11, 298, 0, 298)]), (386, 4, [(11, 303, 0, 303)]), (415, 3, [(11, 313, 0, 313)]), (419, 2, [(11, 314, 0, 314)]), (422, 3, [(11, 317, 0, 317)]), (382, 3, [(11, 304, 0, 304)]), (378, 4, [(11, 305, 0, 305)]), (368, 3, [(11, 306, 0, 306)]), (372, 5, [(11, 308, 0, 308)]), (375, 3, [(11, 312, 0, 312)]), (364, 2, [(11, 307, 0, 307)]), (357, 5, [(11, 309, 0, 309)]), (361, 4, [(11, 311, 0, 311)]), (353, 4, [(11, 310, 0, 310)]), (405, 1, [(11, 315, 0, 315)]), (402, 1, [(11, 316, 0, 316)]), (408, 0, [(11, 318, 0, 318)]), (411, 4, [(11, 319, 0, 319)]), (457, 4, [(11, 321, 0, 321)]), (447, 2, [(11, 322, 0, 322)]), (450, 4, [(11, 323, 0, 323)]), (441, 2, [(11, 324, 0, 324)]), (444, 3, [(11, 325, 0, 325)]), (438, 2, [(11, 326, 0, 326)]), (489, 2, [(11, 331, 0, 331)]), (470, 1, [(11, 332, 0, 332)]), (477, 1, [(11, 333, 0, 333)]), (483, 1, [(11, 335, 0, 335)]), (480, 2, [(11, 336, 0, 336)]), (473, 1, [(11, 334, 0, 334)]), (486, 2, [(11, 337, 0, 337)])]]
def mx_cn (ci : Nat) : String := match mt_cf[ci]? with
  | some q => q.1
  | none => ""
def mx_vew (own : String) (idx : Nat) (e : Nat × Nat × Nat × Nat) : List Cond := match e.2.2.1 with
  | 0 => [.methodLink own idx (mt_nm e.2.1), .instanceMethod (mt_nm e.2.1), .selects (mx_cn e.1) (mt_nm e.2.1) (mt_nm e.2.1), .initialized (mx_cn e.1)]
  | 1 => [.methodLinkNest own idx (mt_nm e.2.1) "PeopleStore", .instanceMethod (mt_nm e.2.1), .selects (mx_cn e.1) (mt_nm e.2.1) (mt_nm e.2.1), .initialized (mt_nm e.2.1).cls]
  | 2 => [.methodLink own idx (mt_nm e.2.1), .sameMethod (mt_nm e.2.1).cls (mt_nm e.2.1).cls (mt_nm e.2.1).name (mt_nm e.2.1).desc, .selects (mx_cn e.1) (mt_nm e.2.1) (mt_nm e.2.1), .instanceMethod (mt_nm e.2.1), .initialized (mt_nm e.2.1).cls]
  | _ => [.methodLink own idx (mt_nm e.2.2.2), .sameMethod (mt_nm e.2.2.2).cls (mt_nm e.2.2.2).cls (mt_nm e.2.2.2).name (mt_nm e.2.2.2).desc, .instanceMethod (mt_nm e.2.2.2), .selects (mx_cn e.1) (mt_nm e.2.2.2) (mt_nm e.2.1), .instanceMethod (mt_nm e.2.1), .initialized (mt_nm e.2.1).cls]
def mx_vcw (own : String) (q : Nat × Nat × List (Nat × Nat × Nat × Nat)) : List Cond := q.2.2.flatMap (mx_vew own q.1)

theorem mt_vw0 : ∀ w ∈ (mt_VC.getD 0 []).flatMap (mx_vcw (mt_ow.getD 0 "")), w ∈ mt_tbl := mx_in [281, 282, 283, 131, 1563, 1564, 1565, 140, 299, 300, 301, 131, 1567, 1568, 1569, 140, 973, 974, 975, 131, 1742, 1743, 1744, 140, 1004, 1005, 1006, 131, 1770, 1771, 1772, 140, 1268, 1269, 1270, 131, 1766, 1767, 1768, 140, 1273, 1274, 1275, 131, 1918, 1919, 1920, 140, 1312, 1313, 1314, 131, 1946, 1947, 1948, 140, 1316, 1317, 1318, 131, 1950, 1951, 1952, 140, 1320, 1321, 1322, 131, 1954, 1955, 1956, 140, 1324, 1325, 1326, 131, 1958, 1959, 1960, 140, 1420, 1421, 1422, 131, 1990, 1991, 1992, 140] (by decide +kernel)
theorem mt_vw1 : ∀ w ∈ (mt_VC.getD 1 []).flatMap (mx_vcw (mt_ow.getD 1 "")), w ∈ mt_tbl := mx_in [285, 286, 287, 132, 295, 296, 297, 132, 303, 305, 6, 131, 964, 966, 19, 131, 968, 920, 921, 139, 972, 872, 873, 139, 307, 308, 309, 132, 758, 433, 434, 132, 759, 760, 761, 132, 650, 651, 652, 135, 969, 924, 925, 139, 977, 979, 20, 131, 981, 983, 21, 131, 985, 987, 22, 131, 989, 990, 991, 150, 1000, 1001, 1002, 139, 1142, 1143, 1144, 150, 1148, 1149, 1150, 155, 1272, 1229, 1230, 139, 1280, 1252, 1253, 139, 1281, 1168, 29, 156, 1282, 1284, 37, 131, 1307, 1309, 39, 131, 1299, 1300, 1301, 139, 1289, 1290, 1291, 150, 1298, 948, 949, 145, 1328, 1330, 40, 131, 1419, 612, 2004, 134, 1332, 491, 492, 134, 1333, 1334, 1335, 150, 1424, 1425, 1426, 134] (by decide +kernel)
theorem mt_vw2 : ∀ w ∈ (mt_VC.getD 2 []).flatMap (mx_vcw (mt_ow.getD 2 "")), w ∈ mt_tbl := mx_in [311, 313, 7, 132, 315, 317, 8, 132, 320, 321, 322, 135, 405, 407, 9, 132, 412, 414, 10, 132, 416, 418, 11, 132, 420, 422, 12, 132, 424, 426, 13, 132, 447, 440, 441, 132, 490, 491, 492, 134, 546, 547, 548, 134, 590, 591, 592, 134, 732, 334, 335, 135, 733, 734, 735, 135, 1053, 486, 487, 132] (by decide +kernel)
theorem mt_vw3 : ∀ w ∈ (mt_VC.getD 3 []).flatMap (mx_vcw (mt_ow.getD 3 "")), w ∈ mt_tbl := mx_in [] (by decide +kernel)
theorem mt_vw4 : ∀ w ∈ (mt_VC.getD 4 []).flatMap (mx_vcw (mt_ow.getD 4 "")), w ∈ mt_tbl := mx_in [497, 1995, 0, 499, 133, 528, 530, 531, 529, 133, 501, 1996, 1, 503, 133, 556, 1998, 2, 558, 133, 1349, 2000, 3, 1351, 133, 1356, 334, 335, 135, 1357, 2001, 4, 1359, 133, 1361, 2002, 5, 1363, 133, 1366, 1367, 1368, 135, 1365, 338, 339, 135] (by decide +kernel)
theorem mt_vw5 : ∀ w ∈ (mt_VC.getD 5 []).flatMap (mx_vcw (mt_ow.getD 5 "")), w ∈ mt_tbl := mx_in [] (by decide +kernel)
theorem mt_vw6 : ∀ w ∈ (mt_VC.getD 6 []).flatMap (mx_vcw (mt_ow.getD 6 "")), w ∈ mt_tbl := mx_in [875, 877, 15, 139, 879, 881, 16, 139, 883, 885, 17, 139, 931, 932, 933, 139, 1232, 1234, 34, 139, 1303, 1305, 38, 139] (by decide +kernel)
theorem mt_vw7 : ∀ w ∈ (mt_VC.getD 7 []).flatMap (mx_vcw (mt_ow.getD 7 "")), w ∈ mt_tbl := mx_in [] (by decide +kernel)
theorem mt_vw8 : ∀ w ∈ (mt_VC.getD 8 []).flatMap (mx_vcw (mt_ow.getD 8 "")), w ∈ mt_tbl := mx_in [] (by decide +kernel)
theorem mt_vw9 : ∀ w ∈ (mt_VC.getD 9 []).flatMap (mx_vcw (mt_ow.getD 9 "")), w ∈ mt_tbl := mx_in [324, 325, 326, 135, 328, 329, 330, 135, 333, 334, 335, 135, 337, 338, 339, 135, 603, 605, 606, 604, 133, 608, 610, 609, 611, 612, 134, 616, 530, 531, 529, 133] (by decide +kernel)
theorem mt_vw10 : ∀ w ∈ (mt_VC.getD 10 []).flatMap (mx_vcw (mt_ow.getD 10 "")), w ∈ mt_tbl := mx_in [] (by decide +kernel)
theorem mt_vw11 : ∀ w ∈ (mt_VC.getD 11 []).flatMap (mx_vcw (mt_ow.getD 11 "")), w ∈ mt_tbl := mx_in [] (by decide +kernel)
theorem mt_vw12 : ∀ w ∈ (mt_VC.getD 12 []).flatMap (mx_vcw (mt_ow.getD 12 "")), w ∈ mt_tbl := mx_in [] (by decide +kernel)
theorem mt_vw13 : ∀ w ∈ (mt_VC.getD 13 []).flatMap (mx_vcw (mt_ow.getD 13 "")), w ∈ mt_tbl := mx_in [] (by decide +kernel)
theorem mt_vw14 : ∀ w ∈ (mt_VC.getD 14 []).flatMap (mx_vcw (mt_ow.getD 14 "")), w ∈ mt_tbl := mx_in [432, 433, 434, 132, 439, 440, 441, 132, 443, 444, 445, 132, 485, 486, 487, 132, 686, 687, 688, 135, 728, 729, 730, 132, 748, 749, 750, 132, 947, 948, 949, 145, 951, 334, 335, 135, 953, 734, 735, 135, 1377, 1378, 1379, 134, 1402, 1343, 1344, 134, 1403, 1405, 41, 145, 1407, 547, 548, 134] (by decide +kernel)
theorem mt_vw15 : ∀ w ∈ (mt_VC.getD 15 []).flatMap (mx_vcw (mt_ow.getD 15 "")), w ∈ mt_tbl := mx_in [] (by decide +kernel)
theorem mt_vw16 : ∀ w ∈ (mt_VC.getD 16 []).flatMap (mx_vcw (mt_ow.getD 16 "")), w ∈ mt_tbl := mx_in [] (by decide +kernel)
theorem mt_vw17 : ∀ w ∈ (mt_VC.getD 17 []).flatMap (mx_vcw (mt_ow.getD 17 "")), w ∈ mt_tbl := mx_in [] (by decide +kernel)
theorem mt_vw18 : ∀ w ∈ (mt_VC.getD 18 []).flatMap (mx_vcw (mt_ow.getD 18 "")), w ∈ mt_tbl := mx_in [818, 820, 14, 150, 915, 917, 18, 150, 958, 959, 960, 150, 919, 920, 921, 139, 923, 924, 925, 139, 936, 937, 938, 152, 940, 941, 942, 150, 993, 994, 995, 152, 1147, 872, 873, 139, 1194, 1195, 1196, 150, 1260, 1244, 1245, 152, 1261, 1239, 1240, 152, 1293, 1191, 1192, 150, 1294, 1295, 1296, 139, 1337, 547, 548, 134, 1408, 1410, 42, 150, 1342, 1343, 1344, 134, 1373, 1374, 1375, 145, 1413, 1414, 1415, 152] (by decide +kernel)
theorem mt_vw19 : ∀ w ∈ (mt_VC.getD 19 []).flatMap (mx_vcw (mt_ow.getD 19 "")), w ∈ mt_tbl := mx_in [817, 687, 688, 135, 870, 334, 335, 135] (by decide +kernel)
theorem mt_vw20 : ∀ w ∈ (mt_VC.getD 20 []).flatMap (mx_vcw (mt_ow.getD 20 "")), w ∈ mt_tbl := mx_in [871, 872, 873, 139, 1211, 937, 938, 152, 1242, 1208, 1209, 152, 1417, 547, 548, 134] (by decide +kernel)
theorem mt_vw21 : ∀ w ∈ (mt_VC.getD 21 []).flatMap (mx_vcw (mt_ow.getD 21 "")), w ∈ mt_tbl := mx_in [] (by decide +kernel)
theorem mt_vw22 : ∀ w ∈ (mt_VC.getD 22 []).flatMap (mx_vcw (mt_ow.getD 22 "")), w ∈ mt_tbl := mx_in [] (by decide +kernel)
theorem mt_vw23 : ∀ w ∈ (mt_VC.getD 23 []).flatMap (mx_vcw (mt_ow.getD 23 "")), w ∈ mt_tbl := mx_in [1011, 308, 309, 132, 1014, 1015, 1016, 132, 1039, 440, 441, 132, 1040, 1042, 23, 155, 1044, 1046, 24, 155, 1137, 1139, 26, 155, 1048, 433, 434, 132, 1055, 444, 445, 132, 1049, 1050, 1051, 132, 1152, 1154, 27, 155, 1159, 1161, 28, 155, 1202, 1204, 32, 155, 1221, 1223, 33, 155, 1247, 1249, 35, 155, 1262, 1264, 36, 155, 1163, 920, 921, 139, 1164, 924, 925, 139, 1166, 1168, 29, 156, 1207, 1208, 1209, 152, 1215, 1216, 1217, 150, 1220, 941, 942, 150, 1238, 1239, 1240, 152, 1243, 1244, 1245, 152, 1228, 1229, 1230, 139, 1251, 1252, 1253, 139, 1256, 1257, 1258, 150, 1267, 959, 960, 150] (by decide +kernel)
theorem mt_vw24 : ∀ w ∈ (mt_VC.getD 24 []).flatMap (mx_vcw (mt_ow.getD 24 "")), w ∈ mt_tbl := mx_in [1130, 1132, 25, 156, 1091, 729, 730, 132, 1092, 433, 434, 132, 1099, 1050, 1051, 132, 1098, 444, 445, 132, 1096, 440, 441, 132, 1120, 687, 688, 135, 1170, 1172, 30, 156, 1198, 920, 921, 139, 1199, 924, 925, 139, 1201, 1168, 29, 156, 1174, 1175, 1176, 152, 1178, 1180, 31, 156, 1190, 1191, 1192, 150, 1182, 334, 335, 135, 1183, 948, 949, 145, 1184, 1185, 1186, 145] (by decide +kernel)
theorem mt_vw25 : ∀ w ∈ (mt_VC.getD 25 []).flatMap (mx_vcw (mt_ow.getD 25 "")), w ∈ mt_tbl := mx_in [1571, 1573, 43, 140, 1575, 1577, 44, 140, 1612, 1614, 49, 140, 1616, 1618, 50, 140, 1658, 1660, 60, 140, 1662, 1664, 61, 140, 1734, 1736, 77, 140, 1722, 1724, 74, 140, 1738, 1740, 78, 140, 1579, 1581, 45, 140, 1592, 1594, 46, 140, 1599, 1601, 47, 140, 1605, 1607, 48, 140, 1620, 1622, 51, 140, 1638, 1640, 55, 140, 1624, 1626, 52, 140, 1628, 1630, 53, 140, 1633, 1635, 54, 140, 1642, 1644, 56, 140, 1646, 1648, 57, 140, 1654, 1656, 59, 140, 1650, 1652, 58, 140, 1666, 1668, 62, 140, 1673, 1675, 63, 140, 1680, 1682, 64, 140, 1730, 1732, 76, 140, 1684, 1686, 65, 140, 1698, 1700, 68, 140, 1702, 1704, 69, 140, 1718, 1720, 73, 140, 1726, 1728, 75, 140, 1688, 1690, 66, 140, 1693, 1695, 67, 140, 1706, 1708, 70, 140, 1710, 1712, 71, 140, 1714, 1716, 72, 140, 1746, 1748, 79, 140, 1750, 1752, 80, 140, 1754, 1756, 81, 140, 1758, 1760, 82, 140, 1762, 1764, 83, 140, 1774, 1776, 84, 140, 1778, 1780, 85, 140, 1842, 1844, 98, 140, 1846, 1848, 99, 140, 1782, 1784, 86, 140, 1786, 1788, 87, 140, 1790, 1792, 88, 140, 1794, 1796, 89, 140, 1798, 1800, 90, 140, 1834, 1836, 96, 140, 1807, 1809, 92, 140, 1838, 1840, 97, 140, 1803, 1805, 91, 140, 1811, 1813, 93, 140, 1815, 1817, 94, 140, 1825, 1827, 95, 140, 1850, 1852, 100, 140, 1890, 1892, 110, 140, 1894, 1896, 111, 140, 1906, 1908, 114, 140, 1854, 1856, 101, 140, 1858, 1860, 102, 140, 1862, 1864, 103, 140, 1870, 1872, 105, 140, 1886, 1888, 109, 140, 1866, 1868, 104, 140, 1874, 1876, 106, 140, 1882, 1884, 108, 140, 1878, 1880, 107, 140, 1898, 1900, 112, 140, 1902, 1904, 113, 140, 1910, 1912, 115, 140, 1914, 1916, 116, 140, 1922, 1924, 117, 140, 1926, 1928, 118, 140, 1930, 1932, 119, 140, 1934, 1936, 120, 140, 1938, 1940, 121, 140, 1942, 1944, 122, 140, 1962, 1964, 123, 140, 1966, 1968, 124, 140, 1970, 1972, 125, 140, 1978, 1980, 127, 140, 1982, 1984, 128, 140, 1974, 1976, 126, 140, 1986, 1988, 129, 140] (by decide +kernel)
theorem mt_vw_all (o : Nat) (ho : o < 26) : ∀ w ∈ (mt_VC.getD o []).flatMap (mx_vcw (mt_ow.getD o "")), w ∈ mt_tbl := by
  match o, ho with
  | 0, _ => exact mt_vw0
  | 1, _ => exact mt_vw1
  | 2, _ => exact mt_vw2
  | 3, _ => exact mt_vw3
  | 4, _ => exact mt_vw4
  | 5, _ => exact mt_vw5
  | 6, _ => exact mt_vw6
  | 7, _ => exact mt_vw7
  | 8, _ => exact mt_vw8
  | 9, _ => exact mt_vw9
  | 10, _ => exact mt_vw10
  | 11, _ => exact mt_vw11
  | 12, _ => exact mt_vw12
  | 13, _ => exact mt_vw13
  | 14, _ => exact mt_vw14
  | 15, _ => exact mt_vw15
  | 16, _ => exact mt_vw16
  | 17, _ => exact mt_vw17
  | 18, _ => exact mt_vw18
  | 19, _ => exact mt_vw19
  | 20, _ => exact mt_vw20
  | 21, _ => exact mt_vw21
  | 22, _ => exact mt_vw22
  | 23, _ => exact mt_vw23
  | 24, _ => exact mt_vw24
  | 25, _ => exact mt_vw25
  | _ + 26, h => exact absurd h (by omega)
