def mt_st : List (String × String × String × Value) := [("java/lang/String", "COMPACT_STRINGS", "Z", .int 1), ("java/util/ArrayList", "DEFAULTCAPACITY_EMPTY_ELEMENTDATA", "[Ljava/lang/Object;", .ref 2), ("jdk/internal/util/Preconditions", "SIOOBE_FORMATTER", "Ljava/util/function/BiFunction;", .retAddr 0), ("PeopleStore$Attribute", "KINDS", "[I", .ref 3), ("PeopleStore", "SORT_KEYS", "[I", .ref 4), ("java/lang/Integer", "DigitOnes", "[B", .ref 5), ("java/lang/Integer", "DigitTens", "[B", .ref 6), ("java/lang/StringUTF16", "$assertionsDisabled", "Z", .int 1), ("java/lang/StringUTF16", "HI_BYTE_SHIFT", "I", .int 0), ("java/lang/StringUTF16", "LO_BYTE_SHIFT", "I", .int 8)]
def mt_SG : List (List (Nat × Nat)) := [[],
  [(131, 4)],
  [],
  [],
  [(18, 0)],
  [(44, 7), (59, 8), (63, 9), (403, 5), (407, 6)],
  [(39, 1)],
  [],
  [],
  [(38, 0), (1053, 2)],
  [],
  [],
  [],
  [],
  [],
  [],
  [],
  [],
  [],
  [(23, 3)],
  [],
  [],
  [(83, 5), (87, 6)],
  [],
  [],
  []]
def mt_s0 : String × String × String × Value := ("", "", "", .null)
def mx_sgw (own : String) (q : Nat × Nat) : List Cond := [.fieldLink own q.1 (mt_st.getD q.2 mt_s0).1 (mt_st.getD q.2 mt_s0).2.1 (mt_st.getD q.2 mt_s0).2.2.1]
theorem mt_gw0 : ∀ w ∈ (mt_SG.getD 0 []).flatMap (mx_sgw (mt_ow.getD 0 "")), w ∈ mt_tbl := mx_in [] (by decide +kernel)
theorem mt_gw1 : ∀ w ∈ (mt_SG.getD 1 []).flatMap (mx_sgw (mt_ow.getD 1 "")), w ∈ mt_tbl := mx_in [1278] (by decide +kernel)
theorem mt_gw2 : ∀ w ∈ (mt_SG.getD 2 []).flatMap (mx_sgw (mt_ow.getD 2 "")), w ∈ mt_tbl := mx_in [] (by decide +kernel)
theorem mt_gw3 : ∀ w ∈ (mt_SG.getD 3 []).flatMap (mx_sgw (mt_ow.getD 3 "")), w ∈ mt_tbl := mx_in [] (by decide +kernel)
theorem mt_gw4 : ∀ w ∈ (mt_SG.getD 4 []).flatMap (mx_sgw (mt_ow.getD 4 "")), w ∈ mt_tbl := mx_in [180] (by decide +kernel)
theorem mt_gw5 : ∀ w ∈ (mt_SG.getD 5 []).flatMap (mx_sgw (mt_ow.getD 5 "")), w ∈ mt_tbl := mx_in [385, 387, 389, 1400, 1401] (by decide +kernel)
theorem mt_gw6 : ∀ w ∈ (mt_SG.getD 6 []).flatMap (mx_sgw (mt_ow.getD 6 "")), w ∈ mt_tbl := mx_in [243] (by decide +kernel)
theorem mt_gw7 : ∀ w ∈ (mt_SG.getD 7 []).flatMap (mx_sgw (mt_ow.getD 7 "")), w ∈ mt_tbl := mx_in [] (by decide +kernel)
theorem mt_gw8 : ∀ w ∈ (mt_SG.getD 8 []).flatMap (mx_sgw (mt_ow.getD 8 "")), w ∈ mt_tbl := mx_in [] (by decide +kernel)
theorem mt_gw9 : ∀ w ∈ (mt_SG.getD 9 []).flatMap (mx_sgw (mt_ow.getD 9 "")), w ∈ mt_tbl := mx_in [332, 374] (by decide +kernel)
theorem mt_gw10 : ∀ w ∈ (mt_SG.getD 10 []).flatMap (mx_sgw (mt_ow.getD 10 "")), w ∈ mt_tbl := mx_in [] (by decide +kernel)
theorem mt_gw11 : ∀ w ∈ (mt_SG.getD 11 []).flatMap (mx_sgw (mt_ow.getD 11 "")), w ∈ mt_tbl := mx_in [] (by decide +kernel)
theorem mt_gw12 : ∀ w ∈ (mt_SG.getD 12 []).flatMap (mx_sgw (mt_ow.getD 12 "")), w ∈ mt_tbl := mx_in [] (by decide +kernel)
theorem mt_gw13 : ∀ w ∈ (mt_SG.getD 13 []).flatMap (mx_sgw (mt_ow.getD 13 "")), w ∈ mt_tbl := mx_in [] (by decide +kernel)
theorem mt_gw14 : ∀ w ∈ (mt_SG.getD 14 []).flatMap (mx_sgw (mt_ow.getD 14 "")), w ∈ mt_tbl := mx_in [] (by decide +kernel)
theorem mt_gw15 : ∀ w ∈ (mt_SG.getD 15 []).flatMap (mx_sgw (mt_ow.getD 15 "")), w ∈ mt_tbl := mx_in [] (by decide +kernel)
theorem mt_gw16 : ∀ w ∈ (mt_SG.getD 16 []).flatMap (mx_sgw (mt_ow.getD 16 "")), w ∈ mt_tbl := mx_in [] (by decide +kernel)
theorem mt_gw17 : ∀ w ∈ (mt_SG.getD 17 []).flatMap (mx_sgw (mt_ow.getD 17 "")), w ∈ mt_tbl := mx_in [] (by decide +kernel)
theorem mt_gw18 : ∀ w ∈ (mt_SG.getD 18 []).flatMap (mx_sgw (mt_ow.getD 18 "")), w ∈ mt_tbl := mx_in [] (by decide +kernel)
theorem mt_gw19 : ∀ w ∈ (mt_SG.getD 19 []).flatMap (mx_sgw (mt_ow.getD 19 "")), w ∈ mt_tbl := mx_in [868] (by decide +kernel)
theorem mt_gw20 : ∀ w ∈ (mt_SG.getD 20 []).flatMap (mx_sgw (mt_ow.getD 20 "")), w ∈ mt_tbl := mx_in [] (by decide +kernel)
theorem mt_gw21 : ∀ w ∈ (mt_SG.getD 21 []).flatMap (mx_sgw (mt_ow.getD 21 "")), w ∈ mt_tbl := mx_in [] (by decide +kernel)
theorem mt_gw22 : ∀ w ∈ (mt_SG.getD 22 []).flatMap (mx_sgw (mt_ow.getD 22 "")), w ∈ mt_tbl := mx_in [1390, 1392] (by decide +kernel)
theorem mt_gw23 : ∀ w ∈ (mt_SG.getD 23 []).flatMap (mx_sgw (mt_ow.getD 23 "")), w ∈ mt_tbl := mx_in [] (by decide +kernel)
theorem mt_gw24 : ∀ w ∈ (mt_SG.getD 24 []).flatMap (mx_sgw (mt_ow.getD 24 "")), w ∈ mt_tbl := mx_in [] (by decide +kernel)
theorem mt_gw25 : ∀ w ∈ (mt_SG.getD 25 []).flatMap (mx_sgw (mt_ow.getD 25 "")), w ∈ mt_tbl := mx_in [] (by decide +kernel)
theorem mt_gw_all (o : Nat) (ho : o < 26) : ∀ w ∈ (mt_SG.getD o []).flatMap (mx_sgw (mt_ow.getD o "")), w ∈ mt_tbl := by
  match o, ho with
  | 0, _ => exact mt_gw0
  | 1, _ => exact mt_gw1
  | 2, _ => exact mt_gw2
  | 3, _ => exact mt_gw3
  | 4, _ => exact mt_gw4
  | 5, _ => exact mt_gw5
  | 6, _ => exact mt_gw6
  | 7, _ => exact mt_gw7
  | 8, _ => exact mt_gw8
  | 9, _ => exact mt_gw9
  | 10, _ => exact mt_gw10
  | 11, _ => exact mt_gw11
  | 12, _ => exact mt_gw12
  | 13, _ => exact mt_gw13
  | 14, _ => exact mt_gw14
  | 15, _ => exact mt_gw15
  | 16, _ => exact mt_gw16
  | 17, _ => exact mt_gw17
  | 18, _ => exact mt_gw18
  | 19, _ => exact mt_gw19
  | 20, _ => exact mt_gw20
  | 21, _ => exact mt_gw21
  | 22, _ => exact mt_gw22
  | 23, _ => exact mt_gw23
  | 24, _ => exact mt_gw24
  | 25, _ => exact mt_gw25
  | _ + 26, h => exact absurd h (by omega)
def mt_sg (mi idx : Nat) : Option Value := (mt_row mt_SG mi idx).bind fun k => (mt_st[k]?).map fun q => q.2.2.2
def mt_LI : List (List (Nat × Int32)) := [[],
  [],
  [],
  [],
  [(39, 2147483647)],
  [(20, 1073741823), (227, 65536)],
  [],
  [],
  [],
  [],
  [],
  [],
  [],
  [(110, 55232), (76, 56320)],
  [],
  [(200, 2147483639)],
  [],
  [],
  [],
  [],
  [],
  [],
  [],
  [],
  [],
  []]
def mx_liw (own : String) (q : Nat × Int32) : List Cond := [.constant own q.1 q.2]
theorem mt_iw0 : ∀ w ∈ (mt_LI.getD 0 []).flatMap (mx_liw (mt_ow.getD 0 "")), w ∈ mt_tbl := mx_in [] (by decide +kernel)
theorem mt_iw1 : ∀ w ∈ (mt_LI.getD 1 []).flatMap (mx_liw (mt_ow.getD 1 "")), w ∈ mt_tbl := mx_in [] (by decide +kernel)
theorem mt_iw2 : ∀ w ∈ (mt_LI.getD 2 []).flatMap (mx_liw (mt_ow.getD 2 "")), w ∈ mt_tbl := mx_in [] (by decide +kernel)
theorem mt_iw3 : ∀ w ∈ (mt_LI.getD 3 []).flatMap (mx_liw (mt_ow.getD 3 "")), w ∈ mt_tbl := mx_in [] (by decide +kernel)
theorem mt_iw4 : ∀ w ∈ (mt_LI.getD 4 []).flatMap (mx_liw (mt_ow.getD 4 "")), w ∈ mt_tbl := mx_in [513] (by decide +kernel)
theorem mt_iw5 : ∀ w ∈ (mt_LI.getD 5 []).flatMap (mx_liw (mt_ow.getD 5 "")), w ∈ mt_tbl := mx_in [188, 361] (by decide +kernel)
theorem mt_iw6 : ∀ w ∈ (mt_LI.getD 6 []).flatMap (mx_liw (mt_ow.getD 6 "")), w ∈ mt_tbl := mx_in [] (by decide +kernel)
theorem mt_iw7 : ∀ w ∈ (mt_LI.getD 7 []).flatMap (mx_liw (mt_ow.getD 7 "")), w ∈ mt_tbl := mx_in [] (by decide +kernel)
theorem mt_iw8 : ∀ w ∈ (mt_LI.getD 8 []).flatMap (mx_liw (mt_ow.getD 8 "")), w ∈ mt_tbl := mx_in [] (by decide +kernel)
theorem mt_iw9 : ∀ w ∈ (mt_LI.getD 9 []).flatMap (mx_liw (mt_ow.getD 9 "")), w ∈ mt_tbl := mx_in [] (by decide +kernel)
theorem mt_iw10 : ∀ w ∈ (mt_LI.getD 10 []).flatMap (mx_liw (mt_ow.getD 10 "")), w ∈ mt_tbl := mx_in [] (by decide +kernel)
theorem mt_iw11 : ∀ w ∈ (mt_LI.getD 11 []).flatMap (mx_liw (mt_ow.getD 11 "")), w ∈ mt_tbl := mx_in [] (by decide +kernel)
theorem mt_iw12 : ∀ w ∈ (mt_LI.getD 12 []).flatMap (mx_liw (mt_ow.getD 12 "")), w ∈ mt_tbl := mx_in [] (by decide +kernel)
theorem mt_iw13 : ∀ w ∈ (mt_LI.getD 13 []).flatMap (mx_liw (mt_ow.getD 13 "")), w ∈ mt_tbl := mx_in [400, 404] (by decide +kernel)
theorem mt_iw14 : ∀ w ∈ (mt_LI.getD 14 []).flatMap (mx_liw (mt_ow.getD 14 "")), w ∈ mt_tbl := mx_in [] (by decide +kernel)
theorem mt_iw15 : ∀ w ∈ (mt_LI.getD 15 []).flatMap (mx_liw (mt_ow.getD 15 "")), w ∈ mt_tbl := mx_in [509] (by decide +kernel)
theorem mt_iw16 : ∀ w ∈ (mt_LI.getD 16 []).flatMap (mx_liw (mt_ow.getD 16 "")), w ∈ mt_tbl := mx_in [] (by decide +kernel)
theorem mt_iw17 : ∀ w ∈ (mt_LI.getD 17 []).flatMap (mx_liw (mt_ow.getD 17 "")), w ∈ mt_tbl := mx_in [] (by decide +kernel)
theorem mt_iw18 : ∀ w ∈ (mt_LI.getD 18 []).flatMap (mx_liw (mt_ow.getD 18 "")), w ∈ mt_tbl := mx_in [] (by decide +kernel)
theorem mt_iw19 : ∀ w ∈ (mt_LI.getD 19 []).flatMap (mx_liw (mt_ow.getD 19 "")), w ∈ mt_tbl := mx_in [] (by decide +kernel)
theorem mt_iw20 : ∀ w ∈ (mt_LI.getD 20 []).flatMap (mx_liw (mt_ow.getD 20 "")), w ∈ mt_tbl := mx_in [] (by decide +kernel)
theorem mt_iw21 : ∀ w ∈ (mt_LI.getD 21 []).flatMap (mx_liw (mt_ow.getD 21 "")), w ∈ mt_tbl := mx_in [] (by decide +kernel)
theorem mt_iw22 : ∀ w ∈ (mt_LI.getD 22 []).flatMap (mx_liw (mt_ow.getD 22 "")), w ∈ mt_tbl := mx_in [] (by decide +kernel)
theorem mt_iw23 : ∀ w ∈ (mt_LI.getD 23 []).flatMap (mx_liw (mt_ow.getD 23 "")), w ∈ mt_tbl := mx_in [] (by decide +kernel)
theorem mt_iw24 : ∀ w ∈ (mt_LI.getD 24 []).flatMap (mx_liw (mt_ow.getD 24 "")), w ∈ mt_tbl := mx_in [] (by decide +kernel)
theorem mt_iw25 : ∀ w ∈ (mt_LI.getD 25 []).flatMap (mx_liw (mt_ow.getD 25 "")), w ∈ mt_tbl := mx_in [] (by decide +kernel)
theorem mt_iw_all (o : Nat) (ho : o < 26) : ∀ w ∈ (mt_LI.getD o []).flatMap (mx_liw (mt_ow.getD o "")), w ∈ mt_tbl := by
  match o, ho with
  | 0, _ => exact mt_iw0
  | 1, _ => exact mt_iw1
  | 2, _ => exact mt_iw2
  | 3, _ => exact mt_iw3
  | 4, _ => exact mt_iw4
  | 5, _ => exact mt_iw5
  | 6, _ => exact mt_iw6
  | 7, _ => exact mt_iw7
  | 8, _ => exact mt_iw8
  | 9, _ => exact mt_iw9
  | 10, _ => exact mt_iw10
  | 11, _ => exact mt_iw11
  | 12, _ => exact mt_iw12
  | 13, _ => exact mt_iw13
  | 14, _ => exact mt_iw14
  | 15, _ => exact mt_iw15
  | 16, _ => exact mt_iw16
  | 17, _ => exact mt_iw17
  | 18, _ => exact mt_iw18
  | 19, _ => exact mt_iw19
  | 20, _ => exact mt_iw20
  | 21, _ => exact mt_iw21
  | 22, _ => exact mt_iw22
  | 23, _ => exact mt_iw23
  | 24, _ => exact mt_iw24
  | 25, _ => exact mt_iw25
  | _ + 26, h => exact absurd h (by omega)
def mt_LJ : List (List (Nat × Int64)) := [[],
  [],
  [],
  [],
  [],
  [],
  [],
  [],
  [],
  [],
  [],
  [],
  [],
  [],
  [],
  [],
  [],
  [],
  [],
  [],
  [],
  [],
  [],
  [],
  [],
  [(103, (-1)), (105, 27), (107, 96), (115, 10), (117, 48), (134, 407354), (140, 3217595), (225, 247), (227, 8604942188), (229, 276647), (231, 923), (233, 419), (235, 256863), (183, 22), (192, 16), (345, 1111), (347, 423), (327, 10631), (306, 209), (308, 194), (310, 344), (312, 329), (314, 536), (316, 158), (321, 152), (323, 383), (325, 450)]]
def mx_ljw (own : String) (q : Nat × Int64) : List Cond := [.constantLong own q.1 q.2]
theorem mt_jw0 : ∀ w ∈ (mt_LJ.getD 0 []).flatMap (mx_ljw (mt_ow.getD 0 "")), w ∈ mt_tbl := mx_in [] (by decide +kernel)
theorem mt_jw1 : ∀ w ∈ (mt_LJ.getD 1 []).flatMap (mx_ljw (mt_ow.getD 1 "")), w ∈ mt_tbl := mx_in [] (by decide +kernel)
theorem mt_jw2 : ∀ w ∈ (mt_LJ.getD 2 []).flatMap (mx_ljw (mt_ow.getD 2 "")), w ∈ mt_tbl := mx_in [] (by decide +kernel)
theorem mt_jw3 : ∀ w ∈ (mt_LJ.getD 3 []).flatMap (mx_ljw (mt_ow.getD 3 "")), w ∈ mt_tbl := mx_in [] (by decide +kernel)
theorem mt_jw4 : ∀ w ∈ (mt_LJ.getD 4 []).flatMap (mx_ljw (mt_ow.getD 4 "")), w ∈ mt_tbl := mx_in [] (by decide +kernel)
theorem mt_jw5 : ∀ w ∈ (mt_LJ.getD 5 []).flatMap (mx_ljw (mt_ow.getD 5 "")), w ∈ mt_tbl := mx_in [] (by decide +kernel)
theorem mt_jw6 : ∀ w ∈ (mt_LJ.getD 6 []).flatMap (mx_ljw (mt_ow.getD 6 "")), w ∈ mt_tbl := mx_in [] (by decide +kernel)
theorem mt_jw7 : ∀ w ∈ (mt_LJ.getD 7 []).flatMap (mx_ljw (mt_ow.getD 7 "")), w ∈ mt_tbl := mx_in [] (by decide +kernel)
theorem mt_jw8 : ∀ w ∈ (mt_LJ.getD 8 []).flatMap (mx_ljw (mt_ow.getD 8 "")), w ∈ mt_tbl := mx_in [] (by decide +kernel)
theorem mt_jw9 : ∀ w ∈ (mt_LJ.getD 9 []).flatMap (mx_ljw (mt_ow.getD 9 "")), w ∈ mt_tbl := mx_in [] (by decide +kernel)
theorem mt_jw10 : ∀ w ∈ (mt_LJ.getD 10 []).flatMap (mx_ljw (mt_ow.getD 10 "")), w ∈ mt_tbl := mx_in [] (by decide +kernel)
theorem mt_jw11 : ∀ w ∈ (mt_LJ.getD 11 []).flatMap (mx_ljw (mt_ow.getD 11 "")), w ∈ mt_tbl := mx_in [] (by decide +kernel)
theorem mt_jw12 : ∀ w ∈ (mt_LJ.getD 12 []).flatMap (mx_ljw (mt_ow.getD 12 "")), w ∈ mt_tbl := mx_in [] (by decide +kernel)
theorem mt_jw13 : ∀ w ∈ (mt_LJ.getD 13 []).flatMap (mx_ljw (mt_ow.getD 13 "")), w ∈ mt_tbl := mx_in [] (by decide +kernel)
theorem mt_jw14 : ∀ w ∈ (mt_LJ.getD 14 []).flatMap (mx_ljw (mt_ow.getD 14 "")), w ∈ mt_tbl := mx_in [] (by decide +kernel)
theorem mt_jw15 : ∀ w ∈ (mt_LJ.getD 15 []).flatMap (mx_ljw (mt_ow.getD 15 "")), w ∈ mt_tbl := mx_in [] (by decide +kernel)
theorem mt_jw16 : ∀ w ∈ (mt_LJ.getD 16 []).flatMap (mx_ljw (mt_ow.getD 16 "")), w ∈ mt_tbl := mx_in [] (by decide +kernel)
theorem mt_jw17 : ∀ w ∈ (mt_LJ.getD 17 []).flatMap (mx_ljw (mt_ow.getD 17 "")), w ∈ mt_tbl := mx_in [] (by decide +kernel)
theorem mt_jw18 : ∀ w ∈ (mt_LJ.getD 18 []).flatMap (mx_ljw (mt_ow.getD 18 "")), w ∈ mt_tbl := mx_in [] (by decide +kernel)
theorem mt_jw19 : ∀ w ∈ (mt_LJ.getD 19 []).flatMap (mx_ljw (mt_ow.getD 19 "")), w ∈ mt_tbl := mx_in [] (by decide +kernel)
theorem mt_jw20 : ∀ w ∈ (mt_LJ.getD 20 []).flatMap (mx_ljw (mt_ow.getD 20 "")), w ∈ mt_tbl := mx_in [] (by decide +kernel)
theorem mt_jw21 : ∀ w ∈ (mt_LJ.getD 21 []).flatMap (mx_ljw (mt_ow.getD 21 "")), w ∈ mt_tbl := mx_in [] (by decide +kernel)
theorem mt_jw22 : ∀ w ∈ (mt_LJ.getD 22 []).flatMap (mx_ljw (mt_ow.getD 22 "")), w ∈ mt_tbl := mx_in [] (by decide +kernel)
theorem mt_jw23 : ∀ w ∈ (mt_LJ.getD 23 []).flatMap (mx_ljw (mt_ow.getD 23 "")), w ∈ mt_tbl := mx_in [] (by decide +kernel)
theorem mt_jw24 : ∀ w ∈ (mt_LJ.getD 24 []).flatMap (mx_ljw (mt_ow.getD 24 "")), w ∈ mt_tbl := mx_in [] (by decide +kernel)
theorem mt_jw25 : ∀ w ∈ (mt_LJ.getD 25 []).flatMap (mx_ljw (mt_ow.getD 25 "")), w ∈ mt_tbl := mx_in [1596, 1597, 1598, 1603, 1604, 1632, 1637, 1670, 1671, 1672, 1677, 1678, 1679, 1692, 1697, 1832, 1833, 1802, 1819, 1820, 1821, 1822, 1823, 1824, 1829, 1830, 1831] (by decide +kernel)
theorem mt_jw_all (o : Nat) (ho : o < 26) : ∀ w ∈ (mt_LJ.getD o []).flatMap (mx_ljw (mt_ow.getD o "")), w ∈ mt_tbl := by
  match o, ho with
  | 0, _ => exact mt_jw0
  | 1, _ => exact mt_jw1
  | 2, _ => exact mt_jw2
  | 3, _ => exact mt_jw3
  | 4, _ => exact mt_jw4
  | 5, _ => exact mt_jw5
  | 6, _ => exact mt_jw6
  | 7, _ => exact mt_jw7
  | 8, _ => exact mt_jw8
  | 9, _ => exact mt_jw9
  | 10, _ => exact mt_jw10
  | 11, _ => exact mt_jw11
  | 12, _ => exact mt_jw12
  | 13, _ => exact mt_jw13
  | 14, _ => exact mt_jw14
  | 15, _ => exact mt_jw15
  | 16, _ => exact mt_jw16
  | 17, _ => exact mt_jw17
  | 18, _ => exact mt_jw18
  | 19, _ => exact mt_jw19
  | 20, _ => exact mt_jw20
  | 21, _ => exact mt_jw21
  | 22, _ => exact mt_jw22
  | 23, _ => exact mt_jw23
  | 24, _ => exact mt_jw24
  | 25, _ => exact mt_jw25
  | _ + 26, h => exact absurd h (by omega)
def mt_LS : List (List (Nat × String × Nat)) := [[],
  [],
  [(77, "{}[]():,.+-=\n", 7), (104, "\"\\/", 9), (61, "", 11)],
  [],
  [],
  [],
  [],
  [],
  [],
  [(7, "", 11)],
  [],
  [],
  [],
  [],
  [(16, "", 11), (44, "true", 13), (53, "false", 15)],
  [],
  [],
  [],
  [(188, "\":", 59), (176, ",\"mail\":[", 61)],
  [(7, "id", 17), (9, "version", 19), (11, "name", 21), (13, "age", 23), (15, "on", 25), (17, "mail", 27), (19, "v", 29), (21, "p", 31)],
  [(54, "", 11)],
  [],
  [],
  [],
  [(37, "and", 55), (43, "or", 57), (55, "not", 33), (125, "pr", 35), (127, "eq", 37), (129, "ne", 39), (131, "co", 41), (133, "sw", 43), (135, "ew", 45), (137, "gt", 47), (139, "ge", 49), (141, "lt", 51), (143, "le", 53)],
  []]
def mt_Ks : List (String × Nat × String × Nat) := (List.range 26).flatMap fun o => (mt_LS.getD o []).map fun q => (mt_ow.getD o "", q.1, q.2.1, q.2.2)
def mt_lc (mi idx : Nat) : Option Value := match mt_row mt_LI mi idx with
  | some v => some (.int v)
  | none => (mt_row mt_LS mi idx).map fun q => .ref q.2
def mt_lj (mi idx : Nat) : Option Int64 := mt_row mt_LJ mi idx
def mt_NW : List (List (Nat × Nat)) := [[(7, 0), (10, 11)],
  [(7, 1), (16, 3), (30, 2), (171, 5), (155, 4)],
  [(23, 2)],
  [(18, 5)],
  [],
  [],
  [],
  [],
  [],
  [],
  [],
  [],
  [],
  [],
  [(7, 4), (85, 6)],
  [],
  [],
  [],
  [(13, 7), (25, 4), (9, 3), (70, 8)],
  [],
  [(51, 3), (30, 6), (8, 8)],
  [],
  [],
  [(12, 9)],
  [(8, 10), (92, 4)],
  []]
def mx_nww (own : String) (q : Nat × Nat) : List Cond := [.classLink own q.1 (mx_cn q.2), .instantiable (mx_cn q.2) (mt_cq q.2).length, .initialized (mx_cn q.2)]
theorem mt_nv0 : ∀ w ∈ (mt_NW.getD 0 []).flatMap (mx_nww (mt_ow.getD 0 "")), w ∈ mt_tbl := mx_in [157, 158, 131, 1434, 1435, 140] (by decide +kernel)
theorem mt_nv1 : ∀ w ∈ (mt_NW.getD 1 []).flatMap (mx_nww (mt_ow.getD 1 "")), w ∈ mt_tbl := mx_in [165, 166, 132, 231, 232, 139, 257, 172, 134, 667, 595, 135, 998, 449, 145] (by decide +kernel)
theorem mt_nv2 : ∀ w ∈ (mt_NW.getD 2 []).flatMap (mx_nww (mt_ow.getD 2 "")), w ∈ mt_tbl := mx_in [171, 172, 134] (by decide +kernel)
theorem mt_nv3 : ∀ w ∈ (mt_NW.getD 3 []).flatMap (mx_nww (mt_ow.getD 3 "")), w ∈ mt_tbl := mx_in [594, 595, 135] (by decide +kernel)
theorem mt_nv4 : ∀ w ∈ (mt_NW.getD 4 []).flatMap (mx_nww (mt_ow.getD 4 "")), w ∈ mt_tbl := mx_in [] (by decide +kernel)
theorem mt_nv5 : ∀ w ∈ (mt_NW.getD 5 []).flatMap (mx_nww (mt_ow.getD 5 "")), w ∈ mt_tbl := mx_in [] (by decide +kernel)
theorem mt_nv6 : ∀ w ∈ (mt_NW.getD 6 []).flatMap (mx_nww (mt_ow.getD 6 "")), w ∈ mt_tbl := mx_in [] (by decide +kernel)
theorem mt_nv7 : ∀ w ∈ (mt_NW.getD 7 []).flatMap (mx_nww (mt_ow.getD 7 "")), w ∈ mt_tbl := mx_in [] (by decide +kernel)
theorem mt_nv8 : ∀ w ∈ (mt_NW.getD 8 []).flatMap (mx_nww (mt_ow.getD 8 "")), w ∈ mt_tbl := mx_in [] (by decide +kernel)
theorem mt_nv9 : ∀ w ∈ (mt_NW.getD 9 []).flatMap (mx_nww (mt_ow.getD 9 "")), w ∈ mt_tbl := mx_in [] (by decide +kernel)
theorem mt_nv10 : ∀ w ∈ (mt_NW.getD 10 []).flatMap (mx_nww (mt_ow.getD 10 "")), w ∈ mt_tbl := mx_in [] (by decide +kernel)
theorem mt_nv11 : ∀ w ∈ (mt_NW.getD 11 []).flatMap (mx_nww (mt_ow.getD 11 "")), w ∈ mt_tbl := mx_in [] (by decide +kernel)
theorem mt_nv12 : ∀ w ∈ (mt_NW.getD 12 []).flatMap (mx_nww (mt_ow.getD 12 "")), w ∈ mt_tbl := mx_in [] (by decide +kernel)
theorem mt_nv13 : ∀ w ∈ (mt_NW.getD 13 []).flatMap (mx_nww (mt_ow.getD 13 "")), w ∈ mt_tbl := mx_in [] (by decide +kernel)
theorem mt_nv14 : ∀ w ∈ (mt_NW.getD 14 []).flatMap (mx_nww (mt_ow.getD 14 "")), w ∈ mt_tbl := mx_in [448, 449, 145, 695, 696, 149] (by decide +kernel)
theorem mt_nv15 : ∀ w ∈ (mt_NW.getD 15 []).flatMap (mx_nww (mt_ow.getD 15 "")), w ∈ mt_tbl := mx_in [] (by decide +kernel)
theorem mt_nv16 : ∀ w ∈ (mt_NW.getD 16 []).flatMap (mx_nww (mt_ow.getD 16 "")), w ∈ mt_tbl := mx_in [] (by decide +kernel)
theorem mt_nv17 : ∀ w ∈ (mt_NW.getD 17 []).flatMap (mx_nww (mt_ow.getD 17 "")), w ∈ mt_tbl := mx_in [] (by decide +kernel)
theorem mt_nv18 : ∀ w ∈ (mt_NW.getD 18 []).flatMap (mx_nww (mt_ow.getD 18 "")), w ∈ mt_tbl := mx_in [766, 767, 150, 768, 449, 145, 774, 232, 139, 935, 837, 152] (by decide +kernel)
theorem mt_nv19 : ∀ w ∈ (mt_NW.getD 19 []).flatMap (mx_nww (mt_ow.getD 19 "")), w ∈ mt_tbl := mx_in [] (by decide +kernel)
theorem mt_nv20 : ∀ w ∈ (mt_NW.getD 20 []).flatMap (mx_nww (mt_ow.getD 20 "")), w ∈ mt_tbl := mx_in [828, 232, 139, 830, 696, 149, 836, 837, 152] (by decide +kernel)
theorem mt_nv21 : ∀ w ∈ (mt_NW.getD 21 []).flatMap (mx_nww (mt_ow.getD 21 "")), w ∈ mt_tbl := mx_in [] (by decide +kernel)
theorem mt_nv22 : ∀ w ∈ (mt_NW.getD 22 []).flatMap (mx_nww (mt_ow.getD 22 "")), w ∈ mt_tbl := mx_in [] (by decide +kernel)
theorem mt_nv23 : ∀ w ∈ (mt_NW.getD 23 []).flatMap (mx_nww (mt_ow.getD 23 "")), w ∈ mt_tbl := mx_in [1012, 1013, 155] (by decide +kernel)
theorem mt_nv24 : ∀ w ∈ (mt_NW.getD 24 []).flatMap (mx_nww (mt_ow.getD 24 "")), w ∈ mt_tbl := mx_in [1062, 1063, 156, 1126, 449, 145] (by decide +kernel)
theorem mt_nv25 : ∀ w ∈ (mt_NW.getD 25 []).flatMap (mx_nww (mt_ow.getD 25 "")), w ∈ mt_tbl := mx_in [] (by decide +kernel)
theorem mt_nv_all (o : Nat) (ho : o < 26) : ∀ w ∈ (mt_NW.getD o []).flatMap (mx_nww (mt_ow.getD o "")), w ∈ mt_tbl := by
  match o, ho with
  | 0, _ => exact mt_nv0
  | 1, _ => exact mt_nv1
  | 2, _ => exact mt_nv2
  | 3, _ => exact mt_nv3
  | 4, _ => exact mt_nv4
  | 5, _ => exact mt_nv5
  | 6, _ => exact mt_nv6
  | 7, _ => exact mt_nv7
  | 8, _ => exact mt_nv8
  | 9, _ => exact mt_nv9
  | 10, _ => exact mt_nv10
  | 11, _ => exact mt_nv11
  | 12, _ => exact mt_nv12
  | 13, _ => exact mt_nv13
  | 14, _ => exact mt_nv14
  | 15, _ => exact mt_nv15
  | 16, _ => exact mt_nv16
  | 17, _ => exact mt_nv17
  | 18, _ => exact mt_nv18
  | 19, _ => exact mt_nv19
  | 20, _ => exact mt_nv20
  | 21, _ => exact mt_nv21
  | 22, _ => exact mt_nv22
  | 23, _ => exact mt_nv23
  | 24, _ => exact mt_nv24
  | 25, _ => exact mt_nv25
  | _ + 26, h => exact absurd h (by omega)
def mt_nw (mi idx : Nat) : Option Nat := mt_row mt_NW mi idx
def mt_AN : List (List (Nat × String)) := [[],
  [],
  [],
  [],
  [],
  [],
  [(7, "java/lang/Object")],
  [],
  [],
  [],
  [],
  [],
  [],
  [],
  [],
  [],
  [(2, "java/lang/Object")],
  [],
  [],
  [],
  [],
  [],
  [],
  [],
  [],
  []]
def mx_anw (own : String) (q : Nat × String) : List Cond := [.classLink own q.1 q.2]
theorem mt_av0 : ∀ w ∈ (mt_AN.getD 0 []).flatMap (mx_anw (mt_ow.getD 0 "")), w ∈ mt_tbl := mx_in [] (by decide +kernel)
theorem mt_av1 : ∀ w ∈ (mt_AN.getD 1 []).flatMap (mx_anw (mt_ow.getD 1 "")), w ∈ mt_tbl := mx_in [] (by decide +kernel)
theorem mt_av2 : ∀ w ∈ (mt_AN.getD 2 []).flatMap (mx_anw (mt_ow.getD 2 "")), w ∈ mt_tbl := mx_in [] (by decide +kernel)
theorem mt_av3 : ∀ w ∈ (mt_AN.getD 3 []).flatMap (mx_anw (mt_ow.getD 3 "")), w ∈ mt_tbl := mx_in [] (by decide +kernel)
theorem mt_av4 : ∀ w ∈ (mt_AN.getD 4 []).flatMap (mx_anw (mt_ow.getD 4 "")), w ∈ mt_tbl := mx_in [] (by decide +kernel)
theorem mt_av5 : ∀ w ∈ (mt_AN.getD 5 []).flatMap (mx_anw (mt_ow.getD 5 "")), w ∈ mt_tbl := mx_in [] (by decide +kernel)
theorem mt_av6 : ∀ w ∈ (mt_AN.getD 6 []).flatMap (mx_anw (mt_ow.getD 6 "")), w ∈ mt_tbl := mx_in [914] (by decide +kernel)
theorem mt_av7 : ∀ w ∈ (mt_AN.getD 7 []).flatMap (mx_anw (mt_ow.getD 7 "")), w ∈ mt_tbl := mx_in [] (by decide +kernel)
theorem mt_av8 : ∀ w ∈ (mt_AN.getD 8 []).flatMap (mx_anw (mt_ow.getD 8 "")), w ∈ mt_tbl := mx_in [] (by decide +kernel)
theorem mt_av9 : ∀ w ∈ (mt_AN.getD 9 []).flatMap (mx_anw (mt_ow.getD 9 "")), w ∈ mt_tbl := mx_in [] (by decide +kernel)
theorem mt_av10 : ∀ w ∈ (mt_AN.getD 10 []).flatMap (mx_anw (mt_ow.getD 10 "")), w ∈ mt_tbl := mx_in [] (by decide +kernel)
theorem mt_av11 : ∀ w ∈ (mt_AN.getD 11 []).flatMap (mx_anw (mt_ow.getD 11 "")), w ∈ mt_tbl := mx_in [] (by decide +kernel)
theorem mt_av12 : ∀ w ∈ (mt_AN.getD 12 []).flatMap (mx_anw (mt_ow.getD 12 "")), w ∈ mt_tbl := mx_in [] (by decide +kernel)
theorem mt_av13 : ∀ w ∈ (mt_AN.getD 13 []).flatMap (mx_anw (mt_ow.getD 13 "")), w ∈ mt_tbl := mx_in [] (by decide +kernel)
theorem mt_av14 : ∀ w ∈ (mt_AN.getD 14 []).flatMap (mx_anw (mt_ow.getD 14 "")), w ∈ mt_tbl := mx_in [] (by decide +kernel)
theorem mt_av15 : ∀ w ∈ (mt_AN.getD 15 []).flatMap (mx_anw (mt_ow.getD 15 "")), w ∈ mt_tbl := mx_in [] (by decide +kernel)
theorem mt_av16 : ∀ w ∈ (mt_AN.getD 16 []).flatMap (mx_anw (mt_ow.getD 16 "")), w ∈ mt_tbl := mx_in [912] (by decide +kernel)
theorem mt_av17 : ∀ w ∈ (mt_AN.getD 17 []).flatMap (mx_anw (mt_ow.getD 17 "")), w ∈ mt_tbl := mx_in [] (by decide +kernel)
theorem mt_av18 : ∀ w ∈ (mt_AN.getD 18 []).flatMap (mx_anw (mt_ow.getD 18 "")), w ∈ mt_tbl := mx_in [] (by decide +kernel)
theorem mt_av19 : ∀ w ∈ (mt_AN.getD 19 []).flatMap (mx_anw (mt_ow.getD 19 "")), w ∈ mt_tbl := mx_in [] (by decide +kernel)
theorem mt_av20 : ∀ w ∈ (mt_AN.getD 20 []).flatMap (mx_anw (mt_ow.getD 20 "")), w ∈ mt_tbl := mx_in [] (by decide +kernel)
theorem mt_av21 : ∀ w ∈ (mt_AN.getD 21 []).flatMap (mx_anw (mt_ow.getD 21 "")), w ∈ mt_tbl := mx_in [] (by decide +kernel)
theorem mt_av22 : ∀ w ∈ (mt_AN.getD 22 []).flatMap (mx_anw (mt_ow.getD 22 "")), w ∈ mt_tbl := mx_in [] (by decide +kernel)
theorem mt_av23 : ∀ w ∈ (mt_AN.getD 23 []).flatMap (mx_anw (mt_ow.getD 23 "")), w ∈ mt_tbl := mx_in [] (by decide +kernel)
theorem mt_av24 : ∀ w ∈ (mt_AN.getD 24 []).flatMap (mx_anw (mt_ow.getD 24 "")), w ∈ mt_tbl := mx_in [] (by decide +kernel)
theorem mt_av25 : ∀ w ∈ (mt_AN.getD 25 []).flatMap (mx_anw (mt_ow.getD 25 "")), w ∈ mt_tbl := mx_in [] (by decide +kernel)
theorem mt_av_all (o : Nat) (ho : o < 26) : ∀ w ∈ (mt_AN.getD o []).flatMap (mx_anw (mt_ow.getD o "")), w ∈ mt_tbl := by
  match o, ho with
  | 0, _ => exact mt_av0
  | 1, _ => exact mt_av1
  | 2, _ => exact mt_av2
  | 3, _ => exact mt_av3
  | 4, _ => exact mt_av4
  | 5, _ => exact mt_av5
  | 6, _ => exact mt_av6
  | 7, _ => exact mt_av7
  | 8, _ => exact mt_av8
  | 9, _ => exact mt_av9
  | 10, _ => exact mt_av10
  | 11, _ => exact mt_av11
  | 12, _ => exact mt_av12
  | 13, _ => exact mt_av13
  | 14, _ => exact mt_av14
  | 15, _ => exact mt_av15
  | 16, _ => exact mt_av16
  | 17, _ => exact mt_av17
  | 18, _ => exact mt_av18
  | 19, _ => exact mt_av19
  | 20, _ => exact mt_av20
  | 21, _ => exact mt_av21
  | 22, _ => exact mt_av22
  | 23, _ => exact mt_av23
  | 24, _ => exact mt_av24
  | 25, _ => exact mt_av25
  | _ + 26, h => exact absurd h (by omega)
def mt_an (mi idx : Nat) : Option String := mt_row mt_AN mi idx
def mt_CC : List (List (Nat × String × List Nat × List Nat)) := [[],
  [(62, "PeopleStore$Person", [7], [])],
  [],
  [],
  [],
  [],
  [],
  [],
  [],
  [(10, "java/lang/String", [], [5])],
  [],
  [],
  [],
  [],
  [],
  [],
  [],
  [],
  [(70, "PeopleStore$Item", [8], [])],
  [],
  [],
  [],
  [],
  [(150, "PeopleStore$Item", [8], [])],
  [(171, "PeopleStore$Item", [8], [])],
  []]
def mx_ccw (own : String) (q : Nat × String × List Nat × List Nat) : List Cond := .classLink own q.1 q.2.1 :: q.2.2.1.map fun ci => Cond.castable (mx_cn ci) q.2.1
theorem mt_cw0 : ∀ w ∈ (mt_CC.getD 0 []).flatMap (mx_ccw (mt_ow.getD 0 "")), w ∈ mt_tbl := mx_in [] (by decide +kernel)
theorem mt_cw1 : ∀ w ∈ (mt_CC.getD 1 []).flatMap (mx_ccw (mt_ow.getD 1 "")), w ∈ mt_tbl := mx_in [970, 2007] (by decide +kernel)
theorem mt_cw2 : ∀ w ∈ (mt_CC.getD 2 []).flatMap (mx_ccw (mt_ow.getD 2 "")), w ∈ mt_tbl := mx_in [] (by decide +kernel)
theorem mt_cw3 : ∀ w ∈ (mt_CC.getD 3 []).flatMap (mx_ccw (mt_ow.getD 3 "")), w ∈ mt_tbl := mx_in [] (by decide +kernel)
theorem mt_cw4 : ∀ w ∈ (mt_CC.getD 4 []).flatMap (mx_ccw (mt_ow.getD 4 "")), w ∈ mt_tbl := mx_in [] (by decide +kernel)
theorem mt_cw5 : ∀ w ∈ (mt_CC.getD 5 []).flatMap (mx_ccw (mt_ow.getD 5 "")), w ∈ mt_tbl := mx_in [] (by decide +kernel)
theorem mt_cw6 : ∀ w ∈ (mt_CC.getD 6 []).flatMap (mx_ccw (mt_ow.getD 6 "")), w ∈ mt_tbl := mx_in [] (by decide +kernel)
theorem mt_cw7 : ∀ w ∈ (mt_CC.getD 7 []).flatMap (mx_ccw (mt_ow.getD 7 "")), w ∈ mt_tbl := mx_in [] (by decide +kernel)
theorem mt_cw8 : ∀ w ∈ (mt_CC.getD 8 []).flatMap (mx_ccw (mt_ow.getD 8 "")), w ∈ mt_tbl := mx_in [] (by decide +kernel)
theorem mt_cw9 : ∀ w ∈ (mt_CC.getD 9 []).flatMap (mx_ccw (mt_ow.getD 9 "")), w ∈ mt_tbl := mx_in [690] (by decide +kernel)
theorem mt_cw10 : ∀ w ∈ (mt_CC.getD 10 []).flatMap (mx_ccw (mt_ow.getD 10 "")), w ∈ mt_tbl := mx_in [] (by decide +kernel)
theorem mt_cw11 : ∀ w ∈ (mt_CC.getD 11 []).flatMap (mx_ccw (mt_ow.getD 11 "")), w ∈ mt_tbl := mx_in [] (by decide +kernel)
theorem mt_cw12 : ∀ w ∈ (mt_CC.getD 12 []).flatMap (mx_ccw (mt_ow.getD 12 "")), w ∈ mt_tbl := mx_in [] (by decide +kernel)
theorem mt_cw13 : ∀ w ∈ (mt_CC.getD 13 []).flatMap (mx_ccw (mt_ow.getD 13 "")), w ∈ mt_tbl := mx_in [] (by decide +kernel)
theorem mt_cw14 : ∀ w ∈ (mt_CC.getD 14 []).flatMap (mx_ccw (mt_ow.getD 14 "")), w ∈ mt_tbl := mx_in [] (by decide +kernel)
theorem mt_cw15 : ∀ w ∈ (mt_CC.getD 15 []).flatMap (mx_ccw (mt_ow.getD 15 "")), w ∈ mt_tbl := mx_in [] (by decide +kernel)
theorem mt_cw16 : ∀ w ∈ (mt_CC.getD 16 []).flatMap (mx_ccw (mt_ow.getD 16 "")), w ∈ mt_tbl := mx_in [] (by decide +kernel)
theorem mt_cw17 : ∀ w ∈ (mt_CC.getD 17 []).flatMap (mx_ccw (mt_ow.getD 17 "")), w ∈ mt_tbl := mx_in [] (by decide +kernel)
theorem mt_cw18 : ∀ w ∈ (mt_CC.getD 18 []).flatMap (mx_ccw (mt_ow.getD 18 "")), w ∈ mt_tbl := mx_in [935, 2006] (by decide +kernel)
theorem mt_cw19 : ∀ w ∈ (mt_CC.getD 19 []).flatMap (mx_ccw (mt_ow.getD 19 "")), w ∈ mt_tbl := mx_in [] (by decide +kernel)
theorem mt_cw20 : ∀ w ∈ (mt_CC.getD 20 []).flatMap (mx_ccw (mt_ow.getD 20 "")), w ∈ mt_tbl := mx_in [] (by decide +kernel)
theorem mt_cw21 : ∀ w ∈ (mt_CC.getD 21 []).flatMap (mx_ccw (mt_ow.getD 21 "")), w ∈ mt_tbl := mx_in [] (by decide +kernel)
theorem mt_cw22 : ∀ w ∈ (mt_CC.getD 22 []).flatMap (mx_ccw (mt_ow.getD 22 "")), w ∈ mt_tbl := mx_in [] (by decide +kernel)
theorem mt_cw23 : ∀ w ∈ (mt_CC.getD 23 []).flatMap (mx_ccw (mt_ow.getD 23 "")), w ∈ mt_tbl := mx_in [1165, 2006] (by decide +kernel)
theorem mt_cw24 : ∀ w ∈ (mt_CC.getD 24 []).flatMap (mx_ccw (mt_ow.getD 24 "")), w ∈ mt_tbl := mx_in [1200, 2006] (by decide +kernel)
theorem mt_cw25 : ∀ w ∈ (mt_CC.getD 25 []).flatMap (mx_ccw (mt_ow.getD 25 "")), w ∈ mt_tbl := mx_in [] (by decide +kernel)
theorem mt_cw_all (o : Nat) (ho : o < 26) : ∀ w ∈ (mt_CC.getD o []).flatMap (mx_ccw (mt_ow.getD o "")), w ∈ mt_tbl := by
  match o, ho with
  | 0, _ => exact mt_cw0
  | 1, _ => exact mt_cw1
  | 2, _ => exact mt_cw2
  | 3, _ => exact mt_cw3
  | 4, _ => exact mt_cw4
  | 5, _ => exact mt_cw5
  | 6, _ => exact mt_cw6
  | 7, _ => exact mt_cw7
  | 8, _ => exact mt_cw8
  | 9, _ => exact mt_cw9
  | 10, _ => exact mt_cw10
  | 11, _ => exact mt_cw11
  | 12, _ => exact mt_cw12
  | 13, _ => exact mt_cw13
  | 14, _ => exact mt_cw14
  | 15, _ => exact mt_cw15
  | 16, _ => exact mt_cw16
  | 17, _ => exact mt_cw17
  | 18, _ => exact mt_cw18
  | 19, _ => exact mt_cw19
  | 20, _ => exact mt_cw20
  | 21, _ => exact mt_cw21
  | 22, _ => exact mt_cw22
  | 23, _ => exact mt_cw23
  | 24, _ => exact mt_cw24
  | 25, _ => exact mt_cw25
  | _ + 26, h => exact absurd h (by omega)
def mt_cc (mi idx ci : Nat) : Bool := match mt_row mt_CC mi idx with
  | some q => q.2.1.contains ci || (q.2.2.contains ci && (mx_cn ci == q.1 && decide (ci < 12)))
  | none => false
def mt_IO : List (List (Nat × String)) := [[],
  [],
  [],
  [],
  [],
  [],
  [],
  [],
  [],
  [(10, "java/lang/String")],
  [],
  [],
  [],
  [],
  [],
  [],
  [],
  [],
  [],
  [],
  [],
  [],
  [],
  [],
  [],
  []]
def mx_iow (own : String) (q : Nat × String) : List Cond := [.classLink own q.1 q.2]
theorem mt_ov0 : ∀ w ∈ (mt_IO.getD 0 []).flatMap (mx_iow (mt_ow.getD 0 "")), w ∈ mt_tbl := mx_in [] (by decide +kernel)
theorem mt_ov1 : ∀ w ∈ (mt_IO.getD 1 []).flatMap (mx_iow (mt_ow.getD 1 "")), w ∈ mt_tbl := mx_in [] (by decide +kernel)
theorem mt_ov2 : ∀ w ∈ (mt_IO.getD 2 []).flatMap (mx_iow (mt_ow.getD 2 "")), w ∈ mt_tbl := mx_in [] (by decide +kernel)
theorem mt_ov3 : ∀ w ∈ (mt_IO.getD 3 []).flatMap (mx_iow (mt_ow.getD 3 "")), w ∈ mt_tbl := mx_in [] (by decide +kernel)
theorem mt_ov4 : ∀ w ∈ (mt_IO.getD 4 []).flatMap (mx_iow (mt_ow.getD 4 "")), w ∈ mt_tbl := mx_in [] (by decide +kernel)
theorem mt_ov5 : ∀ w ∈ (mt_IO.getD 5 []).flatMap (mx_iow (mt_ow.getD 5 "")), w ∈ mt_tbl := mx_in [] (by decide +kernel)
theorem mt_ov6 : ∀ w ∈ (mt_IO.getD 6 []).flatMap (mx_iow (mt_ow.getD 6 "")), w ∈ mt_tbl := mx_in [] (by decide +kernel)
theorem mt_ov7 : ∀ w ∈ (mt_IO.getD 7 []).flatMap (mx_iow (mt_ow.getD 7 "")), w ∈ mt_tbl := mx_in [] (by decide +kernel)
theorem mt_ov8 : ∀ w ∈ (mt_IO.getD 8 []).flatMap (mx_iow (mt_ow.getD 8 "")), w ∈ mt_tbl := mx_in [] (by decide +kernel)
theorem mt_ov9 : ∀ w ∈ (mt_IO.getD 9 []).flatMap (mx_iow (mt_ow.getD 9 "")), w ∈ mt_tbl := mx_in [690] (by decide +kernel)
theorem mt_ov10 : ∀ w ∈ (mt_IO.getD 10 []).flatMap (mx_iow (mt_ow.getD 10 "")), w ∈ mt_tbl := mx_in [] (by decide +kernel)
theorem mt_ov11 : ∀ w ∈ (mt_IO.getD 11 []).flatMap (mx_iow (mt_ow.getD 11 "")), w ∈ mt_tbl := mx_in [] (by decide +kernel)
theorem mt_ov12 : ∀ w ∈ (mt_IO.getD 12 []).flatMap (mx_iow (mt_ow.getD 12 "")), w ∈ mt_tbl := mx_in [] (by decide +kernel)
theorem mt_ov13 : ∀ w ∈ (mt_IO.getD 13 []).flatMap (mx_iow (mt_ow.getD 13 "")), w ∈ mt_tbl := mx_in [] (by decide +kernel)
theorem mt_ov14 : ∀ w ∈ (mt_IO.getD 14 []).flatMap (mx_iow (mt_ow.getD 14 "")), w ∈ mt_tbl := mx_in [] (by decide +kernel)
theorem mt_ov15 : ∀ w ∈ (mt_IO.getD 15 []).flatMap (mx_iow (mt_ow.getD 15 "")), w ∈ mt_tbl := mx_in [] (by decide +kernel)
theorem mt_ov16 : ∀ w ∈ (mt_IO.getD 16 []).flatMap (mx_iow (mt_ow.getD 16 "")), w ∈ mt_tbl := mx_in [] (by decide +kernel)
theorem mt_ov17 : ∀ w ∈ (mt_IO.getD 17 []).flatMap (mx_iow (mt_ow.getD 17 "")), w ∈ mt_tbl := mx_in [] (by decide +kernel)
theorem mt_ov18 : ∀ w ∈ (mt_IO.getD 18 []).flatMap (mx_iow (mt_ow.getD 18 "")), w ∈ mt_tbl := mx_in [] (by decide +kernel)
theorem mt_ov19 : ∀ w ∈ (mt_IO.getD 19 []).flatMap (mx_iow (mt_ow.getD 19 "")), w ∈ mt_tbl := mx_in [] (by decide +kernel)
theorem mt_ov20 : ∀ w ∈ (mt_IO.getD 20 []).flatMap (mx_iow (mt_ow.getD 20 "")), w ∈ mt_tbl := mx_in [] (by decide +kernel)
theorem mt_ov21 : ∀ w ∈ (mt_IO.getD 21 []).flatMap (mx_iow (mt_ow.getD 21 "")), w ∈ mt_tbl := mx_in [] (by decide +kernel)
theorem mt_ov22 : ∀ w ∈ (mt_IO.getD 22 []).flatMap (mx_iow (mt_ow.getD 22 "")), w ∈ mt_tbl := mx_in [] (by decide +kernel)
theorem mt_ov23 : ∀ w ∈ (mt_IO.getD 23 []).flatMap (mx_iow (mt_ow.getD 23 "")), w ∈ mt_tbl := mx_in [] (by decide +kernel)
theorem mt_ov24 : ∀ w ∈ (mt_IO.getD 24 []).flatMap (mx_iow (mt_ow.getD 24 "")), w ∈ mt_tbl := mx_in [] (by decide +kernel)
theorem mt_ov25 : ∀ w ∈ (mt_IO.getD 25 []).flatMap (mx_iow (mt_ow.getD 25 "")), w ∈ mt_tbl := mx_in [] (by decide +kernel)
theorem mt_ov_all (o : Nat) (ho : o < 26) : ∀ w ∈ (mt_IO.getD o []).flatMap (mx_iow (mt_ow.getD o "")), w ∈ mt_tbl := by
  match o, ho with
  | 0, _ => exact mt_ov0
  | 1, _ => exact mt_ov1
  | 2, _ => exact mt_ov2
  | 3, _ => exact mt_ov3
  | 4, _ => exact mt_ov4
  | 5, _ => exact mt_ov5
  | 6, _ => exact mt_ov6
  | 7, _ => exact mt_ov7
  | 8, _ => exact mt_ov8
  | 9, _ => exact mt_ov9
  | 10, _ => exact mt_ov10
  | 11, _ => exact mt_ov11
  | 12, _ => exact mt_ov12
  | 13, _ => exact mt_ov13
  | 14, _ => exact mt_ov14
  | 15, _ => exact mt_ov15
  | 16, _ => exact mt_ov16
  | 17, _ => exact mt_ov17
  | 18, _ => exact mt_ov18
  | 19, _ => exact mt_ov19
  | 20, _ => exact mt_ov20
  | 21, _ => exact mt_ov21
  | 22, _ => exact mt_ov22
  | 23, _ => exact mt_ov23
  | 24, _ => exact mt_ov24
  | 25, _ => exact mt_ov25
  | _ + 26, h => exact absurd h (by omega)
def mt_io (mi idx ci : Nat) : Option Bool := match mt_row mt_IO mi idx with
  | some T => if mx_cn ci = T ∧ ci < 12 then some true else none
  | none => none
def mt_ob : List Nat := [0, 1, 4, 5, 6, 7, 8, 9, 10, 11]
theorem mt_obw : ∀ w ∈ mt_ob.map (fun q => Cond.castable (mx_cn q) "java/lang/Object"), w ∈ mt_tbl := mx_in [2011, 2012, 2014, 2015, 2016, 2017, 2018, 2019, 2020, 2013] (by decide +kernel)
def mt_as (C : String) (ci : Nat) : Bool := decide (C = "java/lang/Object") && mt_ob.contains ci
/-- a final field is written by its own class's constructor alone -/
def mt_ini (mi : Nat) : Bool := decide ((mt_nm mi).name = "<init>")
def mt_pf (mi fid : Nat) : Bool := !(mt_fd fid).2.2.2 || (mt_ini mi && decide ((mt_fd fid).1 = mt_own mi))
def mt_OI : List (List (Nat × Unit)) := [[],
  [(1, ())],
  [(1, ())],
  [],
  [(3, ())],
  [],
  [],
  [],
  [(1, ())],
  [(1, ())],
  [],
  [],
  [],
  [],
  [(1, ())],
  [],
  [],
  [(1, ())],
  [(3, ())],
  [],
  [(1, ())],
  [],
  [],
  [(3, ())],
  [(1, ())],
  [(1, ())]]
def mx_oiw (own : String) (q : Nat × Unit) : List Cond := [.methodLink own q.1 objectInit]
theorem mt_ow_0 : ∀ w ∈ (mt_OI.getD 0 []).flatMap (mx_oiw (mt_ow.getD 0 "")), w ∈ mt_tbl := mx_in [] (by decide +kernel)
theorem mt_ow_1 : ∀ w ∈ (mt_OI.getD 1 []).flatMap (mx_oiw (mt_ow.getD 1 "")), w ∈ mt_tbl := mx_in [162] (by decide +kernel)
theorem mt_ow_2 : ∀ w ∈ (mt_OI.getD 2 []).flatMap (mx_oiw (mt_ow.getD 2 "")), w ∈ mt_tbl := mx_in [170] (by decide +kernel)
theorem mt_ow_3 : ∀ w ∈ (mt_OI.getD 3 []).flatMap (mx_oiw (mt_ow.getD 3 "")), w ∈ mt_tbl := mx_in [] (by decide +kernel)
theorem mt_ow_4 : ∀ w ∈ (mt_OI.getD 4 []).flatMap (mx_oiw (mt_ow.getD 4 "")), w ∈ mt_tbl := mx_in [179] (by decide +kernel)
theorem mt_ow_5 : ∀ w ∈ (mt_OI.getD 5 []).flatMap (mx_oiw (mt_ow.getD 5 "")), w ∈ mt_tbl := mx_in [] (by decide +kernel)
theorem mt_ow_6 : ∀ w ∈ (mt_OI.getD 6 []).flatMap (mx_oiw (mt_ow.getD 6 "")), w ∈ mt_tbl := mx_in [] (by decide +kernel)
theorem mt_ow_7 : ∀ w ∈ (mt_OI.getD 7 []).flatMap (mx_oiw (mt_ow.getD 7 "")), w ∈ mt_tbl := mx_in [] (by decide +kernel)
theorem mt_ow_8 : ∀ w ∈ (mt_OI.getD 8 []).flatMap (mx_oiw (mt_ow.getD 8 "")), w ∈ mt_tbl := mx_in [242] (by decide +kernel)
theorem mt_ow_9 : ∀ w ∈ (mt_OI.getD 9 []).flatMap (mx_oiw (mt_ow.getD 9 "")), w ∈ mt_tbl := mx_in [602] (by decide +kernel)
theorem mt_ow_10 : ∀ w ∈ (mt_OI.getD 10 []).flatMap (mx_oiw (mt_ow.getD 10 "")), w ∈ mt_tbl := mx_in [] (by decide +kernel)
theorem mt_ow_11 : ∀ w ∈ (mt_OI.getD 11 []).flatMap (mx_oiw (mt_ow.getD 11 "")), w ∈ mt_tbl := mx_in [] (by decide +kernel)
theorem mt_ow_12 : ∀ w ∈ (mt_OI.getD 12 []).flatMap (mx_oiw (mt_ow.getD 12 "")), w ∈ mt_tbl := mx_in [] (by decide +kernel)
theorem mt_ow_13 : ∀ w ∈ (mt_OI.getD 13 []).flatMap (mx_oiw (mt_ow.getD 13 "")), w ∈ mt_tbl := mx_in [] (by decide +kernel)
theorem mt_ow_14 : ∀ w ∈ (mt_OI.getD 14 []).flatMap (mx_oiw (mt_ow.getD 14 "")), w ∈ mt_tbl := mx_in [453] (by decide +kernel)
theorem mt_ow_15 : ∀ w ∈ (mt_OI.getD 15 []).flatMap (mx_oiw (mt_ow.getD 15 "")), w ∈ mt_tbl := mx_in [] (by decide +kernel)
theorem mt_ow_16 : ∀ w ∈ (mt_OI.getD 16 []).flatMap (mx_oiw (mt_ow.getD 16 "")), w ∈ mt_tbl := mx_in [] (by decide +kernel)
theorem mt_ow_17 : ∀ w ∈ (mt_OI.getD 17 []).flatMap (mx_oiw (mt_ow.getD 17 "")), w ∈ mt_tbl := mx_in [700] (by decide +kernel)
theorem mt_ow_18 : ∀ w ∈ (mt_OI.getD 18 []).flatMap (mx_oiw (mt_ow.getD 18 "")), w ∈ mt_tbl := mx_in [773] (by decide +kernel)
theorem mt_ow_19 : ∀ w ∈ (mt_OI.getD 19 []).flatMap (mx_oiw (mt_ow.getD 19 "")), w ∈ mt_tbl := mx_in [] (by decide +kernel)
theorem mt_ow_20 : ∀ w ∈ (mt_OI.getD 20 []).flatMap (mx_oiw (mt_ow.getD 20 "")), w ∈ mt_tbl := mx_in [841] (by decide +kernel)
theorem mt_ow_21 : ∀ w ∈ (mt_OI.getD 21 []).flatMap (mx_oiw (mt_ow.getD 21 "")), w ∈ mt_tbl := mx_in [] (by decide +kernel)
theorem mt_ow_22 : ∀ w ∈ (mt_OI.getD 22 []).flatMap (mx_oiw (mt_ow.getD 22 "")), w ∈ mt_tbl := mx_in [] (by decide +kernel)
theorem mt_ow_23 : ∀ w ∈ (mt_OI.getD 23 []).flatMap (mx_oiw (mt_ow.getD 23 "")), w ∈ mt_tbl := mx_in [1021] (by decide +kernel)
theorem mt_ow_24 : ∀ w ∈ (mt_OI.getD 24 []).flatMap (mx_oiw (mt_ow.getD 24 "")), w ∈ mt_tbl := mx_in [1067] (by decide +kernel)
theorem mt_ow_25 : ∀ w ∈ (mt_OI.getD 25 []).flatMap (mx_oiw (mt_ow.getD 25 "")), w ∈ mt_tbl := mx_in [1439] (by decide +kernel)
theorem mt_ow__all (o : Nat) (ho : o < 26) : ∀ w ∈ (mt_OI.getD o []).flatMap (mx_oiw (mt_ow.getD o "")), w ∈ mt_tbl := by
  match o, ho with
  | 0, _ => exact mt_ow_0
  | 1, _ => exact mt_ow_1
  | 2, _ => exact mt_ow_2
  | 3, _ => exact mt_ow_3
  | 4, _ => exact mt_ow_4
  | 5, _ => exact mt_ow_5
  | 6, _ => exact mt_ow_6
  | 7, _ => exact mt_ow_7
  | 8, _ => exact mt_ow_8
  | 9, _ => exact mt_ow_9
  | 10, _ => exact mt_ow_10
  | 11, _ => exact mt_ow_11
  | 12, _ => exact mt_ow_12
  | 13, _ => exact mt_ow_13
  | 14, _ => exact mt_ow_14
  | 15, _ => exact mt_ow_15
  | 16, _ => exact mt_ow_16
  | 17, _ => exact mt_ow_17
  | 18, _ => exact mt_ow_18
  | 19, _ => exact mt_ow_19
  | 20, _ => exact mt_ow_20
  | 21, _ => exact mt_ow_21
  | 22, _ => exact mt_ow_22
  | 23, _ => exact mt_ow_23
  | 24, _ => exact mt_ow_24
  | 25, _ => exact mt_ow_25
  | _ + 26, h => exact absurd h (by omega)
def mt_oi (mi idx : Nat) : Bool := (mt_row mt_OI mi idx).isSome
theorem mt_oiw2 : ∀ w ∈ ([.instanceMethod objectInit, .code objectInit ⟨#[0xb1]⟩ 1 none] : List Cond), w ∈ mt_tbl := mx_in [163, 164] (by decide +kernel)
theorem mt_acw : ∀ w ∈ mt_na.map (fun t => Cond.arrayClass t), w ∈ mt_tbl := mx_in [204, 203, 205, 1561, 1562] (by decide +kernel)
