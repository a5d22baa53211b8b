def mt_nO : Nat := 63
def mt_old : mx_H := [(.inl 99, []),
  (.inr (.object "java/lang/Object"), []),
  (.inr .int, [.int 1, .int 1, .int 2, .int 1, .int 0, .int 2, .int 2, .int 0]),
  (.inr .int, [.int 0, .int 2, .int 3, .int 4, .int 5]),
  (.inr .byte, [.int 48, .int 49, .int 50, .int 51, .int 52, .int 53, .int 54, .int 55, .int 56, .int 57, .int 48, .int 49, .int 50, .int 51, .int 52, .int 53, .int 54, .int 55, .int 56, .int 57, .int 48, .int 49, .int 50, .int 51, .int 52, .int 53, .int 54, .int 55, .int 56, .int 57, .int 48, .int 49, .int 50, .int 51, .int 52, .int 53, .int 54, .int 55, .int 56, .int 57, .int 48, .int 49, .int 50, .int 51, .int 52, .int 53, .int 54, .int 55, .int 56, .int 57, .int 48, .int 49, .int 50, .int 51, .int 52, .int 53, .int 54, .int 55, .int 56, .int 57, .int 48, .int 49, .int 50, .int 51, .int 52, .int 53, .int 54, .int 55, .int 56, .int 57, .int 48, .int 49, .int 50, .int 51, .int 52, .int 53, .int 54, .int 55, .int 56, .int 57, .int 48, .int 49, .int 50, .int 51, .int 52, .int 53, .int 54, .int 55, .int 56, .int 57, .int 48, .int 49, .int 50, .int 51, .int 52, .int 53, .int 54, .int 55, .int 56, .int 57]),
  (.inr .byte, [.int 48, .int 48, .int 48, .int 48, .int 48, .int 48, .int 48, .int 48, .int 48, .int 48, .int 49, .int 49, .int 49, .int 49, .int 49, .int 49, .int 49, .int 49, .int 49, .int 49, .int 50, .int 50, .int 50, .int 50, .int 50, .int 50, .int 50, .int 50, .int 50, .int 50, .int 51, .int 51, .int 51, .int 51, .int 51, .int 51, .int 51, .int 51, .int 51, .int 51, .int 52, .int 52, .int 52, .int 52, .int 52, .int 52, .int 52, .int 52, .int 52, .int 52, .int 53, .int 53, .int 53, .int 53, .int 53, .int 53, .int 53, .int 53, .int 53, .int 53, .int 54, .int 54, .int 54, .int 54, .int 54, .int 54, .int 54, .int 54, .int 54, .int 54, .int 55, .int 55, .int 55, .int 55, .int 55, .int 55, .int 55, .int 55, .int 55, .int 55, .int 56, .int 56, .int 56, .int 56, .int 56, .int 56, .int 56, .int 56, .int 56, .int 56, .int 57, .int 57, .int 57, .int 57, .int 57, .int 57, .int 57, .int 57, .int 57, .int 57]),
  (.inl 5, [.ref 8, .int 0, .retAddr 1, .retAddr 1]),
  (.inr .byte, [.int 123, .int 125, .int 91, .int 93, .int 40, .int 41, .int 58, .int 44, .int 46, .int 43, .int 45, .int 61, .int 10]),
  (.inl 5, [.ref 10, .int 0, .retAddr 1, .retAddr 1]),
  (.inr .byte, [.int 34, .int 92, .int 47]),
  (.inl 5, [.ref 12, .int 0, .retAddr 1, .retAddr 1]),
  (.inr .byte, []),
  (.inl 5, [.ref 14, .int 0, .retAddr 1, .retAddr 1]),
  (.inr .byte, [.int 116, .int 114, .int 117, .int 101]),
  (.inl 5, [.ref 16, .int 0, .retAddr 1, .retAddr 1]),
  (.inr .byte, [.int 102, .int 97, .int 108, .int 115, .int 101]),
  (.inl 5, [.ref 18, .int 0, .retAddr 1, .retAddr 1]),
  (.inr .byte, [.int 105, .int 100]),
  (.inl 5, [.ref 20, .int 0, .retAddr 1, .retAddr 1]),
  (.inr .byte, [.int 118, .int 101, .int 114, .int 115, .int 105, .int 111, .int 110]),
  (.inl 5, [.ref 22, .int 0, .retAddr 1, .retAddr 1]),
  (.inr .byte, [.int 110, .int 97, .int 109, .int 101]),
  (.inl 5, [.ref 24, .int 0, .retAddr 1, .retAddr 1]),
  (.inr .byte, [.int 97, .int 103, .int 101]),
  (.inl 5, [.ref 26, .int 0, .retAddr 1, .retAddr 1]),
  (.inr .byte, [.int 111, .int 110]),
  (.inl 5, [.ref 28, .int 0, .retAddr 1, .retAddr 1]),
  (.inr .byte, [.int 109, .int 97, .int 105, .int 108]),
  (.inl 5, [.ref 30, .int 0, .retAddr 1, .retAddr 1]),
  (.inr .byte, [.int 118]),
  (.inl 5, [.ref 32, .int 0, .retAddr 1, .retAddr 1]),
  (.inr .byte, [.int 112]),
  (.inl 5, [.ref 34, .int 0, .retAddr 1, .retAddr 1]),
  (.inr .byte, [.int 110, .int 111, .int 116]),
  (.inl 5, [.ref 36, .int 0, .retAddr 1, .retAddr 1]),
  (.inr .byte, [.int 112, .int 114]),
  (.inl 5, [.ref 38, .int 0, .retAddr 1, .retAddr 1]),
  (.inr .byte, [.int 101, .int 113]),
  (.inl 5, [.ref 40, .int 0, .retAddr 1, .retAddr 1]),
  (.inr .byte, [.int 110, .int 101]),
  (.inl 5, [.ref 42, .int 0, .retAddr 1, .retAddr 1]),
  (.inr .byte, [.int 99, .int 111]),
  (.inl 5, [.ref 44, .int 0, .retAddr 1, .retAddr 1]),
  (.inr .byte, [.int 115, .int 119]),
  (.inl 5, [.ref 46, .int 0, .retAddr 1, .retAddr 1]),
  (.inr .byte, [.int 101, .int 119]),
  (.inl 5, [.ref 48, .int 0, .retAddr 1, .retAddr 1]),
  (.inr .byte, [.int 103, .int 116]),
  (.inl 5, [.ref 50, .int 0, .retAddr 1, .retAddr 1]),
  (.inr .byte, [.int 103, .int 101]),
  (.inl 5, [.ref 52, .int 0, .retAddr 1, .retAddr 1]),
  (.inr .byte, [.int 108, .int 116]),
  (.inl 5, [.ref 54, .int 0, .retAddr 1, .retAddr 1]),
  (.inr .byte, [.int 108, .int 101]),
  (.inl 5, [.ref 56, .int 0, .retAddr 1, .retAddr 1]),
  (.inr .byte, [.int 97, .int 110, .int 100]),
  (.inl 5, [.ref 58, .int 0, .retAddr 1, .retAddr 1]),
  (.inr .byte, [.int 111, .int 114]),
  (.inl 5, [.ref 60, .int 0, .retAddr 1, .retAddr 1]),
  (.inr .byte, [.int 34, .int 58]),
  (.inl 5, [.ref 62, .int 0, .retAddr 1, .retAddr 1]),
  (.inr .byte, [.int 44, .int 34, .int 109, .int 97, .int 105, .int 108, .int 34, .int 58, .int 91])]
def mt_fds : List (String × String × String × Bool) := [("PeopleStore", "buffer", "LPeopleStore$Buffer;", true),
  ("PeopleStore", "people", "Ljava/util/ArrayList;", true),
  ("PeopleStore", "found", "Ljava/util/ArrayList;", true),
  ("PeopleStore", "pageIds", "[I", true),
  ("PeopleStore", "written", "Ljava/lang/StringBuilder;", true),
  ("PeopleStore", "pageSize", "I", false),
  ("PeopleStore", "lastId", "I", false),
  ("PeopleStore$Buffer", "letters", "[C", true),
  ("PeopleStore$Buffer", "kinds", "[I", true),
  ("PeopleStore$Buffer", "starts", "[I", true),
  ("PeopleStore$Buffer", "ends", "[I", true),
  ("PeopleStore$Buffer", "spelled", "Ljava/lang/StringBuilder;", true),
  ("PeopleStore$Buffer", "used", "I", false),
  ("PeopleStore$Buffer", "tokens", "I", false),
  ("PeopleStore$Buffer", "current", "I", false),
  ("java/lang/AbstractStringBuilder", "value", "[B", false),
  ("java/lang/AbstractStringBuilder", "coder", "B", false),
  ("java/lang/AbstractStringBuilder", "maybeLatin1", "Z", false),
  ("java/lang/AbstractStringBuilder", "count", "I", false),
  ("java/util/ArrayList", "elementData", "[Ljava/lang/Object;", false),
  ("java/util/ArrayList", "size", "I", false),
  ("java/util/AbstractList", "modCount", "I", false),
  ("PeopleStore$Value", "kind", "I", true),
  ("PeopleStore$Value", "number", "I", true),
  ("PeopleStore$Value", "text", "Ljava/lang/String;", true),
  ("PeopleStore$Value", "first", "LPeopleStore$Part;", true),
  ("java/lang/String", "value", "[B", true),
  ("java/lang/String", "coder", "B", true),
  ("java/lang/String", "hash", "I", false),
  ("java/lang/String", "hashIsZero", "Z", false),
  ("PeopleStore$Part", "name", "Ljava/lang/String;", true),
  ("PeopleStore$Part", "value", "LPeopleStore$Value;", true),
  ("PeopleStore$Part", "next", "LPeopleStore$Part;", false),
  ("PeopleStore$Person", "id", "LPeopleStore$Value;", true),
  ("PeopleStore$Person", "version", "LPeopleStore$Value;", false),
  ("PeopleStore$Person", "name", "LPeopleStore$Value;", false),
  ("PeopleStore$Person", "foldedName", "LPeopleStore$Value;", false),
  ("PeopleStore$Person", "age", "LPeopleStore$Value;", false),
  ("PeopleStore$Person", "on", "LPeopleStore$Value;", false),
  ("PeopleStore$Person", "items", "Ljava/util/ArrayList;", false),
  ("PeopleStore$Item", "v", "LPeopleStore$Value;", false),
  ("PeopleStore$Item", "p", "LPeopleStore$Value;", false),
  ("PeopleStore$Item", "chosen", "Z", false),
  ("PeopleStore$Item", "given", "Z", false),
  ("PeopleStore$Operation", "sign", "I", true),
  ("PeopleStore$Operation", "attribute", "I", false),
  ("PeopleStore$Operation", "filter", "LPeopleStore$Filter;", false),
  ("PeopleStore$Operation", "value", "LPeopleStore$Value;", false),
  ("PeopleStore$Operation", "next", "LPeopleStore$Operation;", false),
  ("PeopleStore$Filter", "kind", "I", true),
  ("PeopleStore$Filter", "attribute", "I", true),
  ("PeopleStore$Filter", "operator", "I", true),
  ("PeopleStore$Filter", "value", "LPeopleStore$Value;", true),
  ("PeopleStore$Filter", "first", "LPeopleStore$Filter;", false),
  ("PeopleStore$Filter", "next", "LPeopleStore$Filter;", false),
  ("PeopleStoreModel", "\x72", "[I", true),
  ("PeopleStoreModel", "made", "I", false),
  ("PeopleStoreModel", "buffer", "[C", true),
  ("PeopleStoreModel", "size", "I", false),
  ("PeopleStoreModel", "tokens", "I", false),
  ("PeopleStoreModel", "kind", "[I", true),
  ("PeopleStoreModel", "from", "[I", true),
  ("PeopleStoreModel", "length", "[I", true),
  ("PeopleStoreModel", "code", "[J", true),
  ("PeopleStoreModel", "text", "[C", true),
  ("PeopleStoreModel", "written", "I", false),
  ("PeopleStoreModel", "open", "[I", true),
  ("PeopleStoreModel", "steps", "I", false),
  ("PeopleStoreModel", "step", "[I", true),
  ("PeopleStoreModel", "path", "[I", true),
  ("PeopleStoreModel", "value", "[I", true),
  ("PeopleStoreModel", "upTo", "[I", true),
  ("PeopleStoreModel", "operator", "[J", true),
  ("PeopleStoreModel", "itemsStep", "I", false),
  ("PeopleStoreModel", "stacked", "I", false),
  ("PeopleStoreModel", "stack", "[I", true),
  ("PeopleStoreModel", "deep", "I", false),
  ("PeopleStoreModel", "within", "Z", false),
  ("PeopleStoreModel", "wrong", "Z", false),
  ("PeopleStoreModel", "truth", "[Z", true),
  ("PeopleStoreModel", "inner", "[Z", true),
  ("PeopleStoreModel", "operations", "I", false),
  ("PeopleStoreModel", "sign", "[I", true),
  ("PeopleStoreModel", "target", "[I", true),
  ("PeopleStoreModel", "filterFrom", "[I", true),
  ("PeopleStoreModel", "filterTo", "[I", true),
  ("PeopleStoreModel", "given", "[I", true),
  ("PeopleStoreModel", "chosen", "[Z", true),
  ("PeopleStoreModel", "raised", "[Z", true),
  ("PeopleStoreModel", "pages", "I", false),
  ("PeopleStoreModel", "page", "[I", true),
  ("PeopleStoreModel", "found", "[I", true),
  ("PeopleStoreModel", "total", "I", false),
  ("PeopleStoreModel", "wanted", "I", false),
  ("PeopleStoreModel", "letter", "I", false)]
def mt_fts : List FieldType := [(.object "PeopleStore$Buffer"), (.object "java/util/ArrayList"), (.object "java/util/ArrayList"), (.array .int), (.object "java/lang/StringBuilder"), .int, .int, (.array .char), (.array .int), (.array .int), (.array .int), (.object "java/lang/StringBuilder"), .int, .int, .int, (.array .byte), .byte, .boolean, .int, (.array (.object "java/lang/Object")), .int, .int, .int, .int, (.object "java/lang/String"), (.object "PeopleStore$Part"), (.array .byte), .byte, .int, .boolean, (.object "java/lang/String"), (.object "PeopleStore$Value"), (.object "PeopleStore$Part"), (.object "PeopleStore$Value"), (.object "PeopleStore$Value"), (.object "PeopleStore$Value"), (.object "PeopleStore$Value"), (.object "PeopleStore$Value"), (.object "PeopleStore$Value"), (.object "java/util/ArrayList"), (.object "PeopleStore$Value"), (.object "PeopleStore$Value"), .boolean, .boolean, .int, .int, (.object "PeopleStore$Filter"), (.object "PeopleStore$Value"), (.object "PeopleStore$Operation"), .int, .int, .int, (.object "PeopleStore$Value"), (.object "PeopleStore$Filter"), (.object "PeopleStore$Filter"), (.array .int), .int, (.array .char), .int, .int, (.array .int), (.array .int), (.array .int), (.array .long), (.array .char), .int, (.array .int), .int, (.array .int), (.array .int), (.array .int), (.array .int), (.array .long), .int, .int, (.array .int), .int, .boolean, .boolean, (.array .boolean), (.array .boolean), .int, (.array .int), (.array .int), (.array .int), (.array .int), (.array .int), (.array .boolean), (.array .boolean), .int, (.array .int), (.array .int), .int, .int, .int]
def mt_fd (f : Nat) : String × String × String × Bool := mt_fds.getD f ("", "", "", false)
def mt_ft (f : Nat) : FieldType := mt_fts.getD f .int
def mt_cf : List (String × List Nat) := [("PeopleStore", [0, 1, 2, 3, 4, 5, 6]),
  ("PeopleStore$Buffer", [7, 8, 9, 10, 11, 12, 13, 14]),
  ("java/lang/StringBuilder", [15, 16, 17, 18]),
  ("java/util/ArrayList", [19, 20, 21]),
  ("PeopleStore$Value", [22, 23, 24, 25]),
  ("java/lang/String", [26, 27, 28, 29]),
  ("PeopleStore$Part", [30, 31, 32]),
  ("PeopleStore$Person", [33, 34, 35, 36, 37, 38, 39]),
  ("PeopleStore$Item", [40, 41, 42, 43]),
  ("PeopleStore$Operation", [44, 45, 46, 47, 48]),
  ("PeopleStore$Filter", [49, 50, 51, 52, 53, 54]),
  ("PeopleStoreModel", [55, 56, 57, 58, 59, 60, 61, 62, 63, 64, 65, 66, 67, 68, 69, 70, 71, 72, 73, 74, 75, 76, 77, 78, 79, 80, 81, 82, 83, 84, 85, 86, 87, 88, 89, 90, 91, 92, 93, 94])]
def mt_c1 (q : String × List Nat) : vw_C := (q.1, (fun k => mt_fd (q.2.getD k 999)), q.2.length)
def mt_cl : List vw_C := mt_cf.map mt_c1
def mt_cq (ci : Nat) : List Nat := match mt_cf[ci]? with
  | some q => q.2
  | none => []
def mt_ct (ci k : Nat) : FieldType := mt_ft ((mt_cq ci).getD k 999)
def mt_fk (ci fid : Nat) : Option Nat := (mt_cq ci).findIdx? (fun z => z == fid)
def mt_df (ci : Nat) : List Value := (mt_cq ci).map fun f => defaultValue (mt_ft f)
def mt_ty : List FieldType := [.int, .char, .byte, .long, .boolean, .object "java/lang/Object"]
def mt_na : List FieldType := [.int, .char, .byte, .long, .boolean]
def mx_nest (w : Cond) : Bool := match w with
  | .fieldLinkNest .. => true
  | .methodLinkNest .. => true
  | .castable .. => true
  | _ => false
def mt_Ts : List Cond := mt_tbl.filter goodWord
def mt_Nw : List Cond := mt_tbl.filter mx_nest
theorem mt_inT {w : Cond} (h : w ∈ mt_tbl) (hg : goodWord w = true) : w ∈ mt_Ts := List.mem_filter.mpr ⟨h, hg⟩
theorem mt_inN {w : Cond} (h : w ∈ mt_tbl) (hg : mx_nest w = true) : w ∈ mt_Nw := List.mem_filter.mpr ⟨h, hg⟩

theorem mt_k0a : ∀ w ∈ u_ws (mt_c1 ("PeopleStore", [0, 1, 2, 3, 4, 5, 6])).1 (mt_c1 ("PeopleStore", [0, 1, 2, 3, 4, 5, 6])).2.1 (mt_c1 ("PeopleStore", [0, 1, 2, 3, 4, 5, 6])).2.2, w ∈ mt_tbl := mx_in [266, 268, 270, 272, 274, 276, 278] (by decide +kernel)
theorem mt_k1a : ∀ w ∈ u_ws (mt_c1 ("PeopleStore$Buffer", [7, 8, 9, 10, 11, 12, 13, 14])).1 (mt_c1 ("PeopleStore$Buffer", [7, 8, 9, 10, 11, 12, 13, 14])).2.1 (mt_c1 ("PeopleStore$Buffer", [7, 8, 9, 10, 11, 12, 13, 14])).2.2, w ∈ mt_tbl := mx_in [214, 216, 218, 220, 222, 224, 226, 228] (by decide +kernel)
theorem mt_k2a : ∀ w ∈ u_ws (mt_c1 ("java/lang/StringBuilder", [15, 16, 17, 18])).1 (mt_c1 ("java/lang/StringBuilder", [15, 16, 17, 18])).2.1 (mt_c1 ("java/lang/StringBuilder", [15, 16, 17, 18])).2.2, w ∈ mt_tbl := mx_in [194, 196, 198, 200] (by decide +kernel)
theorem mt_k3a : ∀ w ∈ u_ws (mt_c1 ("java/util/ArrayList", [19, 20, 21])).1 (mt_c1 ("java/util/ArrayList", [19, 20, 21])).2.1 (mt_c1 ("java/util/ArrayList", [19, 20, 21])).2.2, w ∈ mt_tbl := mx_in [250, 252, 254] (by decide +kernel)
theorem mt_k4a : ∀ w ∈ u_ws (mt_c1 ("PeopleStore$Value", [22, 23, 24, 25])).1 (mt_c1 ("PeopleStore$Value", [22, 23, 24, 25])).2.1 (mt_c1 ("PeopleStore$Value", [22, 23, 24, 25])).2.2, w ∈ mt_tbl := mx_in [473, 475, 477, 479] (by decide +kernel)
theorem mt_k5a : ∀ w ∈ u_ws (mt_c1 ("java/lang/String", [26, 27, 28, 29])).1 (mt_c1 ("java/lang/String", [26, 27, 28, 29])).2.1 (mt_c1 ("java/lang/String", [26, 27, 28, 29])).2.2, w ∈ mt_tbl := mx_in [638, 640, 642, 644] (by decide +kernel)
theorem mt_k6a : ∀ w ∈ u_ws (mt_c1 ("PeopleStore$Part", [30, 31, 32])).1 (mt_c1 ("PeopleStore$Part", [30, 31, 32])).2.1 (mt_c1 ("PeopleStore$Part", [30, 31, 32])).2.2, w ∈ mt_tbl := mx_in [714, 716, 718] (by decide +kernel)
theorem mt_k7a : ∀ w ∈ u_ws (mt_c1 ("PeopleStore$Person", [33, 34, 35, 36, 37, 38, 39])).1 (mt_c1 ("PeopleStore$Person", [33, 34, 35, 36, 37, 38, 39])).2.1 (mt_c1 ("PeopleStore$Person", [33, 34, 35, 36, 37, 38, 39])).2.2, w ∈ mt_tbl := mx_in [788, 790, 792, 794, 796, 798, 800] (by decide +kernel)
theorem mt_k8a : ∀ w ∈ u_ws (mt_c1 ("PeopleStore$Item", [40, 41, 42, 43])).1 (mt_c1 ("PeopleStore$Item", [40, 41, 42, 43])).2.1 (mt_c1 ("PeopleStore$Item", [40, 41, 42, 43])).2.2, w ∈ mt_tbl := mx_in [850, 852, 854, 856] (by decide +kernel)
theorem mt_k9a : ∀ w ∈ u_ws (mt_c1 ("PeopleStore$Operation", [44, 45, 46, 47, 48])).1 (mt_c1 ("PeopleStore$Operation", [44, 45, 46, 47, 48])).2.1 (mt_c1 ("PeopleStore$Operation", [44, 45, 46, 47, 48])).2.2, w ∈ mt_tbl := mx_in [1028, 1030, 1032, 1034, 1036] (by decide +kernel)
theorem mt_k10a : ∀ w ∈ u_ws (mt_c1 ("PeopleStore$Filter", [49, 50, 51, 52, 53, 54])).1 (mt_c1 ("PeopleStore$Filter", [49, 50, 51, 52, 53, 54])).2.1 (mt_c1 ("PeopleStore$Filter", [49, 50, 51, 52, 53, 54])).2.2, w ∈ mt_tbl := mx_in [1074, 1076, 1078, 1080, 1082, 1084] (by decide +kernel)
theorem mt_k11a : ∀ w ∈ u_ws (mt_c1 ("PeopleStoreModel", [55, 56, 57, 58, 59, 60, 61, 62, 63, 64, 65, 66, 67, 68, 69, 70, 71, 72, 73, 74, 75, 76, 77, 78, 79, 80, 81, 82, 83, 84, 85, 86, 87, 88, 89, 90, 91, 92, 93, 94])).1 (mt_c1 ("PeopleStoreModel", [55, 56, 57, 58, 59, 60, 61, 62, 63, 64, 65, 66, 67, 68, 69, 70, 71, 72, 73, 74, 75, 76, 77, 78, 79, 80, 81, 82, 83, 84, 85, 86, 87, 88, 89, 90, 91, 92, 93, 94])).2.1 (mt_c1 ("PeopleStoreModel", [55, 56, 57, 58, 59, 60, 61, 62, 63, 64, 65, 66, 67, 68, 69, 70, 71, 72, 73, 74, 75, 76, 77, 78, 79, 80, 81, 82, 83, 84, 85, 86, 87, 88, 89, 90, 91, 92, 93, 94])).2.2, w ∈ mt_tbl := mx_in [1480, 1482, 1484, 1486, 1488, 1490, 1492, 1494, 1496, 1498, 1500, 1502, 1504, 1506, 1508, 1510, 1512, 1514, 1516, 1518, 1520, 1522, 1524, 1526, 1528, 1530, 1532, 1534, 1536, 1538, 1540, 1542, 1544, 1546, 1548, 1550, 1552, 1554, 1556, 1558] (by decide +kernel)
def mt_clsB (q : String × List Nat) : Bool := (u_ws (mt_c1 q).1 (mt_c1 q).2.1 (mt_c1 q).2.2).all goodWord && ((List.range q.2.length).all (fun k => decide (parseFieldDescriptor (mt_fd (q.2.getD k 999)).2.2.1 = some (mt_ft (q.2.getD k 999)))) && (List.range q.2.length).all (fun a => (List.range q.2.length).all fun b => decide (a ≠ b → (mt_fd (q.2.getD a 999)).2.1 ≠ (mt_fd (q.2.getD b 999)).2.1)))
theorem mt_clsBs : ∀ q ∈ mt_cf, mt_clsB q = true := by decide +kernel
theorem mt_clsW : ∀ q ∈ mt_cf, ∀ w ∈ u_ws (mt_c1 q).1 (mt_c1 q).2.1 (mt_c1 q).2.2, w ∈ mt_tbl := List.forall_mem_cons.mpr ⟨mt_k0a, List.forall_mem_cons.mpr ⟨mt_k1a, List.forall_mem_cons.mpr ⟨mt_k2a, List.forall_mem_cons.mpr ⟨mt_k3a, List.forall_mem_cons.mpr ⟨mt_k4a, List.forall_mem_cons.mpr ⟨mt_k5a, List.forall_mem_cons.mpr ⟨mt_k6a, List.forall_mem_cons.mpr ⟨mt_k7a, List.forall_mem_cons.mpr ⟨mt_k8a, List.forall_mem_cons.mpr ⟨mt_k9a, List.forall_mem_cons.mpr ⟨mt_k10a, List.forall_mem_cons.mpr ⟨mt_k11a, fun _ h => absurd h List.not_mem_nil⟩⟩⟩⟩⟩⟩⟩⟩⟩⟩⟩⟩
theorem mt_cl_at {ci : Nat} {r : vw_C} (h : mt_cl[ci]? = some r) : ∃ q, mt_cf[ci]? = some q ∧ r = mt_c1 q ∧ mt_cq ci = q.2 := by
  unfold mt_cl at h
  rw [List.getElem?_map] at h
  cases hq : mt_cf[ci]? with
  | none => rw [hq] at h; cases h
  | some q =>
    rw [hq] at h
    exact ⟨q, rfl, (Option.some.inj h).symm, by unfold mt_cq; rw [hq]⟩
theorem mt_cls_ok {ci : Nat} {r : vw_C} (h : mt_cl[ci]? = some r) : (∀ w ∈ u_ws r.1 r.2.1 r.2.2, w ∈ mt_Ts) ∧ (∀ k, k < r.2.2 → parseFieldDescriptor (r.2.1 k).2.2.1 = some (mt_ct ci k)) ∧ (∀ a, a < r.2.2 → ∀ b, b < r.2.2 → a ≠ b → (r.2.1 a).2.1 ≠ (r.2.1 b).2.1) := by
  obtain ⟨q, hq, rfl, hcq⟩ := mt_cl_at h
  have hm := List.mem_of_getElem? hq
  have hB := mt_clsBs q hm
  unfold mt_clsB at hB
  simp only [Bool.and_eq_true, List.all_eq_true, List.mem_range, decide_eq_true_eq] at hB
  obtain ⟨b1, b2, b3⟩ := hB
  refine ⟨fun w hw => mt_inT (mt_clsW q hm w hw) (b1 w hw), fun k hk => ?_, fun a ha b hb hne => b3 a ha b hb hne⟩
  unfold mt_ct
  rw [hcq]
  exact b2 k hk
theorem mt_fk_ok {ci fid k : Nat} {r : vw_C} (h : mt_fk ci fid = some k) (hc : mt_cl[ci]? = some r) : k < r.2.2 ∧ r.2.1 k = mt_fd fid ∧ mt_ct ci k = mt_ft fid := by
  obtain ⟨q, hq, rfl, hcq⟩ := mt_cl_at hc
  unfold mt_fk at h
  rw [hcq] at h
  obtain ⟨h1, h2, -⟩ := List.findIdx?_eq_some_iff_getElem.mp h
  have h3 : q.2[k] = fid := by simpa using h2
  have h4 : q.2.getD k 999 = fid := by rw [List.getD_eq_getElem?_getD, List.getElem?_eq_getElem h1, h3]; rfl
  refine ⟨h1, ?_, ?_⟩
  · show mt_fd (q.2.getD k 999) = mt_fd fid
    rw [h4]
  · unfold mt_ct
    rw [hcq, h4]

