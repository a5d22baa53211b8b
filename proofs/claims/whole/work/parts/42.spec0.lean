/-! What the texts mean: letters, tokens. -/
def sml (c : Nat) : Nat := if 65 ≤ c ∧ c ≤ 90 then c + 32 else c
def isLet (c : Nat) : Bool := decide (97 ≤ sml c) && decide (sml c ≤ 122)
def isDig (c : Nat) : Bool := decide (48 ≤ c) && decide (c ≤ 57)
def isSig (c : Nat) : Bool := [123, 125, 91, 93, 40, 41, 58, 44, 46, 43, 45, 61, 10].contains c
def isEsc (c : Nat) : Bool := decide (c = 34) || (decide (c = 92) || decide (c = 47))
abbrev tk : Type := Nat × List Nat
/-- a string's body: what it stands for, and what is behind its end -/
def lx_str : List Nat → Option (List Nat × List Nat)
  | [] => none
  | [c] => if c = 34 then some ([], []) else none
  | c :: e :: r => if c = 34 then some ([], e :: r) else if c < 32 then none else if c = 92 then (if isEsc e = true then (lx_str r).map fun q => (e :: q.1, q.2) else none) else (lx_str (e :: r)).map fun q => (c :: q.1, q.2)
def lx_num (l : List Nat) : List Nat := if l.head? = some 48 then [48] else (l.takeWhile isDig).take 9
/-- the token that begins with c -/
def lx_one (c : Nat) (r : List Nat) : tk × List Nat :=
  if isLet c = true then ((1, ((c :: r).takeWhile isLet).map sml), (c :: r).dropWhile isLet)
  else if isDig c = true then ((2, lx_num (c :: r)), (c :: r).drop (lx_num (c :: r)).length)
  else if c = 45 ∧ isDig (r.getD 0 0) = true then ((2, 45 :: lx_num r), r.drop (lx_num r).length)
  else if c = 34 then match lx_str r with
    | some q => ((3, q.1), q.2)
    | none => ((4, []), r)
  else if isSig c = true then ((c, []), r) else ((4, []), r)
def lx : Nat → List Nat → List tk
  | 0, _ => []
  | _ + 1, [] => []
  | n + 1, c :: r => if c = 32 then lx n r else (lx_one c r).1 :: lx n (lx_one c r).2
/-- a word's number, its letters small -/
def enc (l : List Nat) : Nat := l.foldl (fun v c => 27 * v + (c - 96)) 0
def w27 (l : List Nat) : Int64 := if l.length ≤ 9 then lN (enc l) else -1
def dval (l : List Nat) : Nat := l.foldl (fun v c => 10 * v + (c - 48)) 0
/-- a number's value -/
def nval (l : List Nat) : Int64 := if l.head? = some 45 then -lN (dval l.tail) else lN (dval l)
theorem enc_app (l : List Nat) (c : Nat) : enc (l ++ [c]) = 27 * enc l + (c - 96) := by simp [enc]
theorem dval_app (l : List Nat) (c : Nat) : dval (l ++ [c]) = 10 * dval l + (c - 48) := by simp [dval]
section
variable {d : Nat} {h : mx_H}
theorem rm_small {c : Nat} (hc : c < 128) : mx_G d 244 0 [some (.int (nI c))] [] h = some (some (.int (nI (sml c))), h) := by
  have key : ∀ c, c < 128 → (nI c < 65 ↔ c < 65) ∧ (90 < nI c ↔ 90 < c) ∧ nI c + 32 = nI (c + 32) := by decide +kernel
  obtain ⟨k1, k2, k3⟩ := key c hc
  unfold sml
  by_cases h1 : c < 65
  · simp only [r244_0, r244_1, r244_3, r244_6, r244_7, r244_9, r244_12, r244_13, r244_15, r244_16, r244_19, r244_20, k1, h1, if_true, show ¬ (65 ≤ c ∧ c ≤ 90) by omega, if_false]
  · by_cases h2 : 90 < c
    · simp only [r244_0, r244_1, r244_3, r244_6, r244_7, r244_9, r244_12, r244_13, r244_15, r244_16, r244_19, r244_20, k1, h1, k2, h2, if_true, if_false, show ¬ (65 ≤ c ∧ c ≤ 90) by omega]
    · simp only [r244_0, r244_1, r244_3, r244_6, r244_7, r244_9, r244_12, r244_13, r244_15, r244_16, r244_19, r244_20, k1, h1, k2, h2, k3, if_false, if_true, show 65 ≤ c ∧ c ≤ 90 by omega, and_self]
theorem sml_lt {c : Nat} (hc : c < 128) : sml c < 128 := by unfold sml; split <;> omega
theorem rm_isLetter {c : Nat} (hc : c < 128) : mx_G (d + 1) 243 0 [some (.int (nI c))] [] h = some (some (.int (if isLet c = true then 1 else 0)), h) := by
  have key : ∀ c, c < 128 → (nI c < 97 ↔ c < 97) ∧ (122 < nI c ↔ 122 < c) := by decide +kernel
  obtain ⟨k1, k2⟩ := key (sml c) (sml_lt hc)
  unfold isLet
  by_cases h1 : sml c < 97
  · simp only [r243_0, r243_1, r243_4, r243_6, r243_9, r243_10, r243_13, r243_15, r243_18, r243_19, r243_22, r243_23, mx_isr_ref, mx_isr_null, mx_wt_nil, mx_wt_1, mx_wt_2, mx_wt_3, Option.bind_some, Option.toList_some, Option.toList_none, List.cons_append, List.nil_append, mx_nl_int, mx_nl_ref, mx_nl_null, mx_nl_none, mx_nb0, mx_nb1, mx_cat_int, mx_cat_ref, if_true, if_false, not_true_eq_false, not_false_eq_true, rm_small hc, k1, h1, show ¬ 97 ≤ sml c by omega, decide_false, Bool.false_and, Bool.false_eq_true]
  · by_cases h2 : 122 < sml c
    · simp only [r243_0, r243_1, r243_4, r243_6, r243_9, r243_10, r243_13, r243_15, r243_18, r243_19, r243_22, r243_23, mx_isr_ref, mx_isr_null, mx_wt_nil, mx_wt_1, mx_wt_2, mx_wt_3, Option.bind_some, Option.toList_some, Option.toList_none, List.cons_append, List.nil_append, mx_nl_int, mx_nl_ref, mx_nl_null, mx_nl_none, mx_nb0, mx_nb1, mx_cat_int, mx_cat_ref, if_true, if_false, not_true_eq_false, not_false_eq_true, rm_small hc, k1, h1, k2, h2, show 97 ≤ sml c by omega, show ¬ sml c ≤ 122 by omega, decide_false, decide_true, Bool.and_false, Bool.false_eq_true]
    · simp only [r243_0, r243_1, r243_4, r243_6, r243_9, r243_10, r243_13, r243_15, r243_18, r243_19, r243_22, r243_23, mx_isr_ref, mx_isr_null, mx_wt_nil, mx_wt_1, mx_wt_2, mx_wt_3, Option.bind_some, Option.toList_some, Option.toList_none, List.cons_append, List.nil_append, mx_nl_int, mx_nl_ref, mx_nl_null, mx_nl_none, mx_nb0, mx_nb1, mx_cat_int, mx_cat_ref, if_true, if_false, not_true_eq_false, not_false_eq_true, rm_small hc, k1, h1, k2, h2, show 97 ≤ sml c by omega, show sml c ≤ 122 by omega, decide_true, Bool.and_self]
theorem rm_digit {c : Nat} (hc : c < 128) : mx_G d 242 0 [some (.int (nI c))] [] h = some (some (.int (if isDig c = true then 1 else 0)), h) := by
  have key : ∀ c, c < 128 → (nI c < 48 ↔ c < 48) ∧ (57 < nI c ↔ 57 < c) := by decide +kernel
  obtain ⟨k1, k2⟩ := key c hc
  unfold isDig
  by_cases h1 : c < 48
  · simp only [r242_0, r242_1, r242_3, r242_6, r242_7, r242_9, r242_12, r242_13, r242_16, r242_17, mx_isr_ref, mx_isr_null, mx_wt_nil, mx_wt_1, mx_wt_2, mx_wt_3, Option.bind_some, Option.toList_some, Option.toList_none, List.cons_append, List.nil_append, mx_nl_int, mx_nl_ref, mx_nl_null, mx_nl_none, mx_nb0, mx_nb1, mx_cat_int, mx_cat_ref, if_true, if_false, not_true_eq_false, not_false_eq_true, k1, h1, show ¬ 48 ≤ c by omega, decide_false, Bool.false_and, Bool.false_eq_true]
  · by_cases h2 : 57 < c
    · simp only [r242_0, r242_1, r242_3, r242_6, r242_7, r242_9, r242_12, r242_13, r242_16, r242_17, mx_isr_ref, mx_isr_null, mx_wt_nil, mx_wt_1, mx_wt_2, mx_wt_3, Option.bind_some, Option.toList_some, Option.toList_none, List.cons_append, List.nil_append, mx_nl_int, mx_nl_ref, mx_nl_null, mx_nl_none, mx_nb0, mx_nb1, mx_cat_int, mx_cat_ref, if_true, if_false, not_true_eq_false, not_false_eq_true, k1, h1, k2, h2, show 48 ≤ c by omega, show ¬ c ≤ 57 by omega, decide_false, decide_true, Bool.and_false, Bool.false_eq_true]
    · simp only [r242_0, r242_1, r242_3, r242_6, r242_7, r242_9, r242_12, r242_13, r242_16, r242_17, mx_isr_ref, mx_isr_null, mx_wt_nil, mx_wt_1, mx_wt_2, mx_wt_3, Option.bind_some, Option.toList_some, Option.toList_none, List.cons_append, List.nil_append, mx_nl_int, mx_nl_ref, mx_nl_null, mx_nl_none, mx_nb0, mx_nb1, mx_cat_int, mx_cat_ref, if_true, if_false, not_true_eq_false, not_false_eq_true, k1, h1, k2, h2, show 48 ≤ c by omega, show c ≤ 57 by omega, decide_true, Bool.and_self]
theorem rm_isSign {c : Nat} (hc : c < 128) : mx_G d 248 0 [some (.int (nI c))] [] h = some (some (.int (if isSig c = true then 1 else 0)), h) := by
  have key : ∀ c, c < 128 → (nI c = 123 ↔ c = 123) ∧ (nI c = 125 ↔ c = 125) ∧ (nI c = 91 ↔ c = 91) ∧ (nI c = 93 ↔ c = 93) ∧ (nI c = 40 ↔ c = 40) ∧ (nI c = 41 ↔ c = 41) ∧ (nI c = 58 ↔ c = 58) ∧ (nI c = 44 ↔ c = 44) ∧ (nI c = 46 ↔ c = 46) ∧ (nI c = 43 ↔ c = 43) ∧ (nI c = 45 ↔ c = 45) ∧ (nI c = 61 ↔ c = 61) ∧ (nI c = 10 ↔ c = 10) := by decide +kernel
  obtain ⟨k1, k2, k3, k4, k5, k6, k7, k8, k9, k10, k11, k12, k13⟩ := key c hc
  have hs : (isSig c = true) ↔ (c = 123 ∨ c = 125 ∨ c = 91 ∨ c = 93 ∨ c = 40 ∨ c = 41 ∨ c = 58 ∨ c = 44 ∨ c = 46 ∨ c = 43 ∨ c = 45 ∨ c = 61 ∨ c = 10) := by
    simp [isSig]
  by_cases hd : c = 123 ∨ c = 125 ∨ c = 91 ∨ c = 93 ∨ c = 40 ∨ c = 41 ∨ c = 58 ∨ c = 44 ∨ c = 46 ∨ c = 43 ∨ c = 45 ∨ c = 61 ∨ c = 10
  · rw [if_pos (hs.mpr hd)]
    rcases hd with rfl | rfl | rfl | rfl | rfl | rfl | rfl | rfl | rfl | rfl | rfl | rfl | rfl <;> simp only [r248_0, r248_1, r248_3, r248_6, r248_7, r248_9, r248_12, r248_13, r248_15, r248_18, r248_19, r248_21, r248_24, r248_25, r248_27, r248_30, r248_31, r248_33, r248_36, r248_37, r248_39, r248_42, r248_43, r248_45, r248_48, r248_49, r248_51, r248_54, r248_55, r248_57, r248_60, r248_61, r248_63, r248_66, r248_67, r248_69, r248_72, r248_73, r248_75, r248_78, r248_79, r248_82, r248_83, mx_isr_ref, mx_isr_null, mx_wt_nil, mx_wt_1, mx_wt_2, mx_wt_3, Option.bind_some, Option.toList_some, Option.toList_none, List.cons_append, List.nil_append, mx_nl_int, mx_nl_ref, mx_nl_null, mx_nl_none, mx_nb0, mx_nb1, mx_cat_int, mx_cat_ref, if_true, if_false, not_true_eq_false, not_false_eq_true, k1, k2, k3, k4, k5, k6, k7, k8, k9, k10, k11, k12, k13, Nat.reduceEqDiff]
  · rw [if_neg (fun z => hd (hs.mp z))]
    simp only [not_or] at hd
    obtain ⟨n1, n2, n3, n4, n5, n6, n7, n8, n9, n10, n11, n12, n13⟩ := hd
    simp only [r248_0, r248_1, r248_3, r248_6, r248_7, r248_9, r248_12, r248_13, r248_15, r248_18, r248_19, r248_21, r248_24, r248_25, r248_27, r248_30, r248_31, r248_33, r248_36, r248_37, r248_39, r248_42, r248_43, r248_45, r248_48, r248_49, r248_51, r248_54, r248_55, r248_57, r248_60, r248_61, r248_63, r248_66, r248_67, r248_69, r248_72, r248_73, r248_75, r248_78, r248_79, r248_82, r248_83, mx_isr_ref, mx_isr_null, mx_wt_nil, mx_wt_1, mx_wt_2, mx_wt_3, Option.bind_some, Option.toList_some, Option.toList_none, List.cons_append, List.nil_append, mx_nl_int, mx_nl_ref, mx_nl_null, mx_nl_none, mx_nb0, mx_nb1, mx_cat_int, mx_cat_ref, if_true, if_false, not_true_eq_false, not_false_eq_true, k1, k2, k3, k4, k5, k6, k7, k8, k9, k10, k11, k12, k13, n1, n2, n3, n4, n5, n6, n7, n8, n9, n10, n11, n12, n13]
/-- the model's buffer holds bs -/
def rm_buf (h : mx_H) (bs : List Nat) : Prop := mr_T h ∧ bs.length ≤ 120 ∧ mi h 76 3 = nI bs.length ∧ ∀ k, k < bs.length → mi h 78 k = nI (bs.getD k 0) ∧ bs.getD k 0 < 128
theorem rm_buf_lt {bs : List Nat} (B : rm_buf h bs) (k : Nat) : bs.getD k 0 < 128 := by
  by_cases hk : k < bs.length
  · exact (B.2.2.2 k hk).2
  · rw [List.getD_eq_getElem?_getD, List.getElem?_eq_none (by omega)]
    decide
theorem rm_buf_up {bs : List Nat} (B : rm_buf h bs) {a k : Nat} (x : Int32) (hA : mr_isI a = true) (ha : a ≠ 78) : rm_buf (mx_up h a k (.int x)) bs := by
  have h76 : a ≠ 76 := by
    rintro rfl
    exact absurd hA (by decide)
  refine ⟨mr_T_up B.1 hA x, B.2.1, ?_, fun j hj => ?_⟩
  · rw [mi_up, if_neg (fun z => h76 z.1.symm)]
    exact B.2.2.1
  · rw [mi_up, if_neg (fun z => ha z.1.symm)]
    exact B.2.2.2 j hj
theorem rm_buf_upJ {bs : List Nat} (B : rm_buf h bs) {a k : Nat} (x : Int64) (hA : mr_isJ a = true) : rm_buf (mx_up h a k (.long x)) bs := by
  have h76 : a ≠ 76 := by
    rintro rfl
    exact absurd hA (by decide)
  have h78 : a ≠ 78 := by
    rintro rfl
    exact absurd hA (by decide)
  refine ⟨mr_T_upJ B.1 hA x, B.2.1, ?_, fun j hj => ?_⟩
  · rw [mi_upJ _ _ _ _ _ _ (Ne.symm h76)]
    exact B.2.2.1
  · rw [mi_upJ _ _ _ _ _ _ (Ne.symm h78)]
    exact B.2.2.2 j hj
theorem rm_buf_f {bs : List Nat} (B : rm_buf h bs) {k : Nat} (x : Int32) (hk : mr_isF k = true) (h3 : k ≠ 3) : rm_buf (mx_up h 76 k (.int x)) bs := by
  refine ⟨mr_T_f B.1 hk x, B.2.1, ?_, fun j hj => ?_⟩
  · rw [mi_up, if_neg (fun z => h3 z.2.1.symm)]
    exact B.2.2.1
  · rw [mi_up, if_neg (fun z => absurd z.1 (by decide))]
    exact B.2.2.2 j hj
theorem rm_look {bs : List Nat} (B : rm_buf h bs) {k : Nat} (hk : k < 2 ^ 30) : mx_G d 241 0 [some (.ref 76), some (.int (nI k))] [] h = some (some (.int (nI (bs.getD k 0))), h) := by
  have hT := B.1
  by_cases hl : k < bs.length
  · have e1 : ¬ nI bs.length ≤ nI k := nI_ge hl (by have := B.2.1; omega)
    have e2 : (nI k).toNatClampNeg = k := nI_clamp (by omega)
    have e3 : (0 : Int32) ≤ nI k := nI_pos' (by omega)
    have e4 : k < 120 := by have := B.2.1; omega
    simp only [r241_0, r241_1, r241_2, r241_5, r241_8, r241_9, r241_12, r241_13, r241_14, r241_17, r241_18, mx_isr_ref, mx_isr_null, mx_wt_nil, mx_wt_1, mx_wt_2, mx_wt_3, Option.bind_some, Option.toList_some, Option.toList_none, List.cons_append, List.nil_append, mx_nl_int, mx_nl_ref, mx_nl_null, mx_nl_none, mx_nb0, mx_nb1, mx_cat_int, mx_cat_ref, if_true, if_false, not_true_eq_false, not_false_eq_true, hT, B.2.2.1, e1, mr_ty_77, mr_n_77, mr_isI_77, mr_ty_78, mr_n_78, mr_isI_78, mr_ty_79, mr_n_79, mr_isI_79, mr_ty_80, mr_n_80, mr_isI_80, mr_ty_81, mr_n_81, mr_isI_81, mr_ty_82, mr_n_82, mr_isJ_82, mr_ty_83, mr_n_83, mr_isI_83, mr_ty_84, mr_n_84, mr_isI_84, mr_ty_85, mr_n_85, mr_isI_85, mr_ty_86, mr_n_86, mr_isI_86, mr_ty_87, mr_n_87, mr_isI_87, mr_ty_88, mr_n_88, mr_isI_88, mr_ty_89, mr_n_89, mr_isJ_89, mr_ty_90, mr_n_90, mr_isI_90, mr_ty_91, mr_n_91, mr_isI_91, mr_ty_92, mr_n_92, mr_isI_92, mr_ty_93, mr_n_93, mr_isI_93, mr_ty_94, mr_n_94, mr_isI_94, mr_ty_95, mr_n_95, mr_isI_95, mr_ty_96, mr_n_96, mr_isI_96, mr_ty_97, mr_n_97, mr_isI_97, mr_ty_98, mr_n_98, mr_isI_98, mr_ty_99, mr_n_99, mr_isI_99, mr_ty_100, mr_n_100, mr_isI_100, mr_ty_101, mr_n_101, mr_isI_101, mr_isF_1, mr_isF_3, mr_isF_4, mr_isF_10, mr_isF_12, mr_isF_18, mr_isF_19, mr_isF_21, mr_isF_22, mr_isF_23, mr_isF_26, mr_isF_34, mr_isF_37, mr_isF_38, mr_isF_39, mr_T_up, mr_T_upJ, mr_T_f, e2, e3, e4, (B.2.2.2 k hl).1]
  · have e1 : nI bs.length ≤ nI k := nI_le (by omega) (by omega)
    have e2 : bs.getD k 0 = 0 := by rw [List.getD_eq_getElem?_getD, List.getElem?_eq_none (by omega)]; rfl
    simp only [r241_0, r241_1, r241_2, r241_5, r241_8, r241_9, r241_12, r241_13, r241_14, r241_17, r241_18, mx_isr_ref, mx_isr_null, mx_wt_nil, mx_wt_1, mx_wt_2, mx_wt_3, Option.bind_some, Option.toList_some, Option.toList_none, List.cons_append, List.nil_append, mx_nl_int, mx_nl_ref, mx_nl_null, mx_nl_none, mx_nb0, mx_nb1, mx_cat_int, mx_cat_ref, if_true, if_false, not_true_eq_false, not_false_eq_true, hT, B.2.2.1, e1, e2, nI_0]
end
