section
variable {d : Nat} {h : mx_H} {ts : List tk}
def w_true : List Nat := [116, 114, 117, 101]
def w_false : List Nat := [102, 97, 108, 115, 101]
/-- 1: a number, 2: a string, 3: a truth, 0: none of them -/
def sc (ts : List tk) (t : Nat) : Nat := if (tA ts t).1 = 2 then 1 else if (tA ts t).1 = 3 then 2 else if tW ts t w_true = true ∨ tW ts t w_false = true then 3 else 0
def isMem (ts : List tk) (t : Nat) : Bool := decide ((tA ts t).1 = 3) && tI ts (t + 1) 58
def cl (o : Bool) : Nat := if o = true then 125 else 93
def mv (o : Bool) (k : Nat) : Nat := if o = true then k + 2 else k
/-- the parts of an object or array, by the place where each begins, and where it ends -/
def pP (rc : Nat → Option Nat) (ts : List tk) (o : Bool) : Nat → Nat → Option (List Nat × Nat)
  | 0, _ => none
  | f + 1, k => if (o && !isMem ts k) = true then none else match rc (mv o k) with
    | none => none
    | some e => if tI ts e (cl o) = true then some ([k], e + 1) else if tI ts e 44 = true then (pP rc ts o f (e + 1)).map fun q => (k :: q.1, q.2) else none
/-- where the value at t ends, n levels in it at most -/
def pE (ts : List tk) : Nat → Nat → Option Nat
  | 0, t => if 0 < sc ts t then some (t + 1) else none
  | n + 1, t => if tI ts t 123 = true then (if tI ts (t + 1) 125 = true then some (t + 2) else (pP (pE ts n) ts true 120 (t + 1)).map fun q => q.2)
    else if tI ts t 91 = true then (if tI ts (t + 1) 93 = true then some (t + 2) else (pP (pE ts n) ts false 120 (t + 1)).map fun q => q.2)
    else if 0 < sc ts t then some (t + 1) else none
theorem w_true_ok : (∀ c ∈ w_true, 97 ≤ c ∧ c ≤ 122) ∧ w_true.length ≤ 9 ∧ (407354 : Int64) = lN (enc w_true) := by decide
theorem w_false_ok : (∀ c ∈ w_false, 97 ≤ c ∧ c ≤ 122) ∧ w_false.length ≤ 9 ∧ (3217595 : Int64) = lN (enc w_false) := by decide
theorem rm_kind (S : rm_TS h ts) {t : Nat} (ht : t < ts.length) : mi h 79 t = (if (tA ts t).1 = 1 then 1 else if (tA ts t).1 = 2 then 2 else if (tA ts t).1 = 3 then 3 else 4) ∧ (tA ts t).1 ≠ 0 := by
  have hk := S.2.2.2 t ht
  rw [show ts.getD t (0, []) = tA ts t from rfl] at hk
  rcases hk with ⟨a, b, -⟩ | ⟨a, b, -⟩ | ⟨a, b, -⟩ | ⟨a, a', b, e⟩
  · rw [b, if_pos a]; exact ⟨rfl, by omega⟩
  · rw [b, if_neg (by omega), if_pos a]; exact ⟨rfl, by omega⟩
  · rw [b, if_neg (by omega), if_neg (by omega), if_pos a]; exact ⟨rfl, by omega⟩
  · rw [b, if_neg (by omega), if_neg (by omega), if_neg (by omega)]; exact ⟨rfl, by omega⟩
theorem rm_scalar (S : rm_TK h ts) {t : Nat} (ht : t < 2 ^ 30) : mx_G (d + 1) 253 0 [some (.ref 76), some (.int (nI t))] [] h = some (some (.int (nI (sc ts t))), h) := by
  have s0 := S.1
  obtain ⟨⟨T, hl, s1, s2⟩, hok⟩ := S
  by_cases htl : t < ts.length
  · have e1 : nI t < nI ts.length := nI_lt htl (by omega)
    have t1 : (nI t).toNatClampNeg = t := nI_clamp (by omega)
    have t2 : (0 : Int32) ≤ nI t := nI_pos' (by omega)
    have t3 : t < 130 := by omega
    obtain ⟨hk, -⟩ := rm_kind s0 htl
    by_cases h2 : (tA ts t).1 = 2
    · rw [if_neg (by omega), if_pos h2] at hk
      have e : sc ts t = 1 := by unfold sc; rw [if_pos h2]
      simp only [r253_0, r253_1, r253_2, r253_5, r253_8, r253_9, r253_12, r253_13, r253_16, r253_17, r253_18, r253_19, r253_22, r253_23, r253_26, r253_27, r253_30, r253_31, r253_32, r253_33, r253_36, r253_37, r253_40, r253_41, r253_42, r253_45, r253_48, r253_51, r253_52, r253_53, r253_56, r253_59, r253_62, r253_63, r253_66, r253_67, mx_isr_ref, mx_isr_null, mx_wt_nil, mx_wt_1, mx_wt_2, mx_wt_3, Option.bind_some, Option.toList_some, Option.toList_none, List.cons_append, List.nil_append, mx_nl_int, mx_nl_ref, mx_nl_null, mx_nl_none, mx_nb0, mx_nb1, mx_cat_int, mx_cat_ref, if_true, if_false, not_true_eq_false, not_false_eq_true, T, s1, e1, mr_ty_77, mr_n_77, mr_isI_77, mr_ty_78, mr_n_78, mr_isI_78, mr_ty_79, mr_n_79, mr_isI_79, mr_ty_80, mr_n_80, mr_isI_80, mr_ty_81, mr_n_81, mr_isI_81, mr_ty_82, mr_n_82, mr_isJ_82, mr_ty_83, mr_n_83, mr_isI_83, mr_ty_84, mr_n_84, mr_isI_84, mr_ty_85, mr_n_85, mr_isI_85, mr_ty_86, mr_n_86, mr_isI_86, mr_ty_87, mr_n_87, mr_isI_87, mr_ty_88, mr_n_88, mr_isI_88, mr_ty_89, mr_n_89, mr_isJ_89, mr_ty_90, mr_n_90, mr_isI_90, mr_ty_91, mr_n_91, mr_isI_91, mr_ty_92, mr_n_92, mr_isI_92, mr_ty_93, mr_n_93, mr_isI_93, mr_ty_94, mr_n_94, mr_isI_94, mr_ty_95, mr_n_95, mr_isI_95, mr_ty_96, mr_n_96, mr_isI_96, mr_ty_97, mr_n_97, mr_isI_97, mr_ty_98, mr_n_98, mr_isI_98, mr_ty_99, mr_n_99, mr_isI_99, mr_ty_100, mr_n_100, mr_isI_100, mr_ty_101, mr_n_101, mr_isI_101, mr_isF_1, mr_isF_3, mr_isF_4, mr_isF_10, mr_isF_12, mr_isF_18, mr_isF_19, mr_isF_21, mr_isF_22, mr_isF_23, mr_isF_26, mr_isF_34, mr_isF_37, mr_isF_38, mr_isF_39, mr_T_up, mr_T_upJ, mr_T_f, t1, t2, t3, hk, e]
      rfl
    · by_cases h3 : (tA ts t).1 = 3
      · rw [if_neg (by omega), if_neg h2, if_pos h3] at hk
        have e : sc ts t = 2 := by unfold sc; rw [if_neg h2, if_pos h3]
        simp only [r253_0, r253_1, r253_2, r253_5, r253_8, r253_9, r253_12, r253_13, r253_16, r253_17, r253_18, r253_19, r253_22, r253_23, r253_26, r253_27, r253_30, r253_31, r253_32, r253_33, r253_36, r253_37, r253_40, r253_41, r253_42, r253_45, r253_48, r253_51, r253_52, r253_53, r253_56, r253_59, r253_62, r253_63, r253_66, r253_67, mx_isr_ref, mx_isr_null, mx_wt_nil, mx_wt_1, mx_wt_2, mx_wt_3, Option.bind_some, Option.toList_some, Option.toList_none, List.cons_append, List.nil_append, mx_nl_int, mx_nl_ref, mx_nl_null, mx_nl_none, mx_nb0, mx_nb1, mx_cat_int, mx_cat_ref, if_true, if_false, not_true_eq_false, not_false_eq_true, T, s1, e1, mr_ty_77, mr_n_77, mr_isI_77, mr_ty_78, mr_n_78, mr_isI_78, mr_ty_79, mr_n_79, mr_isI_79, mr_ty_80, mr_n_80, mr_isI_80, mr_ty_81, mr_n_81, mr_isI_81, mr_ty_82, mr_n_82, mr_isJ_82, mr_ty_83, mr_n_83, mr_isI_83, mr_ty_84, mr_n_84, mr_isI_84, mr_ty_85, mr_n_85, mr_isI_85, mr_ty_86, mr_n_86, mr_isI_86, mr_ty_87, mr_n_87, mr_isI_87, mr_ty_88, mr_n_88, mr_isI_88, mr_ty_89, mr_n_89, mr_isJ_89, mr_ty_90, mr_n_90, mr_isI_90, mr_ty_91, mr_n_91, mr_isI_91, mr_ty_92, mr_n_92, mr_isI_92, mr_ty_93, mr_n_93, mr_isI_93, mr_ty_94, mr_n_94, mr_isI_94, mr_ty_95, mr_n_95, mr_isI_95, mr_ty_96, mr_n_96, mr_isI_96, mr_ty_97, mr_n_97, mr_isI_97, mr_ty_98, mr_n_98, mr_isI_98, mr_ty_99, mr_n_99, mr_isI_99, mr_ty_100, mr_n_100, mr_isI_100, mr_ty_101, mr_n_101, mr_isI_101, mr_isF_1, mr_isF_3, mr_isF_4, mr_isF_10, mr_isF_12, mr_isF_18, mr_isF_19, mr_isF_21, mr_isF_22, mr_isF_23, mr_isF_26, mr_isF_34, mr_isF_37, mr_isF_38, mr_isF_39, mr_T_up, mr_T_upJ, mr_T_f, t1, t2, t3, hk, e, show ¬ (3 : Int32) = 2 by decide]
        rfl
      · have hk2 : ¬ mi h 79 t = 2 := by
          rw [hk, if_neg h2, if_neg h3]
          split <;> decide
        have hk3 : ¬ mi h 79 t = 3 := by
          rw [hk, if_neg h2, if_neg h3]
          split <;> decide
        have sy := rm_says (d := d) ⟨s0, hok⟩ ht w_true_ok.2.2 w_true_ok.1 w_true_ok.2.1
        have sn := rm_says (d := d) ⟨s0, hok⟩ ht w_false_ok.2.2 w_false_ok.1 w_false_ok.2.1
        have e : sc ts t = if tW ts t w_true = true ∨ tW ts t w_false = true then 3 else 0 := by unfold sc; rw [if_neg h2, if_neg h3]
        rw [e]
        by_cases a : tW ts t w_true = true
        · simp only [r253_0, r253_1, r253_2, r253_5, r253_8, r253_9, r253_12, r253_13, r253_16, r253_17, r253_18, r253_19, r253_22, r253_23, r253_26, r253_27, r253_30, r253_31, r253_32, r253_33, r253_36, r253_37, r253_40, r253_41, r253_42, r253_45, r253_48, r253_51, r253_52, r253_53, r253_56, r253_59, r253_62, r253_63, r253_66, r253_67, mx_isr_ref, mx_isr_null, mx_wt_nil, mx_wt_1, mx_wt_2, mx_wt_3, Option.bind_some, Option.toList_some, Option.toList_none, List.cons_append, List.nil_append, mx_nl_int, mx_nl_ref, mx_nl_null, mx_nl_none, mx_nb0, mx_nb1, mx_cat_int, mx_cat_ref, if_true, if_false, not_true_eq_false, not_false_eq_true, T, s1, e1, mr_ty_77, mr_n_77, mr_isI_77, mr_ty_78, mr_n_78, mr_isI_78, mr_ty_79, mr_n_79, mr_isI_79, mr_ty_80, mr_n_80, mr_isI_80, mr_ty_81, mr_n_81, mr_isI_81, mr_ty_82, mr_n_82, mr_isJ_82, mr_ty_83, mr_n_83, mr_isI_83, mr_ty_84, mr_n_84, mr_isI_84, mr_ty_85, mr_n_85, mr_isI_85, mr_ty_86, mr_n_86, mr_isI_86, mr_ty_87, mr_n_87, mr_isI_87, mr_ty_88, mr_n_88, mr_isI_88, mr_ty_89, mr_n_89, mr_isJ_89, mr_ty_90, mr_n_90, mr_isI_90, mr_ty_91, mr_n_91, mr_isI_91, mr_ty_92, mr_n_92, mr_isI_92, mr_ty_93, mr_n_93, mr_isI_93, mr_ty_94, mr_n_94, mr_isI_94, mr_ty_95, mr_n_95, mr_isI_95, mr_ty_96, mr_n_96, mr_isI_96, mr_ty_97, mr_n_97, mr_isI_97, mr_ty_98, mr_n_98, mr_isI_98, mr_ty_99, mr_n_99, mr_isI_99, mr_ty_100, mr_n_100, mr_isI_100, mr_ty_101, mr_n_101, mr_isI_101, mr_isF_1, mr_isF_3, mr_isF_4, mr_isF_10, mr_isF_12, mr_isF_18, mr_isF_19, mr_isF_21, mr_isF_22, mr_isF_23, mr_isF_26, mr_isF_34, mr_isF_37, mr_isF_38, mr_isF_39, mr_T_up, mr_T_upJ, mr_T_f, t1, t2, t3, hk2, hk3, sy, a, true_or, show ¬ (1 : Int32) = 0 by decide]
          rfl
        · have a' : tW ts t w_true = false := by simpa using a
          by_cases b : tW ts t w_false = true
          · simp only [r253_0, r253_1, r253_2, r253_5, r253_8, r253_9, r253_12, r253_13, r253_16, r253_17, r253_18, r253_19, r253_22, r253_23, r253_26, r253_27, r253_30, r253_31, r253_32, r253_33, r253_36, r253_37, r253_40, r253_41, r253_42, r253_45, r253_48, r253_51, r253_52, r253_53, r253_56, r253_59, r253_62, r253_63, r253_66, r253_67, mx_isr_ref, mx_isr_null, mx_wt_nil, mx_wt_1, mx_wt_2, mx_wt_3, Option.bind_some, Option.toList_some, Option.toList_none, List.cons_append, List.nil_append, mx_nl_int, mx_nl_ref, mx_nl_null, mx_nl_none, mx_nb0, mx_nb1, mx_cat_int, mx_cat_ref, if_true, if_false, not_true_eq_false, not_false_eq_true, T, s1, e1, mr_ty_77, mr_n_77, mr_isI_77, mr_ty_78, mr_n_78, mr_isI_78, mr_ty_79, mr_n_79, mr_isI_79, mr_ty_80, mr_n_80, mr_isI_80, mr_ty_81, mr_n_81, mr_isI_81, mr_ty_82, mr_n_82, mr_isJ_82, mr_ty_83, mr_n_83, mr_isI_83, mr_ty_84, mr_n_84, mr_isI_84, mr_ty_85, mr_n_85, mr_isI_85, mr_ty_86, mr_n_86, mr_isI_86, mr_ty_87, mr_n_87, mr_isI_87, mr_ty_88, mr_n_88, mr_isI_88, mr_ty_89, mr_n_89, mr_isJ_89, mr_ty_90, mr_n_90, mr_isI_90, mr_ty_91, mr_n_91, mr_isI_91, mr_ty_92, mr_n_92, mr_isI_92, mr_ty_93, mr_n_93, mr_isI_93, mr_ty_94, mr_n_94, mr_isI_94, mr_ty_95, mr_n_95, mr_isI_95, mr_ty_96, mr_n_96, mr_isI_96, mr_ty_97, mr_n_97, mr_isI_97, mr_ty_98, mr_n_98, mr_isI_98, mr_ty_99, mr_n_99, mr_isI_99, mr_ty_100, mr_n_100, mr_isI_100, mr_ty_101, mr_n_101, mr_isI_101, mr_isF_1, mr_isF_3, mr_isF_4, mr_isF_10, mr_isF_12, mr_isF_18, mr_isF_19, mr_isF_21, mr_isF_22, mr_isF_23, mr_isF_26, mr_isF_34, mr_isF_37, mr_isF_38, mr_isF_39, mr_T_up, mr_T_upJ, mr_T_f, t1, t2, t3, hk2, hk3, sy, sn, a', b, or_true, Bool.false_eq_true, show ¬ (1 : Int32) = 0 by decide]
            rfl
          · have b' : tW ts t w_false = false := by simpa using b
            simp only [r253_0, r253_1, r253_2, r253_5, r253_8, r253_9, r253_12, r253_13, r253_16, r253_17, r253_18, r253_19, r253_22, r253_23, r253_26, r253_27, r253_30, r253_31, r253_32, r253_33, r253_36, r253_37, r253_40, r253_41, r253_42, r253_45, r253_48, r253_51, r253_52, r253_53, r253_56, r253_59, r253_62, r253_63, r253_66, r253_67, mx_isr_ref, mx_isr_null, mx_wt_nil, mx_wt_1, mx_wt_2, mx_wt_3, Option.bind_some, Option.toList_some, Option.toList_none, List.cons_append, List.nil_append, mx_nl_int, mx_nl_ref, mx_nl_null, mx_nl_none, mx_nb0, mx_nb1, mx_cat_int, mx_cat_ref, if_true, if_false, not_true_eq_false, not_false_eq_true, T, s1, e1, mr_ty_77, mr_n_77, mr_isI_77, mr_ty_78, mr_n_78, mr_isI_78, mr_ty_79, mr_n_79, mr_isI_79, mr_ty_80, mr_n_80, mr_isI_80, mr_ty_81, mr_n_81, mr_isI_81, mr_ty_82, mr_n_82, mr_isJ_82, mr_ty_83, mr_n_83, mr_isI_83, mr_ty_84, mr_n_84, mr_isI_84, mr_ty_85, mr_n_85, mr_isI_85, mr_ty_86, mr_n_86, mr_isI_86, mr_ty_87, mr_n_87, mr_isI_87, mr_ty_88, mr_n_88, mr_isI_88, mr_ty_89, mr_n_89, mr_isJ_89, mr_ty_90, mr_n_90, mr_isI_90, mr_ty_91, mr_n_91, mr_isI_91, mr_ty_92, mr_n_92, mr_isI_92, mr_ty_93, mr_n_93, mr_isI_93, mr_ty_94, mr_n_94, mr_isI_94, mr_ty_95, mr_n_95, mr_isI_95, mr_ty_96, mr_n_96, mr_isI_96, mr_ty_97, mr_n_97, mr_isI_97, mr_ty_98, mr_n_98, mr_isI_98, mr_ty_99, mr_n_99, mr_isI_99, mr_ty_100, mr_n_100, mr_isI_100, mr_ty_101, mr_n_101, mr_isI_101, mr_isF_1, mr_isF_3, mr_isF_4, mr_isF_10, mr_isF_12, mr_isF_18, mr_isF_19, mr_isF_21, mr_isF_22, mr_isF_23, mr_isF_26, mr_isF_34, mr_isF_37, mr_isF_38, mr_isF_39, mr_T_up, mr_T_upJ, mr_T_f, t1, t2, t3, hk2, hk3, sy, sn, a', b', or_self, Bool.false_eq_true]
            rfl
  · have e1 : ¬ nI t < nI ts.length := nI_nlt (by omega) (by omega)
    have e : sc ts t = 0 := by
      unfold sc tW
      rw [tA_ge (by omega)]
      decide
    simp only [r253_0, r253_1, r253_2, r253_5, r253_8, r253_9, r253_12, r253_13, r253_16, r253_17, r253_18, r253_19, r253_22, r253_23, r253_26, r253_27, r253_30, r253_31, r253_32, r253_33, r253_36, r253_37, r253_40, r253_41, r253_42, r253_45, r253_48, r253_51, r253_52, r253_53, r253_56, r253_59, r253_62, r253_63, r253_66, r253_67, mx_isr_ref, mx_isr_null, mx_wt_nil, mx_wt_1, mx_wt_2, mx_wt_3, Option.bind_some, Option.toList_some, Option.toList_none, List.cons_append, List.nil_append, mx_nl_int, mx_nl_ref, mx_nl_null, mx_nl_none, mx_nb0, mx_nb1, mx_cat_int, mx_cat_ref, if_true, if_false, not_true_eq_false, not_false_eq_true, T, s1, e1, e]
    rfl
theorem rm_isMember (S : rm_TS h ts) {t : Nat} (ht : t < 2 ^ 29) : mx_G (d + 1) 252 0 [some (.ref 76), some (.int (nI t))] [] h = some (some (.int (if isMem ts t = true then 1 else 0)), h) := by
  have s0 := S
  obtain ⟨T, hl, s1, s2⟩ := S
  unfold isMem
  by_cases htl : t < ts.length
  · have e1 : ¬ nI ts.length ≤ nI t := nI_ge htl (by omega)
    have t1 : (nI t).toNatClampNeg = t := nI_clamp (by omega)
    have t2 : (0 : Int32) ≤ nI t := nI_pos' (by omega)
    have t3 : t < 130 := by omega
    obtain ⟨hk, -⟩ := rm_kind s0 htl
    have si := rm_is (d := d) s0 (t := t + 1) (c := 58) (by omega) (by decide) (by decide)
    rw [show nI 58 = 58 from rfl] at si
    by_cases h3 : (tA ts t).1 = 3
    · rw [if_neg (by omega), if_neg (by omega), if_pos h3] at hk
      by_cases a : tI ts (t + 1) 58 = true
      · simp only [r252_0, r252_1, r252_2, r252_5, r252_8, r252_9, r252_12, r252_13, r252_14, r252_15, r252_18, r252_19, r252_20, r252_21, r252_22, r252_24, r252_27, r252_30, r252_31, r252_34, r252_35, mx_isr_ref, mx_isr_null, mx_wt_nil, mx_wt_1, mx_wt_2, mx_wt_3, Option.bind_some, Option.toList_some, Option.toList_none, List.cons_append, List.nil_append, mx_nl_int, mx_nl_ref, mx_nl_null, mx_nl_none, mx_nb0, mx_nb1, mx_cat_int, mx_cat_ref, if_true, if_false, not_true_eq_false, not_false_eq_true, T, s1, e1, mr_ty_77, mr_n_77, mr_isI_77, mr_ty_78, mr_n_78, mr_isI_78, mr_ty_79, mr_n_79, mr_isI_79, mr_ty_80, mr_n_80, mr_isI_80, mr_ty_81, mr_n_81, mr_isI_81, mr_ty_82, mr_n_82, mr_isJ_82, mr_ty_83, mr_n_83, mr_isI_83, mr_ty_84, mr_n_84, mr_isI_84, mr_ty_85, mr_n_85, mr_isI_85, mr_ty_86, mr_n_86, mr_isI_86, mr_ty_87, mr_n_87, mr_isI_87, mr_ty_88, mr_n_88, mr_isI_88, mr_ty_89, mr_n_89, mr_isJ_89, mr_ty_90, mr_n_90, mr_isI_90, mr_ty_91, mr_n_91, mr_isI_91, mr_ty_92, mr_n_92, mr_isI_92, mr_ty_93, mr_n_93, mr_isI_93, mr_ty_94, mr_n_94, mr_isI_94, mr_ty_95, mr_n_95, mr_isI_95, mr_ty_96, mr_n_96, mr_isI_96, mr_ty_97, mr_n_97, mr_isI_97, mr_ty_98, mr_n_98, mr_isI_98, mr_ty_99, mr_n_99, mr_isI_99, mr_ty_100, mr_n_100, mr_isI_100, mr_ty_101, mr_n_101, mr_isI_101, mr_isF_1, mr_isF_3, mr_isF_4, mr_isF_10, mr_isF_12, mr_isF_18, mr_isF_19, mr_isF_21, mr_isF_22, mr_isF_23, mr_isF_26, mr_isF_34, mr_isF_37, mr_isF_38, mr_isF_39, mr_T_up, mr_T_upJ, mr_T_f, t1, t2, t3, hk, nI_1, si, a, h3, decide_true, Bool.and_self, show ¬ (1 : Int32) = 0 by decide]
      · have a' : tI ts (t + 1) 58 = false := by simpa using a
        simp only [r252_0, r252_1, r252_2, r252_5, r252_8, r252_9, r252_12, r252_13, r252_14, r252_15, r252_18, r252_19, r252_20, r252_21, r252_22, r252_24, r252_27, r252_30, r252_31, r252_34, r252_35, mx_isr_ref, mx_isr_null, mx_wt_nil, mx_wt_1, mx_wt_2, mx_wt_3, Option.bind_some, Option.toList_some, Option.toList_none, List.cons_append, List.nil_append, mx_nl_int, mx_nl_ref, mx_nl_null, mx_nl_none, mx_nb0, mx_nb1, mx_cat_int, mx_cat_ref, if_true, if_false, not_true_eq_false, not_false_eq_true, T, s1, e1, mr_ty_77, mr_n_77, mr_isI_77, mr_ty_78, mr_n_78, mr_isI_78, mr_ty_79, mr_n_79, mr_isI_79, mr_ty_80, mr_n_80, mr_isI_80, mr_ty_81, mr_n_81, mr_isI_81, mr_ty_82, mr_n_82, mr_isJ_82, mr_ty_83, mr_n_83, mr_isI_83, mr_ty_84, mr_n_84, mr_isI_84, mr_ty_85, mr_n_85, mr_isI_85, mr_ty_86, mr_n_86, mr_isI_86, mr_ty_87, mr_n_87, mr_isI_87, mr_ty_88, mr_n_88, mr_isI_88, mr_ty_89, mr_n_89, mr_isJ_89, mr_ty_90, mr_n_90, mr_isI_90, mr_ty_91, mr_n_91, mr_isI_91, mr_ty_92, mr_n_92, mr_isI_92, mr_ty_93, mr_n_93, mr_isI_93, mr_ty_94, mr_n_94, mr_isI_94, mr_ty_95, mr_n_95, mr_isI_95, mr_ty_96, mr_n_96, mr_isI_96, mr_ty_97, mr_n_97, mr_isI_97, mr_ty_98, mr_n_98, mr_isI_98, mr_ty_99, mr_n_99, mr_isI_99, mr_ty_100, mr_n_100, mr_isI_100, mr_ty_101, mr_n_101, mr_isI_101, mr_isF_1, mr_isF_3, mr_isF_4, mr_isF_10, mr_isF_12, mr_isF_18, mr_isF_19, mr_isF_21, mr_isF_22, mr_isF_23, mr_isF_26, mr_isF_34, mr_isF_37, mr_isF_38, mr_isF_39, mr_T_up, mr_T_upJ, mr_T_f, t1, t2, t3, hk, nI_1, si, a', Bool.and_false, Bool.false_eq_true]
    · have hk3 : ¬ mi h 79 t = 3 := by
        rw [hk]
        split
        · decide
        · split
          · decide
          · decide
      simp only [r252_0, r252_1, r252_2, r252_5, r252_8, r252_9, r252_12, r252_13, r252_14, r252_15, r252_18, r252_19, r252_20, r252_21, r252_22, r252_24, r252_27, r252_30, r252_31, r252_34, r252_35, mx_isr_ref, mx_isr_null, mx_wt_nil, mx_wt_1, mx_wt_2, mx_wt_3, Option.bind_some, Option.toList_some, Option.toList_none, List.cons_append, List.nil_append, mx_nl_int, mx_nl_ref, mx_nl_null, mx_nl_none, mx_nb0, mx_nb1, mx_cat_int, mx_cat_ref, if_true, if_false, not_true_eq_false, not_false_eq_true, T, s1, e1, mr_ty_77, mr_n_77, mr_isI_77, mr_ty_78, mr_n_78, mr_isI_78, mr_ty_79, mr_n_79, mr_isI_79, mr_ty_80, mr_n_80, mr_isI_80, mr_ty_81, mr_n_81, mr_isI_81, mr_ty_82, mr_n_82, mr_isJ_82, mr_ty_83, mr_n_83, mr_isI_83, mr_ty_84, mr_n_84, mr_isI_84, mr_ty_85, mr_n_85, mr_isI_85, mr_ty_86, mr_n_86, mr_isI_86, mr_ty_87, mr_n_87, mr_isI_87, mr_ty_88, mr_n_88, mr_isI_88, mr_ty_89, mr_n_89, mr_isJ_89, mr_ty_90, mr_n_90, mr_isI_90, mr_ty_91, mr_n_91, mr_isI_91, mr_ty_92, mr_n_92, mr_isI_92, mr_ty_93, mr_n_93, mr_isI_93, mr_ty_94, mr_n_94, mr_isI_94, mr_ty_95, mr_n_95, mr_isI_95, mr_ty_96, mr_n_96, mr_isI_96, mr_ty_97, mr_n_97, mr_isI_97, mr_ty_98, mr_n_98, mr_isI_98, mr_ty_99, mr_n_99, mr_isI_99, mr_ty_100, mr_n_100, mr_isI_100, mr_ty_101, mr_n_101, mr_isI_101, mr_isF_1, mr_isF_3, mr_isF_4, mr_isF_10, mr_isF_12, mr_isF_18, mr_isF_19, mr_isF_21, mr_isF_22, mr_isF_23, mr_isF_26, mr_isF_34, mr_isF_37, mr_isF_38, mr_isF_39, mr_T_up, mr_T_upJ, mr_T_f, t1, t2, t3, hk3, h3, decide_false, Bool.false_and, Bool.false_eq_true]
  · have e1 : nI ts.length ≤ nI t := nI_le (by omega) (by omega)
    have e : ¬ (tA ts t).1 = 3 := by rw [tA_ge (by omega)]; decide
    simp only [r252_0, r252_1, r252_2, r252_5, r252_8, r252_9, r252_12, r252_13, r252_14, r252_15, r252_18, r252_19, r252_20, r252_21, r252_22, r252_24, r252_27, r252_30, r252_31, r252_34, r252_35, mx_isr_ref, mx_isr_null, mx_wt_nil, mx_wt_1, mx_wt_2, mx_wt_3, Option.bind_some, Option.toList_some, Option.toList_none, List.cons_append, List.nil_append, mx_nl_int, mx_nl_ref, mx_nl_null, mx_nl_none, mx_nb0, mx_nb1, mx_cat_int, mx_cat_ref, if_true, if_false, not_true_eq_false, not_false_eq_true, T, s1, e1, e, decide_false, Bool.false_and, Bool.false_eq_true]
end
