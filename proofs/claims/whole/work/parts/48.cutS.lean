section
variable {d : Nat}
def lx_isn (bs : List Nat) (p : Nat) : Bool := isDig (bs.getD p 0) || (decide (bs.getD p 0 = 45) && isDig (bs.getD (p + 1) 0))
theorem rm_cutN {h : mx_H} {bs : List Nat} {p : Nat} {v2 v3 : Option Value} (B : rm_buf h bs) (hp : p < bs.length) (h32 : bs.getD p 0 ≠ 32) : mx_G (d + 1) 240 24 [some (.ref 76), some (.int (nI p)), v2, v3] [] h = mx_G (d + 1) 240 74 [some (.ref 76), some (.int (nI p)), some (.int (nI (bs.getD p 0))), some (.int (if lx_isn bs p = true then 1 else 0))] [] h := by
  have hT := B.1
  have hb := B.2.1
  have hc := rm_buf_lt B p
  have hc1 := rm_buf_lt B (p + 1)
  have e32 : ¬ nI (bs.getD p 0) = 32 := fun z => h32 ((nI_eq (b := 32) (by omega) (by decide)).mp z)
  have n1 : ¬ (1 : Int32) = 0 := by decide
  by_cases h1 : isDig (bs.getD p 0) = true
  · have e : lx_isn bs p = true := by unfold lx_isn; rw [h1]; rfl
    simp only [r240_24, r240_25, r240_26, r240_29, r240_30, r240_31, r240_33, r240_36, r240_39, r240_42, r240_43, r240_46, r240_49, r240_50, r240_52, r240_55, r240_56, r240_57, r240_58, r240_59, r240_62, r240_65, r240_68, r240_69, r240_72, r240_73, mx_isr_ref, mx_isr_null, mx_wt_nil, mx_wt_1, mx_wt_2, mx_wt_3, Option.bind_some, Option.toList_some, Option.toList_none, List.cons_append, List.nil_append, mx_nl_int, mx_nl_ref, mx_nl_null, mx_nl_none, mx_nb0, mx_nb1, mx_cat_int, mx_cat_ref, if_true, if_false, not_true_eq_false, not_false_eq_true, hT, rm_look B (show p < 2 ^ 30 by omega), e32, rm_digit hc, h1, n1, e]
  · have h1' : isDig (bs.getD p 0) = false := by simpa using h1
    by_cases h2 : bs.getD p 0 = 45
    · have e45 : nI (bs.getD p 0) = 45 := by rw [h2]; rfl
      by_cases h3 : isDig (bs.getD (p + 1) 0) = true
      · have e : lx_isn bs p = true := by unfold lx_isn; rw [h1', h3, decide_eq_true h2]; rfl
        have e45' : (nI (bs.getD p 0) = 45) = True := eq_true e45
        simp only [r240_24, r240_25, r240_26, r240_29, r240_30, r240_31, r240_33, r240_36, r240_39, r240_42, r240_43, r240_46, r240_49, r240_50, r240_52, r240_55, r240_56, r240_57, r240_58, r240_59, r240_62, r240_65, r240_68, r240_69, r240_72, r240_73, mx_isr_ref, mx_isr_null, mx_wt_nil, mx_wt_1, mx_wt_2, mx_wt_3, Option.bind_some, Option.toList_some, Option.toList_none, List.cons_append, List.nil_append, mx_nl_int, mx_nl_ref, mx_nl_null, mx_nl_none, mx_nb0, mx_nb1, mx_cat_int, mx_cat_ref, if_true, if_false, not_true_eq_false, not_false_eq_true, hT, rm_look B (show p < 2 ^ 30 by omega), rm_look B (show p + 1 < 2 ^ 30 by omega), e32, rm_digit hc, rm_digit hc1, h1', h3, n1, e, e45', Bool.false_eq_true, nI_1]
      · have h3' : isDig (bs.getD (p + 1) 0) = false := by simpa using h3
        have e : lx_isn bs p = false := by unfold lx_isn; rw [h1', h3', Bool.and_false]; rfl
        have e45' : (nI (bs.getD p 0) = 45) = True := eq_true e45
        simp only [r240_24, r240_25, r240_26, r240_29, r240_30, r240_31, r240_33, r240_36, r240_39, r240_42, r240_43, r240_46, r240_49, r240_50, r240_52, r240_55, r240_56, r240_57, r240_58, r240_59, r240_62, r240_65, r240_68, r240_69, r240_72, r240_73, mx_isr_ref, mx_isr_null, mx_wt_nil, mx_wt_1, mx_wt_2, mx_wt_3, Option.bind_some, Option.toList_some, Option.toList_none, List.cons_append, List.nil_append, mx_nl_int, mx_nl_ref, mx_nl_null, mx_nl_none, mx_nb0, mx_nb1, mx_cat_int, mx_cat_ref, if_true, if_false, not_true_eq_false, not_false_eq_true, hT, rm_look B (show p < 2 ^ 30 by omega), rm_look B (show p + 1 < 2 ^ 30 by omega), e32, rm_digit hc, rm_digit hc1, h1', h3', e, e45', Bool.false_eq_true, nI_1]
    · have e45 : ¬ nI (bs.getD p 0) = 45 := fun z => h2 ((nI_eq (b := 45) (by omega) (by decide)).mp z)
      have e : lx_isn bs p = false := by unfold lx_isn; rw [h1', decide_eq_false h2]; rfl
      simp only [r240_24, r240_25, r240_26, r240_29, r240_30, r240_31, r240_33, r240_36, r240_39, r240_42, r240_43, r240_46, r240_49, r240_50, r240_52, r240_55, r240_56, r240_57, r240_58, r240_59, r240_62, r240_65, r240_68, r240_69, r240_72, r240_73, mx_isr_ref, mx_isr_null, mx_wt_nil, mx_wt_1, mx_wt_2, mx_wt_3, Option.bind_some, Option.toList_some, Option.toList_none, List.cons_append, List.nil_append, mx_nl_int, mx_nl_ref, mx_nl_null, mx_nl_none, mx_nb0, mx_nb1, mx_cat_int, mx_cat_ref, if_true, if_false, not_true_eq_false, not_false_eq_true, hT, rm_look B (show p < 2 ^ 30 by omega), e32, rm_digit hc, h1', e, e45, Bool.false_eq_true]
def lx_kd (c : Nat) (n : Bool) : Int32 := if isLet c = true then 1 else if n = true then 2 else if c = 34 then 3 else 4
theorem rm_cutK {h : mx_H} {p tn c : Nat} {n : Bool} (hT : mr_T h) (hc : c < 128) (ht : mi h 76 4 = nI tn) (htn : tn < 130) : mx_G (d + 2) 240 74 [some (.ref 76), some (.int (nI p)), some (.int (nI c)), some (.int (if n = true then 1 else 0))] [] h = mx_G (d + 2) 240 124 [some (.ref 76), some (.int (nI p)), some (.int (nI c)), some (.int (if n = true then 1 else 0))] [] (mx_up (mx_up h 79 tn (.int (lx_kd c n))) 82 tn (.long (lN c))) := by
  have t1 : (nI tn).toNatClampNeg = tn := nI_clamp (by omega)
  have t2 : (0 : Int32) ≤ nI tn := nI_pos' (by omega)
  have n1 : ¬ (1 : Int32) = 0 := by decide
  have T' : ∀ x, mr_T (mx_up h 79 tn (.int x)) := fun x => mr_T_up hT (by decide) x
  have ht' : ∀ x, mi (mx_up h 79 tn (.int x)) 76 4 = nI tn := fun x => by rw [mi_up, if_neg (fun z => absurd z.1 (by decide))]; exact ht
  have el : (nI c).toInt64 = lN c := nI_l (by omega)
  have e34 : (nI c = 34) = (c = 34) := propext (nI_eq (b := 34) (by omega) (by decide))
  unfold lx_kd
  by_cases h1 : isLet c = true
  · simp only [r240_74, r240_75, r240_78, r240_79, r240_82, r240_83, r240_86, r240_89, r240_90, r240_93, r240_94, r240_97, r240_98, r240_101, r240_102, r240_104, r240_107, r240_108, r240_111, r240_112, r240_113, r240_114, r240_117, r240_118, r240_121, r240_122, r240_123, mx_isr_ref, mx_isr_null, mx_wt_nil, mx_wt_1, mx_wt_2, mx_wt_3, Option.bind_some, Option.toList_some, Option.toList_none, List.cons_append, List.nil_append, mx_nl_int, mx_nl_ref, mx_nl_null, mx_nl_none, mx_nb0, mx_nb1, mx_cat_int, mx_cat_ref, if_true, if_false, not_true_eq_false, not_false_eq_true, hT, T', ht, ht', rm_isLetter hc, h1, n1, mr_ty_77, mr_n_77, mr_isI_77, mr_ty_78, mr_n_78, mr_isI_78, mr_ty_79, mr_n_79, mr_isI_79, mr_ty_80, mr_n_80, mr_isI_80, mr_ty_81, mr_n_81, mr_isI_81, mr_ty_82, mr_n_82, mr_isJ_82, mr_ty_83, mr_n_83, mr_isI_83, mr_ty_84, mr_n_84, mr_isI_84, mr_ty_85, mr_n_85, mr_isI_85, mr_ty_86, mr_n_86, mr_isI_86, mr_ty_87, mr_n_87, mr_isI_87, mr_ty_88, mr_n_88, mr_isI_88, mr_ty_89, mr_n_89, mr_isJ_89, mr_ty_90, mr_n_90, mr_isI_90, mr_ty_91, mr_n_91, mr_isI_91, mr_ty_92, mr_n_92, mr_isI_92, mr_ty_93, mr_n_93, mr_isI_93, mr_ty_94, mr_n_94, mr_isI_94, mr_ty_95, mr_n_95, mr_isI_95, mr_ty_96, mr_n_96, mr_isI_96, mr_ty_97, mr_n_97, mr_isI_97, mr_ty_98, mr_n_98, mr_isI_98, mr_ty_99, mr_n_99, mr_isI_99, mr_ty_100, mr_n_100, mr_isI_100, mr_ty_101, mr_n_101, mr_isI_101, mr_isF_1, mr_isF_3, mr_isF_4, mr_isF_10, mr_isF_12, mr_isF_18, mr_isF_19, mr_isF_21, mr_isF_22, mr_isF_23, mr_isF_26, mr_isF_34, mr_isF_37, mr_isF_38, mr_isF_39, mr_T_up, mr_T_upJ, mr_T_f, t1, t2, htn, el]
  · have h1' : isLet c = false := by simpa using h1
    cases n
    · by_cases h3 : c = 34
      · simp only [r240_74, r240_75, r240_78, r240_79, r240_82, r240_83, r240_86, r240_89, r240_90, r240_93, r240_94, r240_97, r240_98, r240_101, r240_102, r240_104, r240_107, r240_108, r240_111, r240_112, r240_113, r240_114, r240_117, r240_118, r240_121, r240_122, r240_123, mx_isr_ref, mx_isr_null, mx_wt_nil, mx_wt_1, mx_wt_2, mx_wt_3, Option.bind_some, Option.toList_some, Option.toList_none, List.cons_append, List.nil_append, mx_nl_int, mx_nl_ref, mx_nl_null, mx_nl_none, mx_nb0, mx_nb1, mx_cat_int, mx_cat_ref, if_true, if_false, not_true_eq_false, not_false_eq_true, hT, T', ht, ht', rm_isLetter hc, h1', mr_ty_77, mr_n_77, mr_isI_77, mr_ty_78, mr_n_78, mr_isI_78, mr_ty_79, mr_n_79, mr_isI_79, mr_ty_80, mr_n_80, mr_isI_80, mr_ty_81, mr_n_81, mr_isI_81, mr_ty_82, mr_n_82, mr_isJ_82, mr_ty_83, mr_n_83, mr_isI_83, mr_ty_84, mr_n_84, mr_isI_84, mr_ty_85, mr_n_85, mr_isI_85, mr_ty_86, mr_n_86, mr_isI_86, mr_ty_87, mr_n_87, mr_isI_87, mr_ty_88, mr_n_88, mr_isI_88, mr_ty_89, mr_n_89, mr_isJ_89, mr_ty_90, mr_n_90, mr_isI_90, mr_ty_91, mr_n_91, mr_isI_91, mr_ty_92, mr_n_92, mr_isI_92, mr_ty_93, mr_n_93, mr_isI_93, mr_ty_94, mr_n_94, mr_isI_94, mr_ty_95, mr_n_95, mr_isI_95, mr_ty_96, mr_n_96, mr_isI_96, mr_ty_97, mr_n_97, mr_isI_97, mr_ty_98, mr_n_98, mr_isI_98, mr_ty_99, mr_n_99, mr_isI_99, mr_ty_100, mr_n_100, mr_isI_100, mr_ty_101, mr_n_101, mr_isI_101, mr_isF_1, mr_isF_3, mr_isF_4, mr_isF_10, mr_isF_12, mr_isF_18, mr_isF_19, mr_isF_21, mr_isF_22, mr_isF_23, mr_isF_26, mr_isF_34, mr_isF_37, mr_isF_38, mr_isF_39, mr_T_up, mr_T_upJ, mr_T_f, t1, t2, htn, el, Bool.false_eq_true, e34, eq_true h3]
      · simp only [r240_74, r240_75, r240_78, r240_79, r240_82, r240_83, r240_86, r240_89, r240_90, r240_93, r240_94, r240_97, r240_98, r240_101, r240_102, r240_104, r240_107, r240_108, r240_111, r240_112, r240_113, r240_114, r240_117, r240_118, r240_121, r240_122, r240_123, mx_isr_ref, mx_isr_null, mx_wt_nil, mx_wt_1, mx_wt_2, mx_wt_3, Option.bind_some, Option.toList_some, Option.toList_none, List.cons_append, List.nil_append, mx_nl_int, mx_nl_ref, mx_nl_null, mx_nl_none, mx_nb0, mx_nb1, mx_cat_int, mx_cat_ref, if_true, if_false, not_true_eq_false, not_false_eq_true, hT, T', ht, ht', rm_isLetter hc, h1', mr_ty_77, mr_n_77, mr_isI_77, mr_ty_78, mr_n_78, mr_isI_78, mr_ty_79, mr_n_79, mr_isI_79, mr_ty_80, mr_n_80, mr_isI_80, mr_ty_81, mr_n_81, mr_isI_81, mr_ty_82, mr_n_82, mr_isJ_82, mr_ty_83, mr_n_83, mr_isI_83, mr_ty_84, mr_n_84, mr_isI_84, mr_ty_85, mr_n_85, mr_isI_85, mr_ty_86, mr_n_86, mr_isI_86, mr_ty_87, mr_n_87, mr_isI_87, mr_ty_88, mr_n_88, mr_isI_88, mr_ty_89, mr_n_89, mr_isJ_89, mr_ty_90, mr_n_90, mr_isI_90, mr_ty_91, mr_n_91, mr_isI_91, mr_ty_92, mr_n_92, mr_isI_92, mr_ty_93, mr_n_93, mr_isI_93, mr_ty_94, mr_n_94, mr_isI_94, mr_ty_95, mr_n_95, mr_isI_95, mr_ty_96, mr_n_96, mr_isI_96, mr_ty_97, mr_n_97, mr_isI_97, mr_ty_98, mr_n_98, mr_isI_98, mr_ty_99, mr_n_99, mr_isI_99, mr_ty_100, mr_n_100, mr_isI_100, mr_ty_101, mr_n_101, mr_isI_101, mr_isF_1, mr_isF_3, mr_isF_4, mr_isF_10, mr_isF_12, mr_isF_18, mr_isF_19, mr_isF_21, mr_isF_22, mr_isF_23, mr_isF_26, mr_isF_34, mr_isF_37, mr_isF_38, mr_isF_39, mr_T_up, mr_T_upJ, mr_T_f, t1, t2, htn, el, Bool.false_eq_true, e34, h3]
    · simp only [r240_74, r240_75, r240_78, r240_79, r240_82, r240_83, r240_86, r240_89, r240_90, r240_93, r240_94, r240_97, r240_98, r240_101, r240_102, r240_104, r240_107, r240_108, r240_111, r240_112, r240_113, r240_114, r240_117, r240_118, r240_121, r240_122, r240_123, mx_isr_ref, mx_isr_null, mx_wt_nil, mx_wt_1, mx_wt_2, mx_wt_3, Option.bind_some, Option.toList_some, Option.toList_none, List.cons_append, List.nil_append, mx_nl_int, mx_nl_ref, mx_nl_null, mx_nl_none, mx_nb0, mx_nb1, mx_cat_int, mx_cat_ref, if_true, if_false, not_true_eq_false, not_false_eq_true, hT, T', ht, ht', rm_isLetter hc, h1', n1, mr_ty_77, mr_n_77, mr_isI_77, mr_ty_78, mr_n_78, mr_isI_78, mr_ty_79, mr_n_79, mr_isI_79, mr_ty_80, mr_n_80, mr_isI_80, mr_ty_81, mr_n_81, mr_isI_81, mr_ty_82, mr_n_82, mr_isJ_82, mr_ty_83, mr_n_83, mr_isI_83, mr_ty_84, mr_n_84, mr_isI_84, mr_ty_85, mr_n_85, mr_isI_85, mr_ty_86, mr_n_86, mr_isI_86, mr_ty_87, mr_n_87, mr_isI_87, mr_ty_88, mr_n_88, mr_isI_88, mr_ty_89, mr_n_89, mr_isJ_89, mr_ty_90, mr_n_90, mr_isI_90, mr_ty_91, mr_n_91, mr_isI_91, mr_ty_92, mr_n_92, mr_isI_92, mr_ty_93, mr_n_93, mr_isI_93, mr_ty_94, mr_n_94, mr_isI_94, mr_ty_95, mr_n_95, mr_isI_95, mr_ty_96, mr_n_96, mr_isI_96, mr_ty_97, mr_n_97, mr_isI_97, mr_ty_98, mr_n_98, mr_isI_98, mr_ty_99, mr_n_99, mr_isI_99, mr_ty_100, mr_n_100, mr_isI_100, mr_ty_101, mr_n_101, mr_isI_101, mr_isF_1, mr_isF_3, mr_isF_4, mr_isF_10, mr_isF_12, mr_isF_18, mr_isF_19, mr_isF_21, mr_isF_22, mr_isF_23, mr_isF_26, mr_isF_34, mr_isF_37, mr_isF_38, mr_isF_39, mr_T_up, mr_T_upJ, mr_T_f, t1, t2, htn, el, Bool.false_eq_true]
theorem rm_cutE {h : mx_H} {tn : Nat} {x : Int32} {l1 l2 l3 : Option Value} (hT : mr_T h) (ht : mi h 76 4 = nI tn) : mx_G d 240 179 [some (.ref 76), l1, l2, l3] [.int x] h = mx_G d 240 12 [some (.ref 76), some (.int x), l2, l3] [] (mx_up h 76 4 (.int (nI (tn + 1)))) := by
  simp only [r240_179, r240_180, r240_181, r240_182, r240_185, r240_186, r240_187, r240_190, mx_isr_ref, mx_isr_null, mx_wt_nil, mx_wt_1, mx_wt_2, mx_wt_3, Option.bind_some, Option.toList_some, Option.toList_none, List.cons_append, List.nil_append, mx_nl_int, mx_nl_ref, mx_nl_null, mx_nl_none, mx_nb0, mx_nb1, mx_cat_int, mx_cat_ref, if_true, if_false, not_true_eq_false, not_false_eq_true, hT, ht, nI_1]
theorem takeWhile_drop {α : Type} (f : α → Bool) (l : List α) : l.dropWhile f = l.drop (l.takeWhile f).length := by
  induction l with
  | nil => rfl
  | cons c l ih =>
    rw [List.takeWhile_cons, List.dropWhile_cons]
    cases hf : f c
    · rfl
    · simp [ih]
theorem lx_num_len (l : List Nat) : (lx_num l).length ≤ l.length ∨ l = [] := by
  unfold lx_num
  split
  · rename_i h
    cases l with
    | nil => exact Or.inr rfl
    | cons c l => exact Or.inl (by simp)
  · refine Or.inl ?_
    rw [List.length_take]
    have : (l.takeWhile isDig).length ≤ l.length := (List.takeWhile_sublist isDig).length_le
    omega
theorem lx_num_pos {l : List Nat} (h : isDig (l.getD 0 0) = true) : 0 < (lx_num l).length := by
  unfold lx_num
  split
  · simp
  · cases l with
    | nil => exact absurd h (by decide)
    | cons c l =>
      have h' : isDig c = true := h
      rw [List.takeWhile_cons, h']
      simp
end
