section
variable {d : Nat}
theorem isDig_ge {c : Nat} (h : isDig c = true) : 48 ≤ c ∧ c ≤ 57 := by
  unfold isDig at h
  simp only [Bool.and_eq_true, decide_eq_true_eq] at h
  exact h
theorem rm_numE {h : mx_H} (T : mr_T h) {tn p f q : Nat} (neg : Bool) (v : Nat) (ht : mi h 76 4 = nI tn) (htn : tn < 130) : mx_G d 246 96 [some (.ref 76), some (.int (nI p)), some (.int (if neg = true then 1 else 0)), some (.int (nI q)), some (.int (nI f)), some (.long (lN v)), none] [] h = some (some (.int (nI q)), mx_up h 82 tn (.long (if neg = true then -lN v else lN v))) := by
  have t1 : (nI tn).toNatClampNeg = tn := nI_clamp (by omega)
  have t2 : (0 : Int32) ≤ nI tn := nI_pos' (by omega)
  cases neg
  · simp only [r246_0, r246_1, r246_2, r246_5, r246_7, r246_10, r246_11, r246_14, r246_15, r246_16, r246_17, r246_20, r246_21, r246_22, r246_23, r246_26, r246_27, r246_28, r246_29, r246_31, r246_32, r246_34, r246_35, r246_36, r246_39, r246_42, r246_45, r246_46, r246_48, r246_50, r246_51, r246_54, r246_55, r246_57, r246_60, r246_61, r246_63, r246_66, r246_68, r246_71, r246_74, r246_76, r246_77, r246_78, r246_79, r246_82, r246_83, r246_84, r246_87, r246_88, r246_90, r246_93, r246_96, r246_97, r246_100, r246_101, r246_104, r246_105, r246_108, r246_110, r246_111, r246_114, r246_116, r246_117, r246_118, mx_isr_ref, mx_isr_null, mx_wt_nil, mx_wt_1, mx_wt_2, mx_wt_3, Option.bind_some, Option.toList_some, Option.toList_none, List.cons_append, List.nil_append, mx_nl_int, mx_nl_ref, mx_nl_null, mx_nl_none, mx_nb0, mx_nb1, mx_cat_int, mx_cat_ref, if_true, if_false, not_true_eq_false, not_false_eq_true, T, mr_ty_77, mr_n_77, mr_isI_77, mr_ty_78, mr_n_78, mr_isI_78, mr_ty_79, mr_n_79, mr_isI_79, mr_ty_80, mr_n_80, mr_isI_80, mr_ty_81, mr_n_81, mr_isI_81, mr_ty_82, mr_n_82, mr_isJ_82, mr_ty_83, mr_n_83, mr_isI_83, mr_ty_84, mr_n_84, mr_isI_84, mr_ty_85, mr_n_85, mr_isI_85, mr_ty_86, mr_n_86, mr_isI_86, mr_ty_87, mr_n_87, mr_isI_87, mr_ty_88, mr_n_88, mr_isI_88, mr_ty_89, mr_n_89, mr_isJ_89, mr_ty_90, mr_n_90, mr_isI_90, mr_ty_91, mr_n_91, mr_isI_91, mr_ty_92, mr_n_92, mr_isI_92, mr_ty_93, mr_n_93, mr_isI_93, mr_ty_94, mr_n_94, mr_isI_94, mr_ty_95, mr_n_95, mr_isI_95, mr_ty_96, mr_n_96, mr_isI_96, mr_ty_97, mr_n_97, mr_isI_97, mr_ty_98, mr_n_98, mr_isI_98, mr_ty_99, mr_n_99, mr_isI_99, mr_ty_100, mr_n_100, mr_isI_100, mr_ty_101, mr_n_101, mr_isI_101, mr_isF_1, mr_isF_3, mr_isF_4, mr_isF_10, mr_isF_12, mr_isF_18, mr_isF_19, mr_isF_21, mr_isF_22, mr_isF_23, mr_isF_26, mr_isF_34, mr_isF_37, mr_isF_38, mr_isF_39, mr_T_up, mr_T_upJ, mr_T_f, ht, t1, t2, htn, Bool.false_eq_true]
  · simp only [r246_0, r246_1, r246_2, r246_5, r246_7, r246_10, r246_11, r246_14, r246_15, r246_16, r246_17, r246_20, r246_21, r246_22, r246_23, r246_26, r246_27, r246_28, r246_29, r246_31, r246_32, r246_34, r246_35, r246_36, r246_39, r246_42, r246_45, r246_46, r246_48, r246_50, r246_51, r246_54, r246_55, r246_57, r246_60, r246_61, r246_63, r246_66, r246_68, r246_71, r246_74, r246_76, r246_77, r246_78, r246_79, r246_82, r246_83, r246_84, r246_87, r246_88, r246_90, r246_93, r246_96, r246_97, r246_100, r246_101, r246_104, r246_105, r246_108, r246_110, r246_111, r246_114, r246_116, r246_117, r246_118, mx_isr_ref, mx_isr_null, mx_wt_nil, mx_wt_1, mx_wt_2, mx_wt_3, Option.bind_some, Option.toList_some, Option.toList_none, List.cons_append, List.nil_append, mx_nl_int, mx_nl_ref, mx_nl_null, mx_nl_none, mx_nb0, mx_nb1, mx_cat_int, mx_cat_ref, if_true, if_false, not_true_eq_false, not_false_eq_true, T, mr_ty_77, mr_n_77, mr_isI_77, mr_ty_78, mr_n_78, mr_isI_78, mr_ty_79, mr_n_79, mr_isI_79, mr_ty_80, mr_n_80, mr_isI_80, mr_ty_81, mr_n_81, mr_isI_81, mr_ty_82, mr_n_82, mr_isJ_82, mr_ty_83, mr_n_83, mr_isI_83, mr_ty_84, mr_n_84, mr_isI_84, mr_ty_85, mr_n_85, mr_isI_85, mr_ty_86, mr_n_86, mr_isI_86, mr_ty_87, mr_n_87, mr_isI_87, mr_ty_88, mr_n_88, mr_isI_88, mr_ty_89, mr_n_89, mr_isJ_89, mr_ty_90, mr_n_90, mr_isI_90, mr_ty_91, mr_n_91, mr_isI_91, mr_ty_92, mr_n_92, mr_isI_92, mr_ty_93, mr_n_93, mr_isI_93, mr_ty_94, mr_n_94, mr_isI_94, mr_ty_95, mr_n_95, mr_isI_95, mr_ty_96, mr_n_96, mr_isI_96, mr_ty_97, mr_n_97, mr_isI_97, mr_ty_98, mr_n_98, mr_isI_98, mr_ty_99, mr_n_99, mr_isI_99, mr_ty_100, mr_n_100, mr_isI_100, mr_ty_101, mr_n_101, mr_isI_101, mr_isF_1, mr_isF_3, mr_isF_4, mr_isF_10, mr_isF_12, mr_isF_18, mr_isF_19, mr_isF_21, mr_isF_22, mr_isF_23, mr_isF_26, mr_isF_34, mr_isF_37, mr_isF_38, mr_isF_39, mr_T_up, mr_T_upJ, mr_T_f, ht, t1, t2, htn, show ¬ (1 : Int32) = 0 by decide]
theorem rm_numL {h : mx_H} {bs : List Nat} (B : rm_buf h bs) {tn p f : Nat} (neg : Bool) (ht : mi h 76 4 = nI tn) (htn : tn < 130) (h0 : bs.getD f 0 ≠ 48) : ∀ (suf pre : List Nat), bs.drop (f + pre.length) = suf → f + pre.length ≤ bs.length → pre.length ≤ 9 →
    mx_G (d + 1) 246 34 [some (.ref 76), some (.int (nI p)), some (.int (if neg = true then 1 else 0)), some (.int (nI (f + pre.length))), some (.int (nI f)), some (.long (lN (dval pre))), none] [] h = some (some (.int (nI (f + pre.length + ((suf.takeWhile isDig).take (9 - pre.length)).length))), mx_up h 82 tn (.long (if neg = true then -lN (dval (pre ++ (suf.takeWhile isDig).take (9 - pre.length))) else lN (dval (pre ++ (suf.takeWhile isDig).take (9 - pre.length)))))) := by
  intro suf
  have hT := B.1
  have hb := B.2.1
  induction suf with
  | nil =>
    intro pre hs hl h9
    have e0 : bs.getD (f + pre.length) 0 = 0 := by
      have := getD_drop (l := bs) (p := f + pre.length) 0
      rw [Nat.add_zero, hs] at this
      exact this
    rw [r246_34 mx_isr_ref]
    simp only [r246_35, r246_36, r246_39, r246_42, r246_45, r246_46, r246_48, r246_50, r246_51, r246_54, r246_55, r246_57, r246_60, r246_61, r246_63, r246_66, r246_68, r246_71, r246_74, r246_76, r246_77, r246_78, r246_79, r246_82, r246_83, r246_84, r246_87, r246_88, r246_90, r246_93, mx_isr_ref, mx_isr_null, mx_wt_nil, mx_wt_1, mx_wt_2, mx_wt_3, Option.bind_some, Option.toList_some, Option.toList_none, List.cons_append, List.nil_append, mx_nl_int, mx_nl_ref, mx_nl_null, mx_nl_none, mx_nb0, mx_nb1, mx_cat_int, mx_cat_ref, if_true, if_false, not_true_eq_false, not_false_eq_true, hT, rm_look B (show f + pre.length < 2 ^ 30 by omega), e0, rm_digit (show 0 < 128 by decide), isDig_0, Bool.false_eq_true, rm_numE hT neg _ ht htn, List.takeWhile_nil, List.take_nil, List.length_nil, Nat.add_zero, List.append_nil]
  | cons c suf ih =>
    intro pre hs hl h9
    obtain ⟨d1, d2, d3⟩ := drop_cons hs
    have e0 : bs.getD (f + pre.length) 0 = c := by rw [List.getD_eq_getElem?_getD, d3]; rfl
    have hc : c < 128 := by rw [← e0]; exact rm_buf_lt B _
    have ef : nI f + 9 = nI (f + 9) := nI_add f 9
    rw [r246_34 mx_isr_ref]
    by_cases hlc : isDig c = true
    · have e5 : (c :: suf).takeWhile isDig = c :: suf.takeWhile isDig := by rw [List.takeWhile_cons, hlc]; rfl
      rw [e5]
      by_cases h9' : pre.length < 9
      · have hi := ih (pre ++ [c]) (by rw [List.length_append, ← Nat.add_assoc]; exact d1) (by simp; omega) (by simp; omega)
        rw [List.length_append, List.length_singleton, ← Nat.add_assoc] at hi
        have e6 : (c :: suf.takeWhile isDig).take (9 - pre.length) = c :: (suf.takeWhile isDig).take (9 - (pre.length + 1)) := by
          rw [show 9 - pre.length = (9 - (pre.length + 1)) + 1 by omega, List.take_succ_cons]
        rw [e6]
        have e7 : nI (f + pre.length + 1 + ((suf.takeWhile isDig).take (9 - (pre.length + 1))).length) = nI (f + pre.length + (c :: (suf.takeWhile isDig).take (9 - (pre.length + 1))).length) := by congr 1; simp; omega
        rw [e7, List.append_assoc, List.singleton_append] at hi
        have g := isDig_ge hlc
        have e8 : (10 : Int64) * lN (dval pre) + (nI c).toInt64 - 48 = lN (dval (pre ++ [c])) := by
          rw [nI_l (by omega), dval_app, show (10 : Int64) = lN 10 from rfl, show (48 : Int64) = lN 48 from rfl, lN_mul, lN_add, lN_sub (by omega)]
          congr 1
          omega
        have e9 : ¬ nI (f + 9) ≤ nI (f + pre.length) := nI_ge (by omega) (by omega)
        have hf := rm_buf_lt B f
        have e10 : ¬ nI (bs.getD f 0) = 48 := fun z => h0 ((nI_eq (b := 48) (by omega) (by decide)).mp z)
        by_cases hq : pre.length = 0
        · have hn : pre = [] := List.eq_nil_of_length_eq_zero hq
          subst hn
          simp only [List.length_nil, Nat.add_zero, List.nil_append] at hi e0 e8 e9 ⊢
          simp only [r246_35, r246_36, r246_39, r246_42, r246_45, r246_46, r246_48, r246_50, r246_51, r246_54, r246_55, r246_57, r246_60, r246_61, r246_63, r246_66, r246_68, r246_71, r246_74, r246_76, r246_77, r246_78, r246_79, r246_82, r246_83, r246_84, r246_87, r246_88, r246_90, r246_93, mx_isr_ref, mx_isr_null, mx_wt_nil, mx_wt_1, mx_wt_2, mx_wt_3, Option.bind_some, Option.toList_some, Option.toList_none, List.cons_append, List.nil_append, mx_nl_int, mx_nl_ref, mx_nl_null, mx_nl_none, mx_nb0, mx_nb1, mx_cat_int, mx_cat_ref, if_true, if_false, not_true_eq_false, not_false_eq_true, hT, rm_look B (show f < 2 ^ 30 by omega), e0, rm_digit hc, hlc, show ¬ (1 : Int32) = 0 by decide, ef, e9, e8, nI_1]
          exact hi
        · have e11 : ¬ nI (f + pre.length) = nI f := fun z => hq (by have := (nI_eq (by omega) (by omega)).mp z; omega)
          simp only [r246_35, r246_36, r246_39, r246_42, r246_45, r246_46, r246_48, r246_50, r246_51, r246_54, r246_55, r246_57, r246_60, r246_61, r246_63, r246_66, r246_68, r246_71, r246_74, r246_76, r246_77, r246_78, r246_79, r246_82, r246_83, r246_84, r246_87, r246_88, r246_90, r246_93, mx_isr_ref, mx_isr_null, mx_wt_nil, mx_wt_1, mx_wt_2, mx_wt_3, Option.bind_some, Option.toList_some, Option.toList_none, List.cons_append, List.nil_append, mx_nl_int, mx_nl_ref, mx_nl_null, mx_nl_none, mx_nb0, mx_nb1, mx_cat_int, mx_cat_ref, if_true, if_false, not_true_eq_false, not_false_eq_true, hT, rm_look B (show f + pre.length < 2 ^ 30 by omega), rm_look B (show f < 2 ^ 30 by omega), e0, rm_digit hc, hlc, show ¬ (1 : Int32) = 0 by decide, ef, e9, e10, e11, e8, nI_1]
          exact hi
      · have e6 : 9 - pre.length = 0 := by omega
        have e9 : nI (f + 9) ≤ nI (f + pre.length) := nI_le (by omega) (by omega)
        rw [e6, List.take_zero]
        simp only [r246_35, r246_36, r246_39, r246_42, r246_45, r246_46, r246_48, r246_50, r246_51, r246_54, r246_55, r246_57, r246_60, r246_61, r246_63, r246_66, r246_68, r246_71, r246_74, r246_76, r246_77, r246_78, r246_79, r246_82, r246_83, r246_84, r246_87, r246_88, r246_90, r246_93, mx_isr_ref, mx_isr_null, mx_wt_nil, mx_wt_1, mx_wt_2, mx_wt_3, Option.bind_some, Option.toList_some, Option.toList_none, List.cons_append, List.nil_append, mx_nl_int, mx_nl_ref, mx_nl_null, mx_nl_none, mx_nb0, mx_nb1, mx_cat_int, mx_cat_ref, if_true, if_false, not_true_eq_false, not_false_eq_true, hT, rm_look B (show f + pre.length < 2 ^ 30 by omega), e0, rm_digit hc, hlc, show ¬ (1 : Int32) = 0 by decide, ef, e9, rm_numE hT neg _ ht htn, List.length_nil, Nat.add_zero, List.append_nil]
    · have hlc' : isDig c = false := by simpa using hlc
      have e5 : (c :: suf).takeWhile isDig = [] := by rw [List.takeWhile_cons, hlc']; rfl
      rw [e5]
      simp only [r246_35, r246_36, r246_39, r246_42, r246_45, r246_46, r246_48, r246_50, r246_51, r246_54, r246_55, r246_57, r246_60, r246_61, r246_63, r246_66, r246_68, r246_71, r246_74, r246_76, r246_77, r246_78, r246_79, r246_82, r246_83, r246_84, r246_87, r246_88, r246_90, r246_93, mx_isr_ref, mx_isr_null, mx_wt_nil, mx_wt_1, mx_wt_2, mx_wt_3, Option.bind_some, Option.toList_some, Option.toList_none, List.cons_append, List.nil_append, mx_nl_int, mx_nl_ref, mx_nl_null, mx_nl_none, mx_nb0, mx_nb1, mx_cat_int, mx_cat_ref, if_true, if_false, not_true_eq_false, not_false_eq_true, hT, rm_look B (show f + pre.length < 2 ^ 30 by omega), e0, rm_digit hc, hlc', Bool.false_eq_true, rm_numE hT neg _ ht htn, List.take_nil, List.length_nil, Nat.add_zero, List.append_nil]
theorem rm_num0 {h : mx_H} {bs : List Nat} (B : rm_buf h bs) {tn p f : Nat} (neg : Bool) (ht : mi h 76 4 = nI tn) (htn : tn < 130) (hf : f < bs.length) (h0 : bs.getD f 0 = 48) :
    mx_G (d + 1) 246 34 [some (.ref 76), some (.int (nI p)), some (.int (if neg = true then 1 else 0)), some (.int (nI f)), some (.int (nI f)), some (.long (lN (dval []))), none] [] h = some (some (.int (nI (f + 1))), mx_up h 82 tn (.long (if neg = true then -lN (dval [48]) else lN (dval [48])))) := by
  have hT := B.1
  have hb := B.2.1
  have ef : nI f + 9 = nI (f + 9) := nI_add f 9
  have e9 : ¬ nI (f + 9) ≤ nI f := nI_ge (by omega) (by omega)
  have e9' : ¬ nI (f + 9) ≤ nI (f + 1) := nI_ge (by omega) (by omega)
  have e10 : nI 48 = 48 := rfl
  have e8 : (10 : Int64) * lN (dval []) + (nI 48).toInt64 - 48 = lN (dval [48]) := by decide
  have e11 : ¬ nI (f + 1) = nI f := fun z => by have := (nI_eq (by omega) (by omega)).mp z; omega
  have hc := rm_buf_lt B (f + 1)
  have e1 : mx_G (d + 1) 246 34 [some (.ref 76), some (.int (nI p)), some (.int (if neg = true then 1 else 0)), some (.int (nI f)), some (.int (nI f)), some (.long (lN (dval []))), none] [] h = mx_G (d + 1) 246 34 [some (.ref 76), some (.int (nI p)), some (.int (if neg = true then 1 else 0)), some (.int (nI (f + 1))), some (.int (nI f)), some (.long (lN (dval [48]))), none] [] h := by
    rw [r246_34 mx_isr_ref]
    have hd : isDig 48 = true := by decide
    simp only [r246_35, r246_36, r246_39, r246_42, r246_45, r246_46, r246_48, r246_50, r246_51, r246_54, r246_55, r246_57, r246_60, r246_61, r246_63, r246_66, r246_68, r246_71, r246_74, r246_76, r246_77, r246_78, r246_79, r246_82, r246_83, r246_84, r246_87, r246_88, r246_90, r246_93, mx_isr_ref, mx_isr_null, mx_wt_nil, mx_wt_1, mx_wt_2, mx_wt_3, Option.bind_some, Option.toList_some, Option.toList_none, List.cons_append, List.nil_append, mx_nl_int, mx_nl_ref, mx_nl_null, mx_nl_none, mx_nb0, mx_nb1, mx_cat_int, mx_cat_ref, if_true, if_false, not_true_eq_false, not_false_eq_true, hT, rm_look B (show f < 2 ^ 30 by omega), h0, rm_digit (show 48 < 128 by decide), hd, show ¬ (1 : Int32) = 0 by decide, ef, e9, e8, nI_1]
  rw [e1, r246_34 mx_isr_ref]
  by_cases hd : isDig (bs.getD (f + 1) 0) = true
  · simp only [r246_35, r246_36, r246_39, r246_42, r246_45, r246_46, r246_48, r246_50, r246_51, r246_54, r246_55, r246_57, r246_60, r246_61, r246_63, r246_66, r246_68, r246_71, r246_74, r246_76, r246_77, r246_78, r246_79, r246_82, r246_83, r246_84, r246_87, r246_88, r246_90, r246_93, mx_isr_ref, mx_isr_null, mx_wt_nil, mx_wt_1, mx_wt_2, mx_wt_3, Option.bind_some, Option.toList_some, Option.toList_none, List.cons_append, List.nil_append, mx_nl_int, mx_nl_ref, mx_nl_null, mx_nl_none, mx_nb0, mx_nb1, mx_cat_int, mx_cat_ref, if_true, if_false, not_true_eq_false, not_false_eq_true, hT, rm_look B (show f + 1 < 2 ^ 30 by omega), rm_look B (show f < 2 ^ 30 by omega), rm_digit hc, hd, h0, e10, e11, show ¬ (1 : Int32) = 0 by decide, ef, e9', rm_numE hT neg _ ht htn]
  · have hd' : isDig (bs.getD (f + 1) 0) = false := by simpa using hd
    simp only [r246_35, r246_36, r246_39, r246_42, r246_45, r246_46, r246_48, r246_50, r246_51, r246_54, r246_55, r246_57, r246_60, r246_61, r246_63, r246_66, r246_68, r246_71, r246_74, r246_76, r246_77, r246_78, r246_79, r246_82, r246_83, r246_84, r246_87, r246_88, r246_90, r246_93, mx_isr_ref, mx_isr_null, mx_wt_nil, mx_wt_1, mx_wt_2, mx_wt_3, Option.bind_some, Option.toList_some, Option.toList_none, List.cons_append, List.nil_append, mx_nl_int, mx_nl_ref, mx_nl_null, mx_nl_none, mx_nb0, mx_nb1, mx_cat_int, mx_cat_ref, if_true, if_false, not_true_eq_false, not_false_eq_true, hT, rm_look B (show f + 1 < 2 ^ 30 by omega), rm_digit hc, hd', Bool.false_eq_true, rm_numE hT neg _ ht htn]
theorem rm_numF {h : mx_H} {bs : List Nat} (B : rm_buf h bs) {tn p f : Nat} (neg : Bool) (ht : mi h 76 4 = nI tn) (htn : tn < 130) (hf : f < bs.length) :
    mx_G (d + 1) 246 34 [some (.ref 76), some (.int (nI p)), some (.int (if neg = true then 1 else 0)), some (.int (nI f)), some (.int (nI f)), some (.long (lN (dval []))), none] [] h = some (some (.int (nI (f + (lx_num (bs.drop f)).length))), mx_up h 82 tn (.long (if neg = true then -lN (dval (lx_num (bs.drop f))) else lN (dval (lx_num (bs.drop f)))))) := by
  have e0 : (bs.drop f).head? = some (bs.getD f 0) := by
    rw [List.head?_drop, List.getD_eq_getElem?_getD, List.getElem?_eq_getElem hf]
    rfl
  unfold lx_num
  rw [e0]
  by_cases h0 : bs.getD f 0 = 48
  · rw [h0, if_pos rfl]
    exact rm_num0 B neg ht htn hf h0
  · rw [if_neg (fun z => h0 (Option.some.inj z))]
    have := rm_numL (d := d) (p := p) B neg ht htn h0 (bs.drop f) [] rfl (by simp; omega) (by simp)
    simpa only [List.length_nil, Nat.add_zero, List.nil_append, Nat.sub_zero] using this
theorem rm_number {h : mx_H} {bs : List Nat} (B : rm_buf h bs) {tn p : Nat} (ht : mi h 76 4 = nI tn) (htn : tn < 130) (hp : p < bs.length) (hd : isDig (bs.getD p 0) = true ∨ bs.getD p 0 = 45 ∧ p + 1 < bs.length) :
    mx_G (d + 1) 246 0 [some (.ref 76), some (.int (nI p)), none, none, none, none, none] [] h = if bs.getD p 0 = 45 then some (some (.int (nI (p + 1 + (lx_num (bs.drop (p + 1))).length))), mx_up h 82 tn (.long (nval (45 :: lx_num (bs.drop (p + 1)))))) else some (some (.int (nI (p + (lx_num (bs.drop p)).length))), mx_up h 82 tn (.long (nval (lx_num (bs.drop p))))) := by
  have hT := B.1
  have hb := B.2.1
  by_cases h45 : bs.getD p 0 = 45
  · have hp1 : p + 1 < bs.length := by
      rcases hd with hd | hd
      · rw [h45] at hd
        exact absurd hd (by decide)
      · exact hd.2
    have := rm_numF (d := d) (p := p) B true ht htn hp1
    simp only [if_true] at this
    rw [if_pos h45]
    have e : nval (45 :: lx_num (bs.drop (p + 1))) = -lN (dval (lx_num (bs.drop (p + 1)))) := rfl
    rw [e, ← this]
    simp only [r246_0, r246_1, r246_2, r246_5, r246_7, r246_10, r246_11, r246_14, r246_15, r246_16, r246_17, r246_20, r246_21, r246_22, r246_23, r246_26, r246_27, r246_28, r246_29, r246_31, r246_32, mx_isr_ref, mx_isr_null, mx_wt_nil, mx_wt_1, mx_wt_2, mx_wt_3, Option.bind_some, Option.toList_some, Option.toList_none, List.cons_append, List.nil_append, mx_nl_int, mx_nl_ref, mx_nl_null, mx_nl_none, mx_nb0, mx_nb1, mx_cat_int, mx_cat_ref, if_true, if_false, not_true_eq_false, not_false_eq_true, hT, rm_look B (show p < 2 ^ 30 by omega), h45, show nI 45 = 45 from rfl, show ¬ (1 : Int32) = 0 by decide, nI_1, show lN (dval []) = 0 from rfl]
  · have := rm_numF (d := d) (p := p) B false ht htn hp
    simp only [Bool.false_eq_true, if_false] at this
    have hc := rm_buf_lt B p
    have h45' : ¬ nI (bs.getD p 0) = 45 := fun z => h45 ((nI_eq (b := 45) (by omega) (by decide)).mp z)
    rw [if_neg h45]
    have hdd : isDig (bs.getD p 0) = true := by
      rcases hd with hd | hd
      · exact hd
      · exact absurd hd.1 h45
    have e : nval (lx_num (bs.drop p)) = lN (dval (lx_num (bs.drop p))) := by
      unfold nval
      rw [if_neg]
      intro z
      have hh : (lx_num (bs.drop p)).head? = some (bs.getD p 0) := by
        have e0 : (bs.drop p).head? = some (bs.getD p 0) := by
          rw [List.head?_drop, List.getD_eq_getElem?_getD, List.getElem?_eq_getElem hp]
          rfl
        unfold lx_num
        rw [e0]
        split
        · rename_i q
          rw [Option.some.inj q]
          rfl
        · obtain ⟨t, hq⟩ : ∃ t, bs.drop p = bs.getD p 0 :: t := by
            cases hl : bs.drop p with
            | nil => rw [hl] at e0; cases e0
            | cons c t =>
              rw [hl] at e0
              exact ⟨t, by rw [← Option.some.inj e0]⟩
          rw [hq, List.takeWhile_cons, hdd]
          rfl
      rw [hh] at z
      exact h45 (Option.some.inj z)
    rw [e, ← this]
    simp only [r246_0, r246_1, r246_2, r246_5, r246_7, r246_10, r246_11, r246_14, r246_15, r246_16, r246_17, r246_20, r246_21, r246_22, r246_23, r246_26, r246_27, r246_28, r246_29, r246_31, r246_32, mx_isr_ref, mx_isr_null, mx_wt_nil, mx_wt_1, mx_wt_2, mx_wt_3, Option.bind_some, Option.toList_some, Option.toList_none, List.cons_append, List.nil_append, mx_nl_int, mx_nl_ref, mx_nl_null, mx_nl_none, mx_nb0, mx_nb1, mx_cat_int, mx_cat_ref, if_true, if_false, not_true_eq_false, not_false_eq_true, hT, rm_look B (show p < 2 ^ 30 by omega), h45', show lN (dval []) = 0 from rfl]
end
