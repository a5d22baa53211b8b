section
variable {d : Nat}
theorem drop_cons {α : Type} {l : List α} {p : Nat} {c : α} {r : List α} (h : l.drop p = c :: r) : l.drop (p + 1) = r ∧ p < l.length ∧ l[p]? = some c := by
  have h1 : p < l.length := by
    by_cases e : p < l.length
    · exact e
    · rw [List.drop_eq_nil_of_le (by omega)] at h
      cases h
  rw [List.drop_eq_getElem_cons h1] at h
  injection h with h2 h3
  exact ⟨h3, h1, by rw [List.getElem?_eq_getElem h1, h2]⟩
theorem getD_drop {l : List Nat} {p : Nat} (k : Nat) : l.getD (p + k) 0 = (l.drop p).getD k 0 := by
  rw [List.getD_eq_getElem?_getD, List.getD_eq_getElem?_getD, List.getElem?_drop]
theorem isLet_0 : isLet 0 = false := by decide
theorem isDig_0 : isDig 0 = false := by decide
theorem isLet_ge {c : Nat} (h : isLet c = true) : 97 ≤ sml c := by
  unfold isLet at h
  simp only [Bool.and_eq_true, decide_eq_true_eq] at h
  exact h.1
theorem rm_wordL {h : mx_H} {bs : List Nat} (B : rm_buf h bs) {tn p : Nat} (hp : p ≤ bs.length) (ht : mi h 76 4 = nI tn) (htn : tn < 130) : ∀ (suf pre : List Nat), bs.drop (p + pre.length) = suf → p + pre.length ≤ bs.length →
    mx_G (d + 2) 245 4 [some (.ref 76), some (.int (nI p)), some (.int (nI (p + pre.length))), some (.long (w27 (pre.map sml))), none] [] h = some (some (.int (nI (p + pre.length + (suf.takeWhile isLet).length))), mx_up h 82 tn (.long (w27 ((pre ++ suf.takeWhile isLet).map sml)))) := by
  intro suf
  have hT := B.1
  have hb := B.2.1
  have t1 : (nI tn).toNatClampNeg = tn := nI_clamp (by omega)
  have t2 : (0 : Int32) ≤ nI tn := nI_pos' (by omega)
  induction suf with
  | nil =>
    intro pre hs hl
    have e0 : bs.getD (p + pre.length) 0 = 0 := by
      have := getD_drop (l := bs) (p := p + pre.length) 0
      rw [Nat.add_zero, hs] at this
      exact this
    have e1 : nI (p + pre.length) - nI p = nI pre.length := by
      rw [← nI_add, Int32.add_comm, Int32.add_sub_cancel]
    rw [r245_4 mx_isr_ref]
    by_cases h9 : pre.length ≤ 9
    · have e2 : nI pre.length ≤ 9 := nI_le (b := 9) h9 (by decide)
      simp only [r245_0, r245_1, r245_2, r245_3, r245_5, r245_6, r245_9, r245_12, r245_15, r245_16, r245_17, r245_18, r245_20, r245_23, r245_26, r245_29, r245_32, r245_33, r245_34, r245_35, r245_36, r245_39, r245_42, r245_43, r245_44, r245_47, r245_48, r245_49, r245_52, r245_55, r245_56, r245_59, r245_60, r245_63, r245_64, r245_65, r245_66, r245_68, r245_71, r245_74, r245_77, r245_78, r245_79, r245_80, mx_isr_ref, mx_isr_null, mx_wt_nil, mx_wt_1, mx_wt_2, mx_wt_3, Option.bind_some, Option.toList_some, Option.toList_none, List.cons_append, List.nil_append, mx_nl_int, mx_nl_ref, mx_nl_null, mx_nl_none, mx_nb0, mx_nb1, mx_cat_int, mx_cat_ref, if_true, if_false, not_true_eq_false, not_false_eq_true, hT, rm_look B (show p + pre.length < 2 ^ 30 by omega), e0, rm_isLetter (show 0 < 128 by decide), isLet_0, Bool.false_eq_true, mr_ty_77, mr_n_77, mr_isI_77, mr_ty_78, mr_n_78, mr_isI_78, mr_ty_79, mr_n_79, mr_isI_79, mr_ty_80, mr_n_80, mr_isI_80, mr_ty_81, mr_n_81, mr_isI_81, mr_ty_82, mr_n_82, mr_isJ_82, mr_ty_83, mr_n_83, mr_isI_83, mr_ty_84, mr_n_84, mr_isI_84, mr_ty_85, mr_n_85, mr_isI_85, mr_ty_86, mr_n_86, mr_isI_86, mr_ty_87, mr_n_87, mr_isI_87, mr_ty_88, mr_n_88, mr_isI_88, mr_ty_89, mr_n_89, mr_isJ_89, mr_ty_90, mr_n_90, mr_isI_90, mr_ty_91, mr_n_91, mr_isI_91, mr_ty_92, mr_n_92, mr_isI_92, mr_ty_93, mr_n_93, mr_isI_93, mr_ty_94, mr_n_94, mr_isI_94, mr_ty_95, mr_n_95, mr_isI_95, mr_ty_96, mr_n_96, mr_isI_96, mr_ty_97, mr_n_97, mr_isI_97, mr_ty_98, mr_n_98, mr_isI_98, mr_ty_99, mr_n_99, mr_isI_99, mr_ty_100, mr_n_100, mr_isI_100, mr_ty_101, mr_n_101, mr_isI_101, mr_isF_1, mr_isF_3, mr_isF_4, mr_isF_10, mr_isF_12, mr_isF_18, mr_isF_19, mr_isF_21, mr_isF_22, mr_isF_23, mr_isF_26, mr_isF_34, mr_isF_37, mr_isF_38, mr_isF_39, mr_T_up, mr_T_upJ, mr_T_f, ht, e1, e2, t1, t2, htn, List.takeWhile_nil, List.length_nil, Nat.add_zero, List.append_nil]
    · have e2 : ¬ nI pre.length ≤ 9 := nI_ge (a := 9) (by omega) (by omega)
      have e3 : w27 (pre.map sml) = -1 := by unfold w27; rw [if_neg (by simpa using h9)]
      simp only [r245_0, r245_1, r245_2, r245_3, r245_5, r245_6, r245_9, r245_12, r245_15, r245_16, r245_17, r245_18, r245_20, r245_23, r245_26, r245_29, r245_32, r245_33, r245_34, r245_35, r245_36, r245_39, r245_42, r245_43, r245_44, r245_47, r245_48, r245_49, r245_52, r245_55, r245_56, r245_59, r245_60, r245_63, r245_64, r245_65, r245_66, r245_68, r245_71, r245_74, r245_77, r245_78, r245_79, r245_80, mx_isr_ref, mx_isr_null, mx_wt_nil, mx_wt_1, mx_wt_2, mx_wt_3, Option.bind_some, Option.toList_some, Option.toList_none, List.cons_append, List.nil_append, mx_nl_int, mx_nl_ref, mx_nl_null, mx_nl_none, mx_nb0, mx_nb1, mx_cat_int, mx_cat_ref, if_true, if_false, not_true_eq_false, not_false_eq_true, hT, rm_look B (show p + pre.length < 2 ^ 30 by omega), e0, rm_isLetter (show 0 < 128 by decide), isLet_0, Bool.false_eq_true, mr_ty_77, mr_n_77, mr_isI_77, mr_ty_78, mr_n_78, mr_isI_78, mr_ty_79, mr_n_79, mr_isI_79, mr_ty_80, mr_n_80, mr_isI_80, mr_ty_81, mr_n_81, mr_isI_81, mr_ty_82, mr_n_82, mr_isJ_82, mr_ty_83, mr_n_83, mr_isI_83, mr_ty_84, mr_n_84, mr_isI_84, mr_ty_85, mr_n_85, mr_isI_85, mr_ty_86, mr_n_86, mr_isI_86, mr_ty_87, mr_n_87, mr_isI_87, mr_ty_88, mr_n_88, mr_isI_88, mr_ty_89, mr_n_89, mr_isJ_89, mr_ty_90, mr_n_90, mr_isI_90, mr_ty_91, mr_n_91, mr_isI_91, mr_ty_92, mr_n_92, mr_isI_92, mr_ty_93, mr_n_93, mr_isI_93, mr_ty_94, mr_n_94, mr_isI_94, mr_ty_95, mr_n_95, mr_isI_95, mr_ty_96, mr_n_96, mr_isI_96, mr_ty_97, mr_n_97, mr_isI_97, mr_ty_98, mr_n_98, mr_isI_98, mr_ty_99, mr_n_99, mr_isI_99, mr_ty_100, mr_n_100, mr_isI_100, mr_ty_101, mr_n_101, mr_isI_101, mr_isF_1, mr_isF_3, mr_isF_4, mr_isF_10, mr_isF_12, mr_isF_18, mr_isF_19, mr_isF_21, mr_isF_22, mr_isF_23, mr_isF_26, mr_isF_34, mr_isF_37, mr_isF_38, mr_isF_39, mr_T_up, mr_T_upJ, mr_T_f, ht, e1, e2, t1, t2, htn, List.takeWhile_nil, List.length_nil, Nat.add_zero, List.append_nil, e3]
  | cons c suf ih =>
    intro pre hs hl
    obtain ⟨d1, d2, d3⟩ := drop_cons hs
    have e0 : bs.getD (p + pre.length) 0 = c := by rw [List.getD_eq_getElem?_getD, d3]; rfl
    have hc : c < 128 := by rw [← e0]; exact rm_buf_lt B _
    have e1 : nI (p + pre.length) - nI p = nI pre.length := by
      rw [← nI_add, Int32.add_comm, Int32.add_sub_cancel]
    rw [r245_4 mx_isr_ref]
    by_cases hlc : isLet c = true
    · have hi := ih (pre ++ [c]) (by rw [List.length_append, ← Nat.add_assoc]; exact d1) (by simp; omega)
      rw [List.length_append, List.length_singleton, ← Nat.add_assoc] at hi
      have e5 : (c :: suf).takeWhile isLet = c :: suf.takeWhile isLet := by rw [List.takeWhile_cons, hlc]; rfl
      rw [e5]
      have e6 : nI (p + pre.length + 1 + (suf.takeWhile isLet).length) = nI (p + pre.length + (c :: suf.takeWhile isLet).length) := by congr 1; simp; omega
      rw [e6, List.append_assoc, List.singleton_append] at hi
      by_cases h8 : pre.length ≤ 8
      · have e2 : nI pre.length ≤ 8 := nI_le (b := 8) h8 (by decide)
        have e7 : (27 : Int64) * w27 (pre.map sml) + (nI (sml c)).toInt64 - 96 = w27 ((pre ++ [c]).map sml) := by
          have g := isLet_ge hlc
          unfold w27
          rw [if_pos (by simpa using by omega), if_pos (by simpa using h8), nI_l (by have := sml_lt hc; omega), List.map_append, List.map_singleton, enc_app, show (27 : Int64) = lN 27 from rfl, show (96 : Int64) = lN 96 from rfl, lN_mul, lN_add, lN_sub (by omega)]
          congr 1
          omega
        simp only [r245_0, r245_1, r245_2, r245_3, r245_5, r245_6, r245_9, r245_12, r245_15, r245_16, r245_17, r245_18, r245_20, r245_23, r245_26, r245_29, r245_32, r245_33, r245_34, r245_35, r245_36, r245_39, r245_42, r245_43, r245_44, r245_47, r245_48, r245_49, r245_52, r245_55, r245_56, r245_59, r245_60, r245_63, r245_64, r245_65, r245_66, r245_68, r245_71, r245_74, r245_77, r245_78, r245_79, r245_80, mx_isr_ref, mx_isr_null, mx_wt_nil, mx_wt_1, mx_wt_2, mx_wt_3, Option.bind_some, Option.toList_some, Option.toList_none, List.cons_append, List.nil_append, mx_nl_int, mx_nl_ref, mx_nl_null, mx_nl_none, mx_nb0, mx_nb1, mx_cat_int, mx_cat_ref, if_true, if_false, not_true_eq_false, not_false_eq_true, hT, rm_look B (show p + pre.length < 2 ^ 30 by omega), e0, rm_isLetter hc, hlc, show ¬ (1 : Int32) = 0 by decide, e1, e2, rm_small hc, e7, nI_1]
        exact hi
      · have e2 : ¬ nI pre.length ≤ 8 := nI_ge (a := 8) (by omega) (by omega)
        have e7 : w27 ((pre ++ [c]).map sml) = -1 := by unfold w27; rw [if_neg (by simp; omega)]
        rw [e7] at hi
        simp only [r245_0, r245_1, r245_2, r245_3, r245_5, r245_6, r245_9, r245_12, r245_15, r245_16, r245_17, r245_18, r245_20, r245_23, r245_26, r245_29, r245_32, r245_33, r245_34, r245_35, r245_36, r245_39, r245_42, r245_43, r245_44, r245_47, r245_48, r245_49, r245_52, r245_55, r245_56, r245_59, r245_60, r245_63, r245_64, r245_65, r245_66, r245_68, r245_71, r245_74, r245_77, r245_78, r245_79, r245_80, mx_isr_ref, mx_isr_null, mx_wt_nil, mx_wt_1, mx_wt_2, mx_wt_3, Option.bind_some, Option.toList_some, Option.toList_none, List.cons_append, List.nil_append, mx_nl_int, mx_nl_ref, mx_nl_null, mx_nl_none, mx_nb0, mx_nb1, mx_cat_int, mx_cat_ref, if_true, if_false, not_true_eq_false, not_false_eq_true, hT, rm_look B (show p + pre.length < 2 ^ 30 by omega), e0, rm_isLetter hc, hlc, show ¬ (1 : Int32) = 0 by decide, e1, e2, nI_1]
        exact hi
    · have hlc' : isLet c = false := by simpa using hlc
      have e5 : (c :: suf).takeWhile isLet = [] := by rw [List.takeWhile_cons, hlc']; rfl
      rw [e5]
      by_cases h9 : pre.length ≤ 9
      · have e2 : nI pre.length ≤ 9 := nI_le (b := 9) h9 (by decide)
        simp only [r245_0, r245_1, r245_2, r245_3, r245_5, r245_6, r245_9, r245_12, r245_15, r245_16, r245_17, r245_18, r245_20, r245_23, r245_26, r245_29, r245_32, r245_33, r245_34, r245_35, r245_36, r245_39, r245_42, r245_43, r245_44, r245_47, r245_48, r245_49, r245_52, r245_55, r245_56, r245_59, r245_60, r245_63, r245_64, r245_65, r245_66, r245_68, r245_71, r245_74, r245_77, r245_78, r245_79, r245_80, mx_isr_ref, mx_isr_null, mx_wt_nil, mx_wt_1, mx_wt_2, mx_wt_3, Option.bind_some, Option.toList_some, Option.toList_none, List.cons_append, List.nil_append, mx_nl_int, mx_nl_ref, mx_nl_null, mx_nl_none, mx_nb0, mx_nb1, mx_cat_int, mx_cat_ref, if_true, if_false, not_true_eq_false, not_false_eq_true, hT, rm_look B (show p + pre.length < 2 ^ 30 by omega), e0, rm_isLetter hc, hlc', Bool.false_eq_true, mr_ty_77, mr_n_77, mr_isI_77, mr_ty_78, mr_n_78, mr_isI_78, mr_ty_79, mr_n_79, mr_isI_79, mr_ty_80, mr_n_80, mr_isI_80, mr_ty_81, mr_n_81, mr_isI_81, mr_ty_82, mr_n_82, mr_isJ_82, mr_ty_83, mr_n_83, mr_isI_83, mr_ty_84, mr_n_84, mr_isI_84, mr_ty_85, mr_n_85, mr_isI_85, mr_ty_86, mr_n_86, mr_isI_86, mr_ty_87, mr_n_87, mr_isI_87, mr_ty_88, mr_n_88, mr_isI_88, mr_ty_89, mr_n_89, mr_isJ_89, mr_ty_90, mr_n_90, mr_isI_90, mr_ty_91, mr_n_91, mr_isI_91, mr_ty_92, mr_n_92, mr_isI_92, mr_ty_93, mr_n_93, mr_isI_93, mr_ty_94, mr_n_94, mr_isI_94, mr_ty_95, mr_n_95, mr_isI_95, mr_ty_96, mr_n_96, mr_isI_96, mr_ty_97, mr_n_97, mr_isI_97, mr_ty_98, mr_n_98, mr_isI_98, mr_ty_99, mr_n_99, mr_isI_99, mr_ty_100, mr_n_100, mr_isI_100, mr_ty_101, mr_n_101, mr_isI_101, mr_isF_1, mr_isF_3, mr_isF_4, mr_isF_10, mr_isF_12, mr_isF_18, mr_isF_19, mr_isF_21, mr_isF_22, mr_isF_23, mr_isF_26, mr_isF_34, mr_isF_37, mr_isF_38, mr_isF_39, mr_T_up, mr_T_upJ, mr_T_f, ht, e1, e2, t1, t2, htn, List.length_nil, Nat.add_zero, List.append_nil]
      · have e2 : ¬ nI pre.length ≤ 9 := nI_ge (a := 9) (by omega) (by omega)
        have e3 : w27 (pre.map sml) = -1 := by unfold w27; rw [if_neg (by simpa using h9)]
        simp only [r245_0, r245_1, r245_2, r245_3, r245_5, r245_6, r245_9, r245_12, r245_15, r245_16, r245_17, r245_18, r245_20, r245_23, r245_26, r245_29, r245_32, r245_33, r245_34, r245_35, r245_36, r245_39, r245_42, r245_43, r245_44, r245_47, r245_48, r245_49, r245_52, r245_55, r245_56, r245_59, r245_60, r245_63, r245_64, r245_65, r245_66, r245_68, r245_71, r245_74, r245_77, r245_78, r245_79, r245_80, mx_isr_ref, mx_isr_null, mx_wt_nil, mx_wt_1, mx_wt_2, mx_wt_3, Option.bind_some, Option.toList_some, Option.toList_none, List.cons_append, List.nil_append, mx_nl_int, mx_nl_ref, mx_nl_null, mx_nl_none, mx_nb0, mx_nb1, mx_cat_int, mx_cat_ref, if_true, if_false, not_true_eq_false, not_false_eq_true, hT, rm_look B (show p + pre.length < 2 ^ 30 by omega), e0, rm_isLetter hc, hlc', Bool.false_eq_true, mr_ty_77, mr_n_77, mr_isI_77, mr_ty_78, mr_n_78, mr_isI_78, mr_ty_79, mr_n_79, mr_isI_79, mr_ty_80, mr_n_80, mr_isI_80, mr_ty_81, mr_n_81, mr_isI_81, mr_ty_82, mr_n_82, mr_isJ_82, mr_ty_83, mr_n_83, mr_isI_83, mr_ty_84, mr_n_84, mr_isI_84, mr_ty_85, mr_n_85, mr_isI_85, mr_ty_86, mr_n_86, mr_isI_86, mr_ty_87, mr_n_87, mr_isI_87, mr_ty_88, mr_n_88, mr_isI_88, mr_ty_89, mr_n_89, mr_isJ_89, mr_ty_90, mr_n_90, mr_isI_90, mr_ty_91, mr_n_91, mr_isI_91, mr_ty_92, mr_n_92, mr_isI_92, mr_ty_93, mr_n_93, mr_isI_93, mr_ty_94, mr_n_94, mr_isI_94, mr_ty_95, mr_n_95, mr_isI_95, mr_ty_96, mr_n_96, mr_isI_96, mr_ty_97, mr_n_97, mr_isI_97, mr_ty_98, mr_n_98, mr_isI_98, mr_ty_99, mr_n_99, mr_isI_99, mr_ty_100, mr_n_100, mr_isI_100, mr_ty_101, mr_n_101, mr_isI_101, mr_isF_1, mr_isF_3, mr_isF_4, mr_isF_10, mr_isF_12, mr_isF_18, mr_isF_19, mr_isF_21, mr_isF_22, mr_isF_23, mr_isF_26, mr_isF_34, mr_isF_37, mr_isF_38, mr_isF_39, mr_T_up, mr_T_upJ, mr_T_f, ht, e1, e2, t1, t2, htn, List.length_nil, Nat.add_zero, List.append_nil, e3]
theorem rm_word {h : mx_H} {bs : List Nat} (B : rm_buf h bs) {tn p : Nat} (hp : p ≤ bs.length) (ht : mi h 76 4 = nI tn) (htn : tn < 130) : mx_G (d + 2) 245 0 [some (.ref 76), some (.int (nI p)), none, none, none] [] h = some (some (.int (nI (p + ((bs.drop p).takeWhile isLet).length))), mx_up h 82 tn (.long (w27 (((bs.drop p).takeWhile isLet).map sml)))) := by
  have := rm_wordL (d := d) B hp ht htn (bs.drop p) [] rfl hp
  simp only [List.length_nil, Nat.add_zero, List.nil_append, List.map_nil] at this
  rw [← this]
  simp only [r245_0, r245_1, r245_2, r245_3, mx_isr_ref, mx_isr_null, mx_wt_nil, mx_wt_1, mx_wt_2, mx_wt_3, Option.bind_some, Option.toList_some, Option.toList_none, List.cons_append, List.nil_append, mx_nl_int, mx_nl_ref, mx_nl_null, mx_nl_none, mx_nb0, mx_nb1, mx_cat_int, mx_cat_ref, if_true, if_false, not_true_eq_false, not_false_eq_true]
  rfl
end
