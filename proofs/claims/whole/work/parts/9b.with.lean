section
variable {d : Nat} {h : mx_H} {ts : List tk}
theorem drop_gD {x : List Nat} {j : Nat} (hj : j < x.length) : x.drop j = x.getD j 0 :: x.drop (j + 1) := by
  rw [List.getD_eq_getElem?_getD, List.getElem?_eq_getElem hj]
  exact List.drop_eq_getElem_cons hj
/-- the place of the first with this text -/
def wix (v : List Nat) : List itm → Nat
  | [] => 0
  | y :: l => if y.1 = v then 0 else wix v l + 1
theorem wix_le (v : List Nat) : ∀ l, wix v l ≤ l.length := by
  intro l
  induction l with
  | nil => exact Nat.le_refl _
  | cons y l ih => unfold wix; split <;> simp only [List.length_cons] <;> omega
theorem drop_iG {l : List itm} {k : Nat} (hk : k < l.length) : l.drop k = iG l k :: l.drop (k + 1) := by
  unfold iG
  rw [List.getD_eq_getElem?_getD, List.getElem?_eq_getElem hk]
  exact List.drop_eq_getElem_cons hk
theorem rm_wiI (S : rm_TK h ts) (K : tkOK ts) {l : List itm} (W : wIt8 h l) {t v k : Nat} (hv : ftx ts v = true) (hk : k < l.length) (hx : (iG l k).1.length = (tx ts v).length) : ∀ n j, j + n = (tx ts v).length →
    ∃ j', mx_G (d + 1) 316 61 [some (.ref 76), some (.int (nI t)), some (.int (nI v)), some (.int (nI k)), some (.int 1), some (.int (nI j))] [] h = mx_G (d + 1) 316 123 [some (.ref 76), some (.int (nI t)), some (.int (nI v)), some (.int (nI k)), some (.int (if (iG l k).1.drop j = (tx ts v).drop j then 1 else 0)), some (.int j')] [] h := by
  have T := S.1.1
  have hl := S.1.2.1
  have h3 := ftx_3 hv
  have tl := tA3_lt h3
  have x1 := ftx_ok K hv
  have x2 := W.2.2.1 _ (iG_mem hk)
  have x3 := W.1
  obtain ⟨f, fa, f1, f2, f3⟩ := rm_str S.1 h3
  have t1 : (nI v).toNatClampNeg = v := nI_clamp (by omega)
  have t2 : (0 : Int32) ≤ nI v := nI_pos' (by omega)
  have t3 : v < 130 := by omega
  intro n
  induction n with
  | zero =>
    intro j hj
    have e1 : nI (tx ts v).length ≤ nI j := nI_le (by omega) (by omega)
    rw [if_pos (by rw [List.drop_eq_nil_of_le (by omega), List.drop_eq_nil_of_le (by omega)])]
    exact ⟨nI j, by simp only [r316_61, r316_63, r316_64, r316_67, r316_68, r316_69, mx_isr_ref, mx_isr_null, mx_wt_nil, mx_wt_1, mx_wt_2, mx_wt_3, Option.bind_some, Option.toList_some, Option.toList_none, List.cons_append, List.nil_append, mx_nl_int, mx_nl_ref, mx_nl_null, mx_nl_none, mx_nb0, mx_nb1, mx_fb0, mx_fb1, mx_cat_int, mx_cat_ref, if_true, if_false, not_true_eq_false, not_false_eq_true, T, mr_ty_77, mr_n_77, mr_isI_77, mr_ty_78, mr_n_78, mr_isI_78, mr_ty_79, mr_n_79, mr_isI_79, mr_ty_80, mr_n_80, mr_isI_80, mr_ty_81, mr_n_81, mr_isI_81, mr_ty_82, mr_n_82, mr_isJ_82, mr_ty_83, mr_n_83, mr_isI_83, mr_ty_84, mr_n_84, mr_isI_84, mr_ty_85, mr_n_85, mr_isI_85, mr_ty_86, mr_n_86, mr_isI_86, mr_ty_87, mr_n_87, mr_isI_87, mr_ty_88, mr_n_88, mr_isI_88, mr_ty_89, mr_n_89, mr_isJ_89, mr_ty_90, mr_n_90, mr_isI_90, mr_ty_91, mr_n_91, mr_isI_91, mr_ty_92, mr_n_92, mr_isI_92, mr_ty_93, mr_n_93, mr_isI_93, mr_ty_94, mr_n_94, mr_isI_94, mr_ty_95, mr_n_95, mr_isI_95, mr_ty_96, mr_n_96, mr_isI_96, mr_ty_97, mr_n_97, mr_isI_97, mr_ty_98, mr_n_98, mr_isI_98, mr_ty_99, mr_n_99, mr_isI_99, mr_ty_100, mr_n_100, mr_isI_100, mr_ty_101, mr_n_101, mr_isI_101, mr_isF_1, mr_isF_3, mr_isF_4, mr_isF_10, mr_isF_12, mr_isF_18, mr_isF_19, mr_isF_21, mr_isF_22, mr_isF_23, mr_isF_26, mr_isF_34, mr_isF_37, mr_isF_38, mr_isF_39, mr_T_up, mr_T_upJ, mr_T_f, t1, t2, t3, f2, e1]⟩
  | succ n ih =>
    intro j hj
    have e1 : ¬ nI (tx ts v).length ≤ nI j := nI_ge (by omega) (by omega)
    have im := rm_item (d := d) (h := h) (k := k)
    have e2 : nI (20 + 14 * k) + 1 + nI j = nI (20 + 14 * k + (1 + j)) := by rw [nI_1, nI_add, Nat.add_assoc]
    have l12 := x1.2.1
    have rf := rm_f (d := d) T (s := 8) (o := 20 + 14 * k + (1 + j)) (by omega)
    rw [wIt8_te W hk (by omega), show nI 8 = 8 from rfl] at rf
    have te1 : te (iG l k).1 (1 + j) = nI ((iG l k).1.getD j 0) := by unfold te; rw [if_neg (by omega), Nat.add_sub_cancel_left]
    rw [te1, ← Nat.add_assoc] at rf
    have k1 : (nI (f + j)).toNatClampNeg = f + j := nI_clamp (by omega)
    have k2 : (0 : Int32) ≤ nI (f + j) := nI_pos' (by omega)
    have k3 : f + j < 130 := by omega
    have f4 := f3 j (by omega)
    have g1 := getD_lt x1.2.2 j
    have g2 := getD_lt x2.2.2 j
    rw [drop_gD (x := (iG l k).1) (by omega), drop_gD (x := tx ts v) (by omega)]
    by_cases c : (iG l k).1.getD j 0 = (tx ts v).getD j 0
    · obtain ⟨j', r⟩ := ih (j + 1) (by omega)
      refine ⟨j', ?_⟩
      have e3 : nI ((iG l k).1.getD j 0) = nI ((tx ts v).getD j 0) := by rw [c]
      have e4 : ((iG l k).1.getD j 0 :: (iG l k).1.drop (j + 1) = (tx ts v).getD j 0 :: (tx ts v).drop (j + 1)) = ((iG l k).1.drop (j + 1) = (tx ts v).drop (j + 1)) := by rw [c]; simp
      simp only [e4]
      rw [← r, r316_61]
      simp only [r316_63, r316_64, r316_67, r316_68, r316_69, r316_72, r316_74, r316_77, r316_78, r316_80, r316_81, r316_82, r316_85, r316_86, r316_87, r316_89, r316_90, r316_93, r316_94, r316_97, r316_98, r316_101, r316_102, r316_103, r316_105, r316_106, r316_107, r316_110, r316_111, r316_114, r316_115, r316_117, r316_120, mx_isr_ref, mx_isr_null, mx_wt_nil, mx_wt_1, mx_wt_2, mx_wt_3, Option.bind_some, Option.toList_some, Option.toList_none, List.cons_append, List.nil_append, mx_nl_int, mx_nl_ref, mx_nl_null, mx_nl_none, mx_nb0, mx_nb1, mx_fb0, mx_fb1, mx_cat_int, mx_cat_ref, if_true, if_false, not_true_eq_false, not_false_eq_true, T, mr_ty_77, mr_n_77, mr_isI_77, mr_ty_78, mr_n_78, mr_isI_78, mr_ty_79, mr_n_79, mr_isI_79, mr_ty_80, mr_n_80, mr_isI_80, mr_ty_81, mr_n_81, mr_isI_81, mr_ty_82, mr_n_82, mr_isJ_82, mr_ty_83, mr_n_83, mr_isI_83, mr_ty_84, mr_n_84, mr_isI_84, mr_ty_85, mr_n_85, mr_isI_85, mr_ty_86, mr_n_86, mr_isI_86, mr_ty_87, mr_n_87, mr_isI_87, mr_ty_88, mr_n_88, mr_isI_88, mr_ty_89, mr_n_89, mr_isJ_89, mr_ty_90, mr_n_90, mr_isI_90, mr_ty_91, mr_n_91, mr_isI_91, mr_ty_92, mr_n_92, mr_isI_92, mr_ty_93, mr_n_93, mr_isI_93, mr_ty_94, mr_n_94, mr_isI_94, mr_ty_95, mr_n_95, mr_isI_95, mr_ty_96, mr_n_96, mr_isI_96, mr_ty_97, mr_n_97, mr_isI_97, mr_ty_98, mr_n_98, mr_isI_98, mr_ty_99, mr_n_99, mr_isI_99, mr_ty_100, mr_n_100, mr_isI_100, mr_ty_101, mr_n_101, mr_isI_101, mr_isF_1, mr_isF_3, mr_isF_4, mr_isF_10, mr_isF_12, mr_isF_18, mr_isF_19, mr_isF_21, mr_isF_22, mr_isF_23, mr_isF_26, mr_isF_34, mr_isF_37, mr_isF_38, mr_isF_39, mr_T_up, mr_T_upJ, mr_T_f, t1, t2, t3, f1, f2, e1, im, e2, rf, nI_add, k1, k2, k3, f4, e3, nI_1, show ¬ (1 : Int32) = 0 by decide]
    · have e3 : ¬ nI ((iG l k).1.getD j 0) = nI ((tx ts v).getD j 0) := fun z => c ((nI_eq (by omega) (by omega)).mp z)
      rw [if_neg (fun z => c (List.cons.inj z).1)]
      refine ⟨nI (j + 1), ?_⟩
      have s1 : mx_G (d + 1) 316 61 [some (.ref 76), some (.int (nI t)), some (.int (nI v)), some (.int (nI k)), some (.int 1), some (.int (nI j))] [] h = mx_G (d + 1) 316 61 [some (.ref 76), some (.int (nI t)), some (.int (nI v)), some (.int (nI k)), some (.int 0), some (.int (nI (j + 1)))] [] h := by
        rw [r316_61]
        simp only [r316_63, r316_64, r316_67, r316_68, r316_69, r316_72, r316_74, r316_77, r316_78, r316_80, r316_81, r316_82, r316_85, r316_86, r316_87, r316_89, r316_90, r316_93, r316_94, r316_97, r316_98, r316_101, r316_102, r316_103, r316_105, r316_106, r316_107, r316_110, r316_111, r316_114, r316_115, r316_117, r316_120, mx_isr_ref, mx_isr_null, mx_wt_nil, mx_wt_1, mx_wt_2, mx_wt_3, Option.bind_some, Option.toList_some, Option.toList_none, List.cons_append, List.nil_append, mx_nl_int, mx_nl_ref, mx_nl_null, mx_nl_none, mx_nb0, mx_nb1, mx_fb0, mx_fb1, mx_cat_int, mx_cat_ref, if_true, if_false, not_true_eq_false, not_false_eq_true, T, mr_ty_77, mr_n_77, mr_isI_77, mr_ty_78, mr_n_78, mr_isI_78, mr_ty_79, mr_n_79, mr_isI_79, mr_ty_80, mr_n_80, mr_isI_80, mr_ty_81, mr_n_81, mr_isI_81, mr_ty_82, mr_n_82, mr_isJ_82, mr_ty_83, mr_n_83, mr_isI_83, mr_ty_84, mr_n_84, mr_isI_84, mr_ty_85, mr_n_85, mr_isI_85, mr_ty_86, mr_n_86, mr_isI_86, mr_ty_87, mr_n_87, mr_isI_87, mr_ty_88, mr_n_88, mr_isI_88, mr_ty_89, mr_n_89, mr_isJ_89, mr_ty_90, mr_n_90, mr_isI_90, mr_ty_91, mr_n_91, mr_isI_91, mr_ty_92, mr_n_92, mr_isI_92, mr_ty_93, mr_n_93, mr_isI_93, mr_ty_94, mr_n_94, mr_isI_94, mr_ty_95, mr_n_95, mr_isI_95, mr_ty_96, mr_n_96, mr_isI_96, mr_ty_97, mr_n_97, mr_isI_97, mr_ty_98, mr_n_98, mr_isI_98, mr_ty_99, mr_n_99, mr_isI_99, mr_ty_100, mr_n_100, mr_isI_100, mr_ty_101, mr_n_101, mr_isI_101, mr_isF_1, mr_isF_3, mr_isF_4, mr_isF_10, mr_isF_12, mr_isF_18, mr_isF_19, mr_isF_21, mr_isF_22, mr_isF_23, mr_isF_26, mr_isF_34, mr_isF_37, mr_isF_38, mr_isF_39, mr_T_up, mr_T_upJ, mr_T_f, t1, t2, t3, f1, f2, e1, im, e2, rf, nI_add, k1, k2, k3, f4, eq_false e3, nI_1, show ¬ (1 : Int32) = 0 by decide]
      rw [s1]
      by_cases c2 : nI (tx ts v).length ≤ nI (j + 1)
      · simp only [r316_61, r316_63, r316_64, r316_67, r316_68, r316_69, mx_isr_ref, mx_isr_null, mx_wt_nil, mx_wt_1, mx_wt_2, mx_wt_3, Option.bind_some, Option.toList_some, Option.toList_none, List.cons_append, List.nil_append, mx_nl_int, mx_nl_ref, mx_nl_null, mx_nl_none, mx_nb0, mx_nb1, mx_fb0, mx_fb1, mx_cat_int, mx_cat_ref, if_true, if_false, not_true_eq_false, not_false_eq_true, T, mr_ty_77, mr_n_77, mr_isI_77, mr_ty_78, mr_n_78, mr_isI_78, mr_ty_79, mr_n_79, mr_isI_79, mr_ty_80, mr_n_80, mr_isI_80, mr_ty_81, mr_n_81, mr_isI_81, mr_ty_82, mr_n_82, mr_isJ_82, mr_ty_83, mr_n_83, mr_isI_83, mr_ty_84, mr_n_84, mr_isI_84, mr_ty_85, mr_n_85, mr_isI_85, mr_ty_86, mr_n_86, mr_isI_86, mr_ty_87, mr_n_87, mr_isI_87, mr_ty_88, mr_n_88, mr_isI_88, mr_ty_89, mr_n_89, mr_isJ_89, mr_ty_90, mr_n_90, mr_isI_90, mr_ty_91, mr_n_91, mr_isI_91, mr_ty_92, mr_n_92, mr_isI_92, mr_ty_93, mr_n_93, mr_isI_93, mr_ty_94, mr_n_94, mr_isI_94, mr_ty_95, mr_n_95, mr_isI_95, mr_ty_96, mr_n_96, mr_isI_96, mr_ty_97, mr_n_97, mr_isI_97, mr_ty_98, mr_n_98, mr_isI_98, mr_ty_99, mr_n_99, mr_isI_99, mr_ty_100, mr_n_100, mr_isI_100, mr_ty_101, mr_n_101, mr_isI_101, mr_isF_1, mr_isF_3, mr_isF_4, mr_isF_10, mr_isF_12, mr_isF_18, mr_isF_19, mr_isF_21, mr_isF_22, mr_isF_23, mr_isF_26, mr_isF_34, mr_isF_37, mr_isF_38, mr_isF_39, mr_T_up, mr_T_upJ, mr_T_f, t1, t2, t3, f2, c2]
      · simp only [r316_61, r316_63, r316_64, r316_67, r316_68, r316_69, r316_72, r316_74, mx_isr_ref, mx_isr_null, mx_wt_nil, mx_wt_1, mx_wt_2, mx_wt_3, Option.bind_some, Option.toList_some, Option.toList_none, List.cons_append, List.nil_append, mx_nl_int, mx_nl_ref, mx_nl_null, mx_nl_none, mx_nb0, mx_nb1, mx_fb0, mx_fb1, mx_cat_int, mx_cat_ref, if_true, if_false, not_true_eq_false, not_false_eq_true, T, mr_ty_77, mr_n_77, mr_isI_77, mr_ty_78, mr_n_78, mr_isI_78, mr_ty_79, mr_n_79, mr_isI_79, mr_ty_80, mr_n_80, mr_isI_80, mr_ty_81, mr_n_81, mr_isI_81, mr_ty_82, mr_n_82, mr_isJ_82, mr_ty_83, mr_n_83, mr_isI_83, mr_ty_84, mr_n_84, mr_isI_84, mr_ty_85, mr_n_85, mr_isI_85, mr_ty_86, mr_n_86, mr_isI_86, mr_ty_87, mr_n_87, mr_isI_87, mr_ty_88, mr_n_88, mr_isI_88, mr_ty_89, mr_n_89, mr_isJ_89, mr_ty_90, mr_n_90, mr_isI_90, mr_ty_91, mr_n_91, mr_isI_91, mr_ty_92, mr_n_92, mr_isI_92, mr_ty_93, mr_n_93, mr_isI_93, mr_ty_94, mr_n_94, mr_isI_94, mr_ty_95, mr_n_95, mr_isI_95, mr_ty_96, mr_n_96, mr_isI_96, mr_ty_97, mr_n_97, mr_isI_97, mr_ty_98, mr_n_98, mr_isI_98, mr_ty_99, mr_n_99, mr_isI_99, mr_ty_100, mr_n_100, mr_isI_100, mr_ty_101, mr_n_101, mr_isI_101, mr_isF_1, mr_isF_3, mr_isF_4, mr_isF_10, mr_isF_12, mr_isF_18, mr_isF_19, mr_isF_21, mr_isF_22, mr_isF_23, mr_isF_26, mr_isF_34, mr_isF_37, mr_isF_38, mr_isF_39, mr_T_up, mr_T_upJ, mr_T_f, t1, t2, t3, f2, c2]
theorem rm_wiL (S : rm_TK h ts) (K : tkOK ts) {l : List itm} (W : wIt8 h l) {t v : Nat} (hv : ftx ts v = true) : ∀ n k l5, mx_nl l5 = true → k + n = l.length →
    mx_G (d + 1) 316 14 [some (.ref 76), some (.int (nI t)), some (.int (nI v)), some (.int (nI k)), some (.int 0), l5] [] h = some (some (.int (nI (k + wix (tx ts v) (l.drop k)))), h) := by
  have T := S.1.1
  have hl := S.1.2.1
  have h3 := ftx_3 hv
  have tl := tA3_lt h3
  have x1 := ftx_ok K hv
  have l12 := x1.2.1
  have x3 := W.1
  have f19 := rm_f19 (d := d) T W
  obtain ⟨f, fa, f1, f2, f3⟩ := rm_str S.1 h3
  have t1 : (nI v).toNatClampNeg = v := nI_clamp (by omega)
  have t2 : (0 : Int32) ≤ nI v := nI_pos' (by omega)
  have t3 : v < 130 := by omega
  intro n
  induction n with
  | zero =>
    intro k l5 n5 hk
    have e1 : nI l.length ≤ nI k := nI_le (by omega) (by omega)
    rw [List.drop_eq_nil_of_le (by omega)]
    simp only [r316_14, r316_15, r316_16, r316_18, r316_20, r316_23, r316_139, r316_140, mx_isr_ref, mx_isr_null, mx_wt_nil, mx_wt_1, mx_wt_2, mx_wt_3, Option.bind_some, Option.toList_some, Option.toList_none, List.cons_append, List.nil_append, mx_nl_int, mx_nl_ref, mx_nl_null, mx_nl_none, mx_nb0, mx_nb1, mx_fb0, mx_fb1, mx_cat_int, mx_cat_ref, if_true, if_false, not_true_eq_false, not_false_eq_true, T, f19, e1]
    rfl
  | succ n ih =>
    intro k l5 n5 hk
    have hkl : k < l.length := by omega
    have x2 := W.2.2.1 _ (iG_mem hkl)
    have l13 := x2.2.1
    have e1 : ¬ nI l.length ≤ nI k := nI_ge (by omega) (by omega)
    have im := rm_item (d := d) (h := h) (k := k)
    have rf := rm_f (d := d) T (s := 8) (o := 20 + 14 * k) (by omega)
    have te1 := wIt8_te W hkl (j := 0) (by omega)
    rw [Nat.add_zero] at te1
    rw [te1, show nI 8 = 8 from rfl, show te (iG l k).1 0 = nI (iG l k).1.length from rfl] at rf
    rw [drop_iG hkl]
    have no : ∀ j', (iG l k).1 ≠ tx ts v → mx_G (d + 1) 316 123 [some (.ref 76), some (.int (nI t)), some (.int (nI v)), some (.int (nI k)), some (.int 0), some (.int j')] [] h = some (some (.int (nI (k + wix (tx ts v) (iG l k :: l.drop (k + 1))))), h) := by
      intro j' ne
      have := ih (k + 1) (some (.int j')) rfl (by omega)
      rw [wix, if_neg ne, show k + (wix (tx ts v) (l.drop (k + 1)) + 1) = k + 1 + wix (tx ts v) (l.drop (k + 1)) by omega, ← this]
      simp only [r316_123, r316_125, r316_128, r316_129, r316_132, r316_133, r316_134, r316_135, r316_136, mx_isr_ref, mx_isr_null, mx_wt_nil, mx_wt_1, mx_wt_2, mx_wt_3, Option.bind_some, Option.toList_some, Option.toList_none, List.cons_append, List.nil_append, mx_nl_int, mx_nl_ref, mx_nl_null, mx_nl_none, mx_nb0, mx_nb1, mx_fb0, mx_fb1, mx_cat_int, mx_cat_ref, if_true, if_false, not_true_eq_false, not_false_eq_true, nI_1]
    by_cases c : (iG l k).1.length = (tx ts v).length
    · have e2 : nI (iG l k).1.length = nI (tx ts v).length := by rw [c]
      obtain ⟨j', r⟩ := rm_wiI (d := d) S K W (t := t) hv hkl c _ 0 (Nat.zero_add _)
      rw [List.drop_zero, List.drop_zero, show nI 0 = 0 from rfl] at r
      have s1 : mx_G (d + 1) 316 14 [some (.ref 76), some (.int (nI t)), some (.int (nI v)), some (.int (nI k)), some (.int 0), l5] [] h = mx_G (d + 1) 316 61 [some (.ref 76), some (.int (nI t)), some (.int (nI v)), some (.int (nI k)), some (.int 1), some (.int 0)] [] h := by
        simp only [r316_14, r316_15, r316_16, r316_18, r316_20, r316_23, r316_26, r316_28, r316_31, r316_32, r316_34, r316_35, r316_36, r316_39, r316_42, r316_43, r316_46, r316_47, r316_48, r316_51, r316_52, r316_55, r316_56, r316_58, r316_59, mx_isr_ref, mx_isr_null, mx_wt_nil, mx_wt_1, mx_wt_2, mx_wt_3, Option.bind_some, Option.toList_some, Option.toList_none, List.cons_append, List.nil_append, mx_nl_int, mx_nl_ref, mx_nl_null, mx_nl_none, mx_nb0, mx_nb1, mx_fb0, mx_fb1, mx_cat_int, mx_cat_ref, if_true, if_false, not_true_eq_false, not_false_eq_true, T, mr_ty_77, mr_n_77, mr_isI_77, mr_ty_78, mr_n_78, mr_isI_78, mr_ty_79, mr_n_79, mr_isI_79, mr_ty_80, mr_n_80, mr_isI_80, mr_ty_81, mr_n_81, mr_isI_81, mr_ty_82, mr_n_82, mr_isJ_82, mr_ty_83, mr_n_83, mr_isI_83, mr_ty_84, mr_n_84, mr_isI_84, mr_ty_85, mr_n_85, mr_isI_85, mr_ty_86, mr_n_86, mr_isI_86, mr_ty_87, mr_n_87, mr_isI_87, mr_ty_88, mr_n_88, mr_isI_88, mr_ty_89, mr_n_89, mr_isJ_89, mr_ty_90, mr_n_90, mr_isI_90, mr_ty_91, mr_n_91, mr_isI_91, mr_ty_92, mr_n_92, mr_isI_92, mr_ty_93, mr_n_93, mr_isI_93, mr_ty_94, mr_n_94, mr_isI_94, mr_ty_95, mr_n_95, mr_isI_95, mr_ty_96, mr_n_96, mr_isI_96, mr_ty_97, mr_n_97, mr_isI_97, mr_ty_98, mr_n_98, mr_isI_98, mr_ty_99, mr_n_99, mr_isI_99, mr_ty_100, mr_n_100, mr_isI_100, mr_ty_101, mr_n_101, mr_isI_101, mr_isF_1, mr_isF_3, mr_isF_4, mr_isF_10, mr_isF_12, mr_isF_18, mr_isF_19, mr_isF_21, mr_isF_22, mr_isF_23, mr_isF_26, mr_isF_34, mr_isF_37, mr_isF_38, mr_isF_39, mr_T_up, mr_T_upJ, mr_T_f, t1, t2, t3, f19, e1, im, rf, f2, eq_true e2, n5, show nI 0 = 0 from rfl]
      rw [s1, r]
      by_cases e : (iG l k).1 = tx ts v
      · rw [if_pos e, wix, if_pos e]
        simp only [r316_123, r316_125, r316_128, r316_129, r316_132, r316_133, r316_134, r316_135, r316_136, r316_139, r316_140, r316_14, r316_15, r316_16, r316_18, r316_20, r316_23, r316_26, r316_28, r316_31, mx_isr_ref, mx_isr_null, mx_wt_nil, mx_wt_1, mx_wt_2, mx_wt_3, Option.bind_some, Option.toList_some, Option.toList_none, List.cons_append, List.nil_append, mx_nl_int, mx_nl_ref, mx_nl_null, mx_nl_none, mx_nb0, mx_nb1, mx_fb0, mx_fb1, mx_cat_int, mx_cat_ref, if_true, if_false, not_true_eq_false, not_false_eq_true, T, f19, e1, show ¬ (1 : Int32) = 0 by decide]
        rfl
      · rw [if_neg e]
        exact no j' e
    · have e2 : ¬ nI (iG l k).1.length = nI (tx ts v).length := fun z => c ((nI_eq (by omega) (by omega)).mp z)
      have ne : (iG l k).1 ≠ tx ts v := fun z => c (by rw [z])
      have e4 : ¬ nI (tx ts v).length ≤ (0 : Int32) := nI_ge (b := (tx ts v).length) (a := 0) (by have := x1.1; omega) (by omega)
      rw [← no 0 ne]
      simp only [r316_14, r316_15, r316_16, r316_18, r316_20, r316_23, r316_26, r316_28, r316_31, r316_32, r316_34, r316_35, r316_36, r316_39, r316_42, r316_43, r316_46, r316_47, r316_48, r316_51, r316_52, r316_55, r316_56, r316_58, r316_59, r316_61, r316_63, r316_64, r316_67, r316_68, r316_69, r316_72, r316_74, mx_isr_ref, mx_isr_null, mx_wt_nil, mx_wt_1, mx_wt_2, mx_wt_3, Option.bind_some, Option.toList_some, Option.toList_none, List.cons_append, List.nil_append, mx_nl_int, mx_nl_ref, mx_nl_null, mx_nl_none, mx_nb0, mx_nb1, mx_fb0, mx_fb1, mx_cat_int, mx_cat_ref, if_true, if_false, not_true_eq_false, not_false_eq_true, T, mr_ty_77, mr_n_77, mr_isI_77, mr_ty_78, mr_n_78, mr_isI_78, mr_ty_79, mr_n_79, mr_isI_79, mr_ty_80, mr_n_80, mr_isI_80, mr_ty_81, mr_n_81, mr_isI_81, mr_ty_82, mr_n_82, mr_isJ_82, mr_ty_83, mr_n_83, mr_isI_83, mr_ty_84, mr_n_84, mr_isI_84, mr_ty_85, mr_n_85, mr_isI_85, mr_ty_86, mr_n_86, mr_isI_86, mr_ty_87, mr_n_87, mr_isI_87, mr_ty_88, mr_n_88, mr_isI_88, mr_ty_89, mr_n_89, mr_isJ_89, mr_ty_90, mr_n_90, mr_isI_90, mr_ty_91, mr_n_91, mr_isI_91, mr_ty_92, mr_n_92, mr_isI_92, mr_ty_93, mr_n_93, mr_isI_93, mr_ty_94, mr_n_94, mr_isI_94, mr_ty_95, mr_n_95, mr_isI_95, mr_ty_96, mr_n_96, mr_isI_96, mr_ty_97, mr_n_97, mr_isI_97, mr_ty_98, mr_n_98, mr_isI_98, mr_ty_99, mr_n_99, mr_isI_99, mr_ty_100, mr_n_100, mr_isI_100, mr_ty_101, mr_n_101, mr_isI_101, mr_isF_1, mr_isF_3, mr_isF_4, mr_isF_10, mr_isF_12, mr_isF_18, mr_isF_19, mr_isF_21, mr_isF_22, mr_isF_23, mr_isF_26, mr_isF_34, mr_isF_37, mr_isF_38, mr_isF_39, mr_T_up, mr_T_upJ, mr_T_f, t1, t2, t3, f19, e1, im, rf, f2, eq_false e2, n5, e4]
theorem rm_itemWith (S : rm_TK h ts) (K : tkOK ts) {l : List itm} (W : wIt8 h l) {t m : Nat} (hv : vOk ts t) (ho : tI ts t 123 = true) (hm : fnd ts (kd ts t) w_v = some m) (hf : ftx ts (m + 2) = true) :
    mx_G (d + 4) 316 0 [some (.ref 76), some (.int (nI t)), none, none, none, none] [] h = some (some (.int (nI (wix (tx ts (m + 2)) l))), h) := by
  have T := S.1.1
  have mb := rm_member (d := d) S hv ho w_v_ok.2.2 w_v_ok.1 w_v_ok.2.1
  unfold mbi at mb
  rw [hm] at mb
  have L := rm_wiL (d := d + 3) S K W (t := t) hf l.length 0 none rfl (Nat.zero_add _)
  rw [List.drop_zero, Nat.zero_add, show nI 0 = 0 from rfl] at L
  rw [← L]
  simp only [r316_0, r316_1, r316_2, r316_5, r316_8, r316_9, r316_10, r316_11, r316_12, mx_isr_ref, mx_isr_null, mx_wt_nil, mx_wt_1, mx_wt_2, mx_wt_3, Option.bind_some, Option.toList_some, Option.toList_none, List.cons_append, List.nil_append, mx_nl_int, mx_nl_ref, mx_nl_null, mx_nl_none, mx_nb0, mx_nb1, mx_fb0, mx_fb1, mx_cat_int, mx_cat_ref, if_true, if_false, not_true_eq_false, not_false_eq_true, T, mb]
end
