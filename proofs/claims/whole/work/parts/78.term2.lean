section
variable {d : Nat} {h : mx_H} {ts : List tk}
theorem cR_up {D : Nat} {w wr : Bool} {s : List Nat} {out : List stp} {i a k : Nat} {x : Int32} (C : cR h D w wr s out i) (ha : a = 86 ∨ a = 87) (hk : k = out.length) : cR (mx_up h a k (.int x)) D w wr s out i ∧ mf Pcp h (mx_up h a k (.int x)) := by
  obtain ⟨T, c1, c2, c3, c4, c5, c6, c7, c8, c9⟩ := C
  have hI : mr_isI a = true := by rcases ha with e | e <;> (subst e; decide)
  have hP : Pcp a k = true := by rcases ha with e | e <;> (subst e; rfl)
  have n76 : 76 ≠ a := by rcases ha with e | e <;> (subst e; decide)
  have n85 : 85 ≠ a := by rcases ha with e | e <;> (subst e; decide)
  have n88 : 88 ≠ a := by rcases ha with e | e <;> (subst e; decide)
  have n89 : 89 ≠ a := by rcases ha with e | e <;> (subst e; decide)
  have n90 : 90 ≠ a := by rcases ha with e | e <;> (subst e; decide)
  have o : ∀ b j, j < out.length → mi (mx_up h a k (.int x)) b j = mi h b j := fun b j hj => by rw [mi_up, if_neg (by omega)]
  refine ⟨⟨mr_T_up T hI x, by rw [mi_o n76, c1], c2, by rw [mi_o n76, c3], by rw [mi_o n76, c4], by rw [mi_o n76, c5], by rw [mi_o n76, c6], stkA_keep c7 fun k _ => by rw [mi_o n90], by rw [mi_o n76, c8], fun j hj => ?_⟩, mf_up (mf_rfl T) hI hP⟩
  exact stpR_keep (c9 j hj) (o _ _ hj) (o _ _ hj) (ml_upI _ _ _ _ _ _ n89) (o _ _ hj) (o _ _ hj)
theorem cR_upJ {D : Nat} {w wr : Bool} {s : List Nat} {out : List stp} {i k : Nat} {x : Int64} (C : cR h D w wr s out i) (hk : k = out.length) : cR (mx_up h 89 k (.long x)) D w wr s out i ∧ mf Pcp h (mx_up h 89 k (.long x)) := by
  obtain ⟨T, c1, c2, c3, c4, c5, c6, c7, c8, c9⟩ := C
  have o : ∀ b j, b ≠ 89 → mi (mx_up h 89 k (.long x)) b j = mi h b j := fun b j hb => mi_upJ _ _ _ _ _ _ hb
  refine ⟨⟨mr_T_upJ T (by decide) x, by rw [o _ _ (by decide), c1], c2, by rw [o _ _ (by decide), c3], by rw [o _ _ (by decide), c4], by rw [o _ _ (by decide), c5], by rw [o _ _ (by decide), c6], stkA_keep c7 fun k _ => by rw [o _ _ (by decide)], by rw [o _ _ (by decide), c8], fun j hj => ?_⟩, mf_upJ (mf_rfl T) (by decide) fun _ => rfl⟩
  exact stpR_keep (c9 j hj) (o _ _ (by decide)) (o _ _ (by decide)) (by rw [ml_up, if_neg (by omega)]) (o _ _ (by decide)) (o _ _ (by decide))
theorem rm_opAt (S : rm_TK h ts) {o : Nat} (ho : o < 2 ^ 30) : (o < ts.length ∧ mi h 79 o = 1 ∧ ml h 82 o = w27 (opw ts o)) ∨ (o < ts.length ∧ ¬ mi h 79 o = 1 ∧ w27 (opw ts o) = 0) ∨ (ts.length ≤ o ∧ w27 (opw ts o) = 0) := by
  rcases Nat.lt_or_ge o ts.length with ol | ol
  · have hk := S.1.2.2.2 o ol
    rw [show ts.getD o (0, []) = tA ts o from rfl] at hk
    rcases hk with ⟨a, b, c⟩ | ⟨a, b, -⟩ | ⟨a, b, -⟩ | ⟨a, a', b, -⟩
    · exact Or.inl ⟨ol, b, by rw [c]; unfold opw; rw [if_pos a]⟩
    · exact Or.inr (Or.inl ⟨ol, by rw [b]; decide, by unfold opw; rw [if_neg (by omega)]; rfl⟩)
    · exact Or.inr (Or.inl ⟨ol, by rw [b]; decide, by unfold opw; rw [if_neg (by omega)]; rfl⟩)
    · exact Or.inr (Or.inl ⟨ol, by rw [b]; decide, by unfold opw; rw [if_neg (by omega)]; rfl⟩)
  · exact Or.inr (Or.inr ⟨ol, by unfold opw; rw [tA_geP ol]; rfl⟩)
theorem rm_tm0 (S : rm_TK h ts) {w : Bool} (hw : mi h 76 22 = if w = true then 1 else 0) {k : Nat} (hk : k ≤ ts.length) : mx_G (d + 2) 297 0 [some (.ref 76), some (.int (nI k)), none, none, none, none, none, none, none, none] [] h =
    mx_G (d + 2) 297 65 [some (.ref 76), some (.int (nI k)), some (.int (nI (pAt ts w k))), some (.int (nI (oAt ts w k))), some (.long (w27 (opw ts (oAt ts w k)))), none, none, none, none, none] [] h := by
  have T := S.1.1
  have hl := S.1.2.1
  have pa := rm_pathAt (d := d) S hw (k := k) (by omega)
  have i := rm_isF (d := d + 1) S.1 (t := k + 1) (by omega)
  have tk := S.1.2.2.1
  have og : oAt ts w k ≤ k + 3 := by unfold oAt; split <;> omega
  have st : mx_G (d + 2) 297 0 [some (.ref 76), some (.int (nI k)), none, none, none, none, none, none, none, none] [] h = mx_G (d + 2) 297 35 [some (.ref 76), some (.int (nI k)), some (.int (nI (pAt ts w k))), some (.int (nI (oAt ts w k))), none, none, none, none, none, none] [] h := by
    unfold oAt
    have e3 : nI k + 3 = nI (k + 3) := nI_add k 3
    cases w with
    | true => simp only [r297_0, r297_1, r297_2, r297_5, r297_6, r297_7, r297_10, r297_13, r297_14, r297_15, r297_16, r297_17, r297_19, r297_22, r297_25, r297_26, r297_27, r297_28, r297_31, r297_32, r297_33, r297_34, mx_isr_ref, mx_isr_null, mx_wt_nil, mx_wt_1, mx_wt_2, mx_wt_3, Option.bind_some, Option.toList_some, Option.toList_none, List.cons_append, List.nil_append, mx_nl_int, mx_nl_ref, mx_nl_null, mx_nl_none, mx_nb0, mx_nb1, mx_fb0, mx_fb1, mx_cat_int, mx_cat_ref, if_true, if_false, not_true_eq_false, not_false_eq_true, T, pa, hw, nI_1, Bool.not_true, Bool.false_and, Bool.false_eq_true, show ¬ (1 : Int32) = 0 by decide]
    | false =>
      cases z : tI ts (k + 1) 46 with
      | true => simp only [r297_0, r297_1, r297_2, r297_5, r297_6, r297_7, r297_10, r297_13, r297_14, r297_15, r297_16, r297_17, r297_19, r297_22, r297_25, r297_26, r297_27, r297_28, r297_31, r297_32, r297_33, r297_34, mx_isr_ref, mx_isr_null, mx_wt_nil, mx_wt_1, mx_wt_2, mx_wt_3, Option.bind_some, Option.toList_some, Option.toList_none, List.cons_append, List.nil_append, mx_nl_int, mx_nl_ref, mx_nl_null, mx_nl_none, mx_nb0, mx_nb1, mx_fb0, mx_fb1, mx_cat_int, mx_cat_ref, if_true, if_false, not_true_eq_false, not_false_eq_true, T, pa, hw, i, z, e3, nI_1, Bool.not_false, Bool.and_self, Bool.false_eq_true, show ¬ (1 : Int32) = 0 by decide]
      | false => simp only [r297_0, r297_1, r297_2, r297_5, r297_6, r297_7, r297_10, r297_13, r297_14, r297_15, r297_16, r297_17, r297_19, r297_22, r297_25, r297_26, r297_27, r297_28, r297_31, r297_32, r297_33, r297_34, mx_isr_ref, mx_isr_null, mx_wt_nil, mx_wt_1, mx_wt_2, mx_wt_3, Option.bind_some, Option.toList_some, Option.toList_none, List.cons_append, List.nil_append, mx_nl_int, mx_nl_ref, mx_nl_null, mx_nl_none, mx_nb0, mx_nb1, mx_fb0, mx_fb1, mx_cat_int, mx_cat_ref, if_true, if_false, not_true_eq_false, not_false_eq_true, T, pa, hw, i, z, nI_1, Bool.not_false, Bool.and_false, Bool.false_eq_true]
  rw [st]
  have t1 : (nI (oAt ts w k)).toNatClampNeg = oAt ts w k := nI_clamp (by omega)
  have t2 : (0 : Int32) ≤ nI (oAt ts w k) := nI_pos' (by omega)
  rcases rm_opAt S (o := oAt ts w k) (by omega) with ⟨a, b, c⟩ | ⟨a, b, c⟩ | ⟨a, c⟩
  · have e1 : ¬ nI ts.length ≤ nI (oAt ts w k) := nI_ge a (by omega)
    have t3 : oAt ts w k < 130 := by omega
    simp only [r297_35, r297_36, r297_37, r297_40, r297_43, r297_44, r297_47, r297_48, r297_49, r297_50, r297_53, r297_54, r297_57, r297_58, r297_59, r297_62, r297_63, mx_isr_ref, mx_isr_null, mx_wt_nil, mx_wt_1, mx_wt_2, mx_wt_3, Option.bind_some, Option.toList_some, Option.toList_none, List.cons_append, List.nil_append, mx_nl_int, mx_nl_ref, mx_nl_null, mx_nl_none, mx_nb0, mx_nb1, mx_fb0, mx_fb1, mx_cat_int, mx_cat_ref, if_true, if_false, not_true_eq_false, not_false_eq_true, T, tk, e1, mr_ty_77, mr_n_77, mr_isI_77, mr_ty_78, mr_n_78, mr_isI_78, mr_ty_79, mr_n_79, mr_isI_79, mr_ty_80, mr_n_80, mr_isI_80, mr_ty_81, mr_n_81, mr_isI_81, mr_ty_82, mr_n_82, mr_isJ_82, mr_ty_83, mr_n_83, mr_isI_83, mr_ty_84, mr_n_84, mr_isI_84, mr_ty_85, mr_n_85, mr_isI_85, mr_ty_86, mr_n_86, mr_isI_86, mr_ty_87, mr_n_87, mr_isI_87, mr_ty_88, mr_n_88, mr_isI_88, mr_ty_89, mr_n_89, mr_isJ_89, mr_ty_90, mr_n_90, mr_isI_90, mr_ty_91, mr_n_91, mr_isI_91, mr_ty_92, mr_n_92, mr_isI_92, mr_ty_93, mr_n_93, mr_isI_93, mr_ty_94, mr_n_94, mr_isI_94, mr_ty_95, mr_n_95, mr_isI_95, mr_ty_96, mr_n_96, mr_isI_96, mr_ty_97, mr_n_97, mr_isI_97, mr_ty_98, mr_n_98, mr_isI_98, mr_ty_99, mr_n_99, mr_isI_99, mr_ty_100, mr_n_100, mr_isI_100, mr_ty_101, mr_n_101, mr_isI_101, mr_isF_1, mr_isF_3, mr_isF_4, mr_isF_10, mr_isF_12, mr_isF_18, mr_isF_19, mr_isF_21, mr_isF_22, mr_isF_23, mr_isF_26, mr_isF_34, mr_isF_37, mr_isF_38, mr_isF_39, mr_T_up, mr_T_upJ, mr_T_f, t1, t2, t3, b, c]
  · have e1 : ¬ nI ts.length ≤ nI (oAt ts w k) := nI_ge a (by omega)
    have t3 : oAt ts w k < 130 := by omega
    rw [c]
    simp only [r297_35, r297_36, r297_37, r297_40, r297_43, r297_44, r297_47, r297_48, r297_49, r297_50, r297_53, r297_54, r297_57, r297_58, r297_59, r297_62, r297_63, mx_isr_ref, mx_isr_null, mx_wt_nil, mx_wt_1, mx_wt_2, mx_wt_3, Option.bind_some, Option.toList_some, Option.toList_none, List.cons_append, List.nil_append, mx_nl_int, mx_nl_ref, mx_nl_null, mx_nl_none, mx_nb0, mx_nb1, mx_fb0, mx_fb1, mx_cat_int, mx_cat_ref, if_true, if_false, not_true_eq_false, not_false_eq_true, T, tk, e1, mr_ty_77, mr_n_77, mr_isI_77, mr_ty_78, mr_n_78, mr_isI_78, mr_ty_79, mr_n_79, mr_isI_79, mr_ty_80, mr_n_80, mr_isI_80, mr_ty_81, mr_n_81, mr_isI_81, mr_ty_82, mr_n_82, mr_isJ_82, mr_ty_83, mr_n_83, mr_isI_83, mr_ty_84, mr_n_84, mr_isI_84, mr_ty_85, mr_n_85, mr_isI_85, mr_ty_86, mr_n_86, mr_isI_86, mr_ty_87, mr_n_87, mr_isI_87, mr_ty_88, mr_n_88, mr_isI_88, mr_ty_89, mr_n_89, mr_isJ_89, mr_ty_90, mr_n_90, mr_isI_90, mr_ty_91, mr_n_91, mr_isI_91, mr_ty_92, mr_n_92, mr_isI_92, mr_ty_93, mr_n_93, mr_isI_93, mr_ty_94, mr_n_94, mr_isI_94, mr_ty_95, mr_n_95, mr_isI_95, mr_ty_96, mr_n_96, mr_isI_96, mr_ty_97, mr_n_97, mr_isI_97, mr_ty_98, mr_n_98, mr_isI_98, mr_ty_99, mr_n_99, mr_isI_99, mr_ty_100, mr_n_100, mr_isI_100, mr_ty_101, mr_n_101, mr_isI_101, mr_isF_1, mr_isF_3, mr_isF_4, mr_isF_10, mr_isF_12, mr_isF_18, mr_isF_19, mr_isF_21, mr_isF_22, mr_isF_23, mr_isF_26, mr_isF_34, mr_isF_37, mr_isF_38, mr_isF_39, mr_T_up, mr_T_upJ, mr_T_f, t1, t2, t3, b]
  · have e1 : nI ts.length ≤ nI (oAt ts w k) := nI_le a (by omega)
    rw [c]
    simp only [r297_35, r297_36, r297_37, r297_40, r297_43, r297_44, r297_47, r297_48, r297_49, r297_50, r297_53, r297_54, r297_57, r297_58, r297_59, r297_62, r297_63, mx_isr_ref, mx_isr_null, mx_wt_nil, mx_wt_1, mx_wt_2, mx_wt_3, Option.bind_some, Option.toList_some, Option.toList_none, List.cons_append, List.nil_append, mx_nl_int, mx_nl_ref, mx_nl_null, mx_nl_none, mx_nb0, mx_nb1, mx_fb0, mx_fb1, mx_cat_int, mx_cat_ref, if_true, if_false, not_true_eq_false, not_false_eq_true, T, tk, e1]
/-- flags of the operator -/
theorem rm_tm1 (K : ∀ q ∈ ts, tk_ok q) {k way o : Int32} {p : Nat} {l6 l7 l8 l9 : Option Value} : mx_G d 297 65 [some (.ref 76), some (.int k), some (.int way), some (.int o), some (.long (w27 (opw ts p))), none, l6, l7, l8, l9] [] h =
    mx_G d 297 108 [some (.ref 76), some (.int k), some (.int way), some (.int o), some (.long (w27 (opw ts p))), none, some (.int (if opw ts p = w_gt ∨ opw ts p = w_ge ∨ opw ts p = w_lt ∨ opw ts p = w_le then 1 else 0)), l7, l8, l9] [] h := by
  have E := opE K p
  generalize opw ts p = op at E ⊢
  by_cases c1 : op = w_gt
  · simp only [r297_65, r297_67, r297_70, r297_71, r297_74, r297_76, r297_79, r297_80, r297_83, r297_85, r297_88, r297_89, r297_92, r297_94, r297_97, r297_98, r297_101, r297_102, r297_105, r297_106, mx_isr_ref, mx_isr_null, mx_wt_nil, mx_wt_1, mx_wt_2, mx_wt_3, Option.bind_some, Option.toList_some, Option.toList_none, List.cons_append, List.nil_append, mx_nl_int, mx_nl_ref, mx_nl_null, mx_nl_none, mx_nb0, mx_nb1, mx_fb0, mx_fb1, mx_cat_int, mx_cat_ref, if_true, if_false, not_true_eq_false, not_false_eq_true, lg_cmp0, E, eq_true c1, true_or]
  · by_cases c2 : op = w_ge
    · simp only [r297_65, r297_67, r297_70, r297_71, r297_74, r297_76, r297_79, r297_80, r297_83, r297_85, r297_88, r297_89, r297_92, r297_94, r297_97, r297_98, r297_101, r297_102, r297_105, r297_106, mx_isr_ref, mx_isr_null, mx_wt_nil, mx_wt_1, mx_wt_2, mx_wt_3, Option.bind_some, Option.toList_some, Option.toList_none, List.cons_append, List.nil_append, mx_nl_int, mx_nl_ref, mx_nl_null, mx_nl_none, mx_nb0, mx_nb1, mx_fb0, mx_fb1, mx_cat_int, mx_cat_ref, if_true, if_false, not_true_eq_false, not_false_eq_true, lg_cmp0, E, eq_false c1, eq_true c2, true_or, or_true]
    · by_cases c3 : op = w_lt
      · simp only [r297_65, r297_67, r297_70, r297_71, r297_74, r297_76, r297_79, r297_80, r297_83, r297_85, r297_88, r297_89, r297_92, r297_94, r297_97, r297_98, r297_101, r297_102, r297_105, r297_106, mx_isr_ref, mx_isr_null, mx_wt_nil, mx_wt_1, mx_wt_2, mx_wt_3, Option.bind_some, Option.toList_some, Option.toList_none, List.cons_append, List.nil_append, mx_nl_int, mx_nl_ref, mx_nl_null, mx_nl_none, mx_nb0, mx_nb1, mx_fb0, mx_fb1, mx_cat_int, mx_cat_ref, if_true, if_false, not_true_eq_false, not_false_eq_true, lg_cmp0, E, eq_false c1, eq_false c2, eq_true c3, true_or, or_true]
      · by_cases c4 : op = w_le
        · simp only [r297_65, r297_67, r297_70, r297_71, r297_74, r297_76, r297_79, r297_80, r297_83, r297_85, r297_88, r297_89, r297_92, r297_94, r297_97, r297_98, r297_101, r297_102, r297_105, r297_106, mx_isr_ref, mx_isr_null, mx_wt_nil, mx_wt_1, mx_wt_2, mx_wt_3, Option.bind_some, Option.toList_some, Option.toList_none, List.cons_append, List.nil_append, mx_nl_int, mx_nl_ref, mx_nl_null, mx_nl_none, mx_nb0, mx_nb1, mx_fb0, mx_fb1, mx_cat_int, mx_cat_ref, if_true, if_false, not_true_eq_false, not_false_eq_true, lg_cmp0, E, eq_false c1, eq_false c2, eq_false c3, eq_true c4, true_or, or_true]
        · simp only [r297_65, r297_67, r297_70, r297_71, r297_74, r297_76, r297_79, r297_80, r297_83, r297_85, r297_88, r297_89, r297_92, r297_94, r297_97, r297_98, r297_101, r297_102, r297_105, r297_106, mx_isr_ref, mx_isr_null, mx_wt_nil, mx_wt_1, mx_wt_2, mx_wt_3, Option.bind_some, Option.toList_some, Option.toList_none, List.cons_append, List.nil_append, mx_nl_int, mx_nl_ref, mx_nl_null, mx_nl_none, mx_nb0, mx_nb1, mx_fb0, mx_fb1, mx_cat_int, mx_cat_ref, if_true, if_false, not_true_eq_false, not_false_eq_true, lg_cmp0, E, eq_false c1, eq_false c2, eq_false c3, eq_false c4, or_self]
theorem rm_tm2 (K : ∀ q ∈ ts, tk_ok q) {k way o f : Int32} {p : Nat} {l7 l8 l9 : Option Value} : mx_G d 297 108 [some (.ref 76), some (.int k), some (.int way), some (.int o), some (.long (w27 (opw ts p))), none, some (.int f), l7, l8, l9] [] h =
    mx_G d 297 142 [some (.ref 76), some (.int k), some (.int way), some (.int o), some (.long (w27 (opw ts p))), none, some (.int f), some (.int (if opw ts p = w_co ∨ opw ts p = w_sw ∨ opw ts p = w_ew then 1 else 0)), l8, l9] [] h := by
  have E := opE K p
  generalize opw ts p = op at E ⊢
  by_cases c1 : op = w_co
  · simp only [r297_108, r297_110, r297_113, r297_114, r297_117, r297_119, r297_122, r297_123, r297_126, r297_128, r297_131, r297_132, r297_135, r297_136, r297_139, r297_140, mx_isr_ref, mx_isr_null, mx_wt_nil, mx_wt_1, mx_wt_2, mx_wt_3, Option.bind_some, Option.toList_some, Option.toList_none, List.cons_append, List.nil_append, mx_nl_int, mx_nl_ref, mx_nl_null, mx_nl_none, mx_nb0, mx_nb1, mx_fb0, mx_fb1, mx_cat_int, mx_cat_ref, if_true, if_false, not_true_eq_false, not_false_eq_true, lg_cmp0, E, eq_true c1, true_or]
  · by_cases c2 : op = w_sw
    · simp only [r297_108, r297_110, r297_113, r297_114, r297_117, r297_119, r297_122, r297_123, r297_126, r297_128, r297_131, r297_132, r297_135, r297_136, r297_139, r297_140, mx_isr_ref, mx_isr_null, mx_wt_nil, mx_wt_1, mx_wt_2, mx_wt_3, Option.bind_some, Option.toList_some, Option.toList_none, List.cons_append, List.nil_append, mx_nl_int, mx_nl_ref, mx_nl_null, mx_nl_none, mx_nb0, mx_nb1, mx_fb0, mx_fb1, mx_cat_int, mx_cat_ref, if_true, if_false, not_true_eq_false, not_false_eq_true, lg_cmp0, E, eq_false c1, eq_true c2, true_or, or_true]
    · by_cases c3 : op = w_ew
      · simp only [r297_108, r297_110, r297_113, r297_114, r297_117, r297_119, r297_122, r297_123, r297_126, r297_128, r297_131, r297_132, r297_135, r297_136, r297_139, r297_140, mx_isr_ref, mx_isr_null, mx_wt_nil, mx_wt_1, mx_wt_2, mx_wt_3, Option.bind_some, Option.toList_some, Option.toList_none, List.cons_append, List.nil_append, mx_nl_int, mx_nl_ref, mx_nl_null, mx_nl_none, mx_nb0, mx_nb1, mx_fb0, mx_fb1, mx_cat_int, mx_cat_ref, if_true, if_false, not_true_eq_false, not_false_eq_true, lg_cmp0, E, eq_false c1, eq_false c2, eq_true c3, true_or, or_true]
      · simp only [r297_108, r297_110, r297_113, r297_114, r297_117, r297_119, r297_122, r297_123, r297_126, r297_128, r297_131, r297_132, r297_135, r297_136, r297_139, r297_140, mx_isr_ref, mx_isr_null, mx_wt_nil, mx_wt_1, mx_wt_2, mx_wt_3, Option.bind_some, Option.toList_some, Option.toList_none, List.cons_append, List.nil_append, mx_nl_int, mx_nl_ref, mx_nl_null, mx_nl_none, mx_nb0, mx_nb1, mx_fb0, mx_fb1, mx_cat_int, mx_cat_ref, if_true, if_false, not_true_eq_false, not_false_eq_true, lg_cmp0, E, eq_false c1, eq_false c2, eq_false c3, or_self]
theorem tyO_lt (w : Nat) : tyO w < 4 := by unfold tyO; (repeat' split) <;> omega
theorem rm_tm3 (T : mr_T h) (K : ∀ q ∈ ts, tk_ok q) {k o : Int32} {p way : Nat} (hw : way < 8) {l8 l9 : Option Value} : mx_G (d + 1) 297 142 [some (.ref 76), some (.int k), some (.int (nI way)), some (.int o), some (.long (w27 (opw ts p))), none, some (.int (if opw ts p = w_gt ∨ opw ts p = w_ge ∨ opw ts p = w_lt ∨ opw ts p = w_le then 1 else 0)), some (.int (if opw ts p = w_co ∨ opw ts p = w_sw ∨ opw ts p = w_ew then 1 else 0)), l8, l9] [] h =
    mx_G (d + 1) 297 196 [some (.ref 76), some (.int k), some (.int (nI way)), some (.int o), some (.long (w27 (opw ts p))), none, some (.int (if opw ts p = w_gt ∨ opw ts p = w_ge ∨ opw ts p = w_lt ∨ opw ts p = w_le then 1 else 0)), some (.int (if opw ts p = w_co ∨ opw ts p = w_sw ∨ opw ts p = w_ew then 1 else 0)), some (.int (nI (tyO way))), some (.int (if vld (opw ts p) (tyO way) = true then 1 else 0))] [] h := by
  have E := opE K p
  have ty := rm_typeOf (d := d) (h := h) hw
  have t4 := tyO_lt way
  unfold vld
  generalize opw ts p = op at E ⊢
  generalize tyO way = y at ty t4 ⊢
  by_cases c1 : op = w_eq
  · simp only [r297_142, r297_143, r297_144, r297_147, r297_149, r297_151, r297_154, r297_155, r297_158, r297_160, r297_163, r297_164, r297_167, r297_169, r297_172, r297_174, r297_175, r297_178, r297_180, r297_183, r297_185, r297_186, r297_189, r297_190, r297_193, r297_194, mx_isr_ref, mx_isr_null, mx_wt_nil, mx_wt_1, mx_wt_2, mx_wt_3, Option.bind_some, Option.toList_some, Option.toList_none, List.cons_append, List.nil_append, mx_nl_int, mx_nl_ref, mx_nl_null, mx_nl_none, mx_nb0, mx_nb1, mx_fb0, mx_fb1, mx_cat_int, mx_cat_ref, if_true, if_false, not_true_eq_false, not_false_eq_true, T, ty, lg_cmp0, E, eq_true c1, true_or, decide_true]
  · by_cases c2 : op = w_ne
    · simp only [r297_142, r297_143, r297_144, r297_147, r297_149, r297_151, r297_154, r297_155, r297_158, r297_160, r297_163, r297_164, r297_167, r297_169, r297_172, r297_174, r297_175, r297_178, r297_180, r297_183, r297_185, r297_186, r297_189, r297_190, r297_193, r297_194, mx_isr_ref, mx_isr_null, mx_wt_nil, mx_wt_1, mx_wt_2, mx_wt_3, Option.bind_some, Option.toList_some, Option.toList_none, List.cons_append, List.nil_append, mx_nl_int, mx_nl_ref, mx_nl_null, mx_nl_none, mx_nb0, mx_nb1, mx_fb0, mx_fb1, mx_cat_int, mx_cat_ref, if_true, if_false, not_true_eq_false, not_false_eq_true, T, ty, lg_cmp0, E, eq_false c1, eq_true c2, true_or, or_true, decide_true]
    · by_cases c3 : op = w_gt ∨ op = w_ge ∨ op = w_lt ∨ op = w_le
      · have np : ¬ (op = w_co ∨ op = w_sw ∨ op = w_ew) := by
          rcases c3 with c | c | c | c <;> (subst c; decide)
        by_cases c4 : y < 3
        · have e : nI y < 3 := nI_lt (b := 3) c4 (by decide)
          simp only [r297_142, r297_143, r297_144, r297_147, r297_149, r297_151, r297_154, r297_155, r297_158, r297_160, r297_163, r297_164, r297_167, r297_169, r297_172, r297_174, r297_175, r297_178, r297_180, r297_183, r297_185, r297_186, r297_189, r297_190, r297_193, r297_194, mx_isr_ref, mx_isr_null, mx_wt_nil, mx_wt_1, mx_wt_2, mx_wt_3, Option.bind_some, Option.toList_some, Option.toList_none, List.cons_append, List.nil_append, mx_nl_int, mx_nl_ref, mx_nl_null, mx_nl_none, mx_nb0, mx_nb1, mx_fb0, mx_fb1, mx_cat_int, mx_cat_ref, if_true, if_false, not_true_eq_false, not_false_eq_true, T, ty, lg_cmp0, E, eq_false c1, eq_false c2, eq_true c3, e, c4, and_self, true_or, or_true, decide_true, show ¬ (1 : Int32) = 0 by decide]
        · have e : ¬ nI y < 3 := nI_nlt (b := 3) (by omega) (by omega)
          simp only [r297_142, r297_143, r297_144, r297_147, r297_149, r297_151, r297_154, r297_155, r297_158, r297_160, r297_163, r297_164, r297_167, r297_169, r297_172, r297_174, r297_175, r297_178, r297_180, r297_183, r297_185, r297_186, r297_189, r297_190, r297_193, r297_194, mx_isr_ref, mx_isr_null, mx_wt_nil, mx_wt_1, mx_wt_2, mx_wt_3, Option.bind_some, Option.toList_some, Option.toList_none, List.cons_append, List.nil_append, mx_nl_int, mx_nl_ref, mx_nl_null, mx_nl_none, mx_nb0, mx_nb1, mx_fb0, mx_fb1, mx_cat_int, mx_cat_ref, if_true, if_false, not_true_eq_false, not_false_eq_true, T, ty, lg_cmp0, E, eq_false c1, eq_false c2, eq_true c3, eq_false np, e, c4, and_false, false_and, or_self, decide_false, Bool.false_eq_true, show ¬ (1 : Int32) = 0 by decide]
      · by_cases c5 : op = w_co ∨ op = w_sw ∨ op = w_ew
        · by_cases c6 : y = 2
          · have e : nI y = 2 := by rw [c6]; rfl
            simp only [r297_142, r297_143, r297_144, r297_147, r297_149, r297_151, r297_154, r297_155, r297_158, r297_160, r297_163, r297_164, r297_167, r297_169, r297_172, r297_174, r297_175, r297_178, r297_180, r297_183, r297_185, r297_186, r297_189, r297_190, r297_193, r297_194, mx_isr_ref, mx_isr_null, mx_wt_nil, mx_wt_1, mx_wt_2, mx_wt_3, Option.bind_some, Option.toList_some, Option.toList_none, List.cons_append, List.nil_append, mx_nl_int, mx_nl_ref, mx_nl_null, mx_nl_none, mx_nb0, mx_nb1, mx_fb0, mx_fb1, mx_cat_int, mx_cat_ref, if_true, if_false, not_true_eq_false, not_false_eq_true, T, ty, lg_cmp0, E, eq_false c1, eq_false c2, eq_false c3, eq_true c5, eq_true e, eq_true c6, and_self, false_and, or_true, decide_true, show ¬ (1 : Int32) = 0 by decide]
          · have e : ¬ nI y = 2 := fun z => c6 ((nI_eq (b := 2) (by omega) (by decide)).mp z)
            simp only [r297_142, r297_143, r297_144, r297_147, r297_149, r297_151, r297_154, r297_155, r297_158, r297_160, r297_163, r297_164, r297_167, r297_169, r297_172, r297_174, r297_175, r297_178, r297_180, r297_183, r297_185, r297_186, r297_189, r297_190, r297_193, r297_194, mx_isr_ref, mx_isr_null, mx_wt_nil, mx_wt_1, mx_wt_2, mx_wt_3, Option.bind_some, Option.toList_some, Option.toList_none, List.cons_append, List.nil_append, mx_nl_int, mx_nl_ref, mx_nl_null, mx_nl_none, mx_nb0, mx_nb1, mx_fb0, mx_fb1, mx_cat_int, mx_cat_ref, if_true, if_false, not_true_eq_false, not_false_eq_true, T, ty, lg_cmp0, E, eq_false c1, eq_false c2, eq_false c3, eq_true c5, e, eq_false c6, and_false, false_and, or_self, decide_false, Bool.false_eq_true, show ¬ (1 : Int32) = 0 by decide]
        · simp only [r297_142, r297_143, r297_144, r297_147, r297_149, r297_151, r297_154, r297_155, r297_158, r297_160, r297_163, r297_164, r297_167, r297_169, r297_172, r297_174, r297_175, r297_178, r297_180, r297_183, r297_185, r297_186, r297_189, r297_190, r297_193, r297_194, mx_isr_ref, mx_isr_null, mx_wt_nil, mx_wt_1, mx_wt_2, mx_wt_3, Option.bind_some, Option.toList_some, Option.toList_none, List.cons_append, List.nil_append, mx_nl_int, mx_nl_ref, mx_nl_null, mx_nl_none, mx_nb0, mx_nb1, mx_fb0, mx_fb1, mx_cat_int, mx_cat_ref, if_true, if_false, not_true_eq_false, not_false_eq_true, T, ty, lg_cmp0, E, eq_false c1, eq_false c2, eq_false c3, eq_false c5, false_and, or_self, decide_false, Bool.false_eq_true]
theorem rm_tm4 (S : rm_TK h ts) {w : Bool} {k : Nat} (hk : k ≤ ts.length) {l6 l7 : Option Value} : mx_G (d + 2) 297 196 [some (.ref 76), some (.int (nI k)), some (.int (nI (pAt ts w k))), some (.int (nI (oAt ts w k))), some (.long (w27 (opw ts (oAt ts w k)))), none, l6, l7, some (.int (nI (tyO (pAt ts w k)))), some (.int (if vld (opw ts (oAt ts w k)) (tyO (pAt ts w k)) = true then 1 else 0))] [] h =
    mx_G (d + 2) 297 249 [some (.ref 76), some (.int (nI k)), some (.int (nI (pAt ts w k))), some (.int (nI (oAt ts w k))), some (.long (w27 (opw ts (oAt ts w k)))), none, l6, l7, some (.int (nI (tyO (pAt ts w k)))), some (.int (if vld (opw ts (oAt ts w k)) (tyO (pAt ts w k)) = true then 1 else 0))] [] (if cC ts w k = none then mx_up h 76 23 (.int 1) else h) := by
  have T := S.1.1
  have hl := S.1.2.1
  have E := opE S.2 (oAt ts w k)
  have og : oAt ts w k ≤ k + 3 := by unfold oAt; split <;> omega
  have og' := oAt_gt (ts := ts) w k
  have y := rm_saysF (d := d + 1) S (t := k) (by omega)
  have sca := rm_scalar (d := d) S (t := oAt ts w k + 1) (by omega)
  have sc4 := sc_lt4 (ts := ts) (oAt ts w k + 1)
  have ty4 := tyO_lt (pAt ts w k)
  have pl := pAt_lt (ts := ts) w k
  unfold cC
  generalize opw ts (oAt ts w k) = op at E ⊢
  have tail : mx_G (d + 2) 297 226 [some (.ref 76), some (.int (nI k)), some (.int (nI (pAt ts w k))), some (.int (nI (oAt ts w k))), some (.long (w27 op)), none, l6, l7, some (.int (nI (tyO (pAt ts w k)))), some (.int (if vld op (tyO (pAt ts w k)) = true then 1 else 0))] [] h =
      mx_G (d + 2) 297 249 [some (.ref 76), some (.int (nI k)), some (.int (nI (pAt ts w k))), some (.int (nI (oAt ts w k))), some (.long (w27 op)), none, l6, l7, some (.int (nI (tyO (pAt ts w k)))), some (.int (if vld op (tyO (pAt ts w k)) = true then 1 else 0))] [] (if k + 1 < oAt ts w k ∧ tW ts k w_mail = false then mx_up h 76 23 (.int 1) else h) := by
    by_cases c1 : k + 1 < oAt ts w k
    · have e1 : ¬ nI (oAt ts w k) ≤ nI (k + 1) := nI_ge c1 (by omega)
      cases z : tW ts k w_mail with
      | true => simp only [r297_226, r297_227, r297_228, r297_229, r297_230, r297_233, r297_234, r297_235, r297_238, r297_241, r297_244, r297_245, r297_246, mx_isr_ref, mx_isr_null, mx_wt_nil, mx_wt_1, mx_wt_2, mx_wt_3, Option.bind_some, Option.toList_some, Option.toList_none, List.cons_append, List.nil_append, mx_nl_int, mx_nl_ref, mx_nl_null, mx_nl_none, mx_nb0, mx_nb1, mx_fb0, mx_fb1, mx_cat_int, mx_cat_ref, if_true, if_false, not_true_eq_false, not_false_eq_true, T, e1, y, z, nI_1, Bool.true_eq_false, and_false, show ¬ (1 : Int32) = 0 by decide]
      | false => simp only [r297_226, r297_227, r297_228, r297_229, r297_230, r297_233, r297_234, r297_235, r297_238, r297_241, r297_244, r297_245, r297_246, mx_isr_ref, mx_isr_null, mx_wt_nil, mx_wt_1, mx_wt_2, mx_wt_3, Option.bind_some, Option.toList_some, Option.toList_none, List.cons_append, List.nil_append, mx_nl_int, mx_nl_ref, mx_nl_null, mx_nl_none, mx_nb0, mx_nb1, mx_fb0, mx_fb1, mx_cat_int, mx_cat_ref, if_true, if_false, not_true_eq_false, not_false_eq_true, T, e1, y, z, nI_1, c1, Bool.false_eq_true, and_self]
    · have e1 : nI (oAt ts w k) ≤ nI (k + 1) := nI_le (by omega) (by omega)
      simp only [r297_226, r297_227, r297_228, r297_229, r297_230, r297_233, r297_234, r297_235, r297_238, r297_241, r297_244, r297_245, r297_246, mx_isr_ref, mx_isr_null, mx_wt_nil, mx_wt_1, mx_wt_2, mx_wt_3, Option.bind_some, Option.toList_some, Option.toList_none, List.cons_append, List.nil_append, mx_nl_int, mx_nl_ref, mx_nl_null, mx_nl_none, mx_nb0, mx_nb1, mx_fb0, mx_fb1, mx_cat_int, mx_cat_ref, if_true, if_false, not_true_eq_false, not_false_eq_true, e1, nI_1, c1, false_and]
  by_cases c0 : pAt ts w k = 0
  · have e0 : nI (pAt ts w k) = 0 := by rw [c0]; rfl
    have hc : (pAt ts w k = 0 ∨ k + 1 < oAt ts w k ∧ tW ts k w_mail = false ∨ ¬ (op = w_pr ∨ vld op (tyO (pAt ts w k)) = true ∧ sc ts (oAt ts w k + 1) = tyO (pAt ts w k))) := Or.inl c0
    rw [if_pos hc, if_pos rfl]
    simp only [r297_196, r297_197, r297_244, r297_245, r297_246, mx_isr_ref, mx_isr_null, mx_wt_nil, mx_wt_1, mx_wt_2, mx_wt_3, Option.bind_some, Option.toList_some, Option.toList_none, List.cons_append, List.nil_append, mx_nl_int, mx_nl_ref, mx_nl_null, mx_nl_none, mx_nb0, mx_nb1, mx_fb0, mx_fb1, mx_cat_int, mx_cat_ref, if_true, if_false, not_true_eq_false, not_false_eq_true, T, eq_true e0]
  · have e0 : ¬ nI (pAt ts w k) = 0 := fun z => c0 ((nI_eq (b := 0) (by omega) (by decide)).mp z)
    by_cases cp : op = w_pr
    · have st : mx_G (d + 2) 297 196 [some (.ref 76), some (.int (nI k)), some (.int (nI (pAt ts w k))), some (.int (nI (oAt ts w k))), some (.long (w27 op)), none, l6, l7, some (.int (nI (tyO (pAt ts w k)))), some (.int (if vld op (tyO (pAt ts w k)) = true then 1 else 0))] [] h = mx_G (d + 2) 297 226 [some (.ref 76), some (.int (nI k)), some (.int (nI (pAt ts w k))), some (.int (nI (oAt ts w k))), some (.long (w27 op)), none, l6, l7, some (.int (nI (tyO (pAt ts w k)))), some (.int (if vld op (tyO (pAt ts w k)) = true then 1 else 0))] [] h := by
        simp only [r297_196, r297_197, r297_200, r297_202, r297_205, r297_206, mx_isr_ref, mx_isr_null, mx_wt_nil, mx_wt_1, mx_wt_2, mx_wt_3, Option.bind_some, Option.toList_some, Option.toList_none, List.cons_append, List.nil_append, mx_nl_int, mx_nl_ref, mx_nl_null, mx_nl_none, mx_nb0, mx_nb1, mx_fb0, mx_fb1, mx_cat_int, mx_cat_ref, if_true, if_false, not_true_eq_false, not_false_eq_true, e0, lg_cmp0, E, eq_true cp]
      rw [st, tail]
      by_cases c : k + 1 < oAt ts w k ∧ tW ts k w_mail = false
      · rw [if_pos c, if_pos (Or.inr (Or.inl c)), if_pos rfl]
      · have hn : ¬ (pAt ts w k = 0 ∨ k + 1 < oAt ts w k ∧ tW ts k w_mail = false ∨ ¬ (op = w_pr ∨ vld op (tyO (pAt ts w k)) = true ∧ sc ts (oAt ts w k + 1) = tyO (pAt ts w k))) := by
          rintro (z | z | z)
          · exact c0 z
          · exact c z
          · exact z (Or.inl cp)
        simp only [if_neg hn, if_neg c, reduceCtorEq, if_false]
    · by_cases cv : vld op (tyO (pAt ts w k)) = true ∧ sc ts (oAt ts w k + 1) = tyO (pAt ts w k)
      · have e5 : nI (sc ts (oAt ts w k + 1)) = nI (tyO (pAt ts w k)) := by rw [cv.2]
        have st : mx_G (d + 2) 297 196 [some (.ref 76), some (.int (nI k)), some (.int (nI (pAt ts w k))), some (.int (nI (oAt ts w k))), some (.long (w27 op)), none, l6, l7, some (.int (nI (tyO (pAt ts w k)))), some (.int (if vld op (tyO (pAt ts w k)) = true then 1 else 0))] [] h = mx_G (d + 2) 297 226 [some (.ref 76), some (.int (nI k)), some (.int (nI (pAt ts w k))), some (.int (nI (oAt ts w k))), some (.long (w27 op)), none, l6, l7, some (.int (nI (tyO (pAt ts w k)))), some (.int (if vld op (tyO (pAt ts w k)) = true then 1 else 0))] [] h := by
          simp only [r297_196, r297_197, r297_200, r297_202, r297_205, r297_206, r297_209, r297_211, r297_214, r297_215, r297_216, r297_217, r297_218, r297_221, r297_223, mx_isr_ref, mx_isr_null, mx_wt_nil, mx_wt_1, mx_wt_2, mx_wt_3, Option.bind_some, Option.toList_some, Option.toList_none, List.cons_append, List.nil_append, mx_nl_int, mx_nl_ref, mx_nl_null, mx_nl_none, mx_nb0, mx_nb1, mx_fb0, mx_fb1, mx_cat_int, mx_cat_ref, if_true, if_false, not_true_eq_false, not_false_eq_true, T, e0, lg_cmp0, E, eq_false cp, cv.1, nI_1, sca, eq_true e5, show ¬ (1 : Int32) = 0 by decide]
        rw [st, tail]
        by_cases c : k + 1 < oAt ts w k ∧ tW ts k w_mail = false
        · rw [if_pos c, if_pos (Or.inr (Or.inl c)), if_pos rfl]
        · have hn : ¬ (pAt ts w k = 0 ∨ k + 1 < oAt ts w k ∧ tW ts k w_mail = false ∨ ¬ (op = w_pr ∨ vld op (tyO (pAt ts w k)) = true ∧ sc ts (oAt ts w k + 1) = tyO (pAt ts w k))) := by
            rintro (z | z | z)
            · exact c0 z
            · exact c z
            · exact z (Or.inr cv)
          simp only [if_neg hn, if_neg c, reduceCtorEq, if_false]
      · rw [if_pos (Or.inr (Or.inr fun z => by rcases z with z | z; exact cp z; exact cv z)), if_pos rfl]
        cases zv : vld op (tyO (pAt ts w k)) with
        | false => simp only [r297_196, r297_197, r297_200, r297_202, r297_205, r297_206, r297_209, r297_211, r297_244, r297_245, r297_246, mx_isr_ref, mx_isr_null, mx_wt_nil, mx_wt_1, mx_wt_2, mx_wt_3, Option.bind_some, Option.toList_some, Option.toList_none, List.cons_append, List.nil_append, mx_nl_int, mx_nl_ref, mx_nl_null, mx_nl_none, mx_nb0, mx_nb1, mx_fb0, mx_fb1, mx_cat_int, mx_cat_ref, if_true, if_false, not_true_eq_false, not_false_eq_true, T, e0, lg_cmp0, E, eq_false cp, Bool.false_eq_true]
        | true =>
          have e5 : ¬ nI (sc ts (oAt ts w k + 1)) = nI (tyO (pAt ts w k)) := fun z => cv ⟨zv, (nI_eq (by omega) (by omega)).mp z⟩
          simp only [r297_196, r297_197, r297_200, r297_202, r297_205, r297_206, r297_209, r297_211, r297_214, r297_215, r297_216, r297_217, r297_218, r297_221, r297_223, r297_244, r297_245, r297_246, mx_isr_ref, mx_isr_null, mx_wt_nil, mx_wt_1, mx_wt_2, mx_wt_3, Option.bind_some, Option.toList_some, Option.toList_none, List.cons_append, List.nil_append, mx_nl_int, mx_nl_ref, mx_nl_null, mx_nl_none, mx_nb0, mx_nb1, mx_fb0, mx_fb1, mx_cat_int, mx_cat_ref, if_true, if_false, not_true_eq_false, not_false_eq_true, T, e0, lg_cmp0, E, eq_false cp, nI_1, sca, e5, show ¬ (1 : Int32) = 0 by decide]
theorem rm_term (S : rm_TK h ts) {D : Nat} {w : Bool} {s : List Nat} {out : List stp} {i : Nat} (C : cR h D w false s out i) {k : Nat} (hk : k ≤ ts.length) (ho : out.length < 130) :
    ∃ h', mx_G (d + 2) 297 0 [some (.ref 76), some (.int (nI k)), none, none, none, none, none, none, none, none] [] h = some (some (.int (nI (if opw ts (oAt ts w k) = w_pr then oAt ts w k + 1 else oAt ts w k + 2))), h') ∧ mf Pcp h h' ∧ cR h' D w (decide (cC ts w k = none)) s (out ++ [(0, pAt ts w k, opw ts (oAt ts w k), oAt ts w k + 1)]) i := by
  have T := S.1.1
  have hl := S.1.2.1
  have E := opE S.2 (oAt ts w k)
  have og : oAt ts w k ≤ k + 3 := by unfold oAt; split <;> omega
  have hw := C.2.2.2.1
  rw [rm_tm0 S hw hk, rm_tm1 S.2, rm_tm2 S.2, rm_tm3 T S.2 (pAt_lt w k), rm_tm4 S hk]
  obtain ⟨h0, eh, C0, m0⟩ : ∃ h0, (if cC ts w k = none then mx_up h 76 23 (.int 1) else h) = h0 ∧ cR h0 D w (decide (cC ts w k = none)) s out i ∧ mf Pcp h h0 := by
    by_cases c : cC ts w k = none
    · rw [if_pos c, decide_eq_true c]
      obtain ⟨a, b⟩ := cR_f (k := 23) (x := 1) (D' := D) (w' := w) (wr' := true) (i' := i) C (by decide) C.2.2.1 rfl rfl rfl rfl
      exact ⟨_, rfl, a, b⟩
    · rw [if_neg c, decide_eq_false c]
      exact ⟨h, rfl, C, mf_rfl T⟩
  rw [eh]
  have T0 := C0.1
  have n0 : mi h0 76 12 = nI out.length := C0.2.2.2.2.2.2.2.2.1
  have t1 : (nI out.length).toNatClampNeg = out.length := nI_clamp (by omega)
  have t2 : (0 : Int32) ≤ nI out.length := nI_pos' (by omega)
  obtain ⟨C1, m1⟩ := cR_up (a := 86) (k := out.length) (x := nI (pAt ts w k)) C0 (by decide) rfl
  have T1 := C1.1
  have n1 : mi (mx_up h0 86 out.length (.int (nI (pAt ts w k)))) 76 12 = nI out.length := C1.2.2.2.2.2.2.2.2.1
  obtain ⟨C2, m2⟩ := cR_upJ (k := out.length) (x := w27 (opw ts (oAt ts w k))) C1 rfl
  have T2 := C2.1
  have n2 : mi (mx_up (mx_up h0 86 out.length (.int (nI (pAt ts w k)))) 89 out.length (.long (w27 (opw ts (oAt ts w k))))) 76 12 = nI out.length := C2.2.2.2.2.2.2.2.2.1
  obtain ⟨C3, m3⟩ := cR_up (a := 87) (k := out.length) (x := nI (oAt ts w k + 1)) C2 (by decide) rfl
  have T3 := C3.1
  have n3 : mi (mx_up (mx_up (mx_up h0 86 out.length (.int (nI (pAt ts w k)))) 89 out.length (.long (w27 (opw ts (oAt ts w k))))) 87 out.length (.int (nI (oAt ts w k + 1)))) 76 12 = nI out.length := C3.2.2.2.2.2.2.2.2.1
  have ad := rm_add (d := d + 1) T3 (x := 0) n3 ho
  obtain ⟨C4, m4⟩ := cR_add C3 (q := (0, pAt ts w k, opw ts (oAt ts w k), oAt ts w k + 1)) (x := 0) ho ⟨fun _ => ⟨by rw [mi_a T3 mr_ty_85 ho, if_pos rfl], by rw [mi_o (by decide), mi_o (by decide), mi_upJ _ _ _ _ _ _ (by decide), mi_a T0 mr_ty_86 ho, if_pos rfl], by rw [ml_upI _ _ _ _ _ _ (by decide), ml_upI _ _ _ _ _ _ (by decide), ml_up, if_pos ⟨rfl, rfl, by rw [mr_ln T1 mr_ty_89]; exact ho⟩], by rw [mi_o (by decide), mi_a T2 mr_ty_87 ho, if_pos rfl]⟩, fun z => (by cases z), fun z => (by cases z), fun z => (by cases z)⟩
  refine ⟨_, ?_, mf_trans m0 (mf_trans m1 (mf_trans m2 (mf_trans m3 m4))), C4⟩
  have e1 : nI (oAt ts w k) + 1 = nI (oAt ts w k + 1) := nI_1 _
  have e2 : nI (oAt ts w k) + 2 = nI (oAt ts w k + 2) := nI_add _ 2
  by_cases cp : opw ts (oAt ts w k) = w_pr
  · rw [if_pos cp]
    simp only [r297_249, r297_250, r297_253, r297_254, r297_257, r297_258, r297_259, r297_260, r297_263, r297_264, r297_267, r297_269, r297_270, r297_271, r297_274, r297_275, r297_278, r297_279, r297_280, r297_281, r297_282, r297_283, r297_284, r297_287, r297_289, r297_292, r297_293, r297_296, r297_297, r297_298, r297_299, r297_302, r297_303, r297_304, r297_305, mx_isr_ref, mx_isr_null, mx_wt_nil, mx_wt_1, mx_wt_2, mx_wt_3, Option.bind_some, Option.toList_some, Option.toList_none, List.cons_append, List.nil_append, mx_nl_int, mx_nl_ref, mx_nl_null, mx_nl_none, mx_nb0, mx_nb1, mx_fb0, mx_fb1, mx_cat_int, mx_cat_ref, if_true, if_false, not_true_eq_false, not_false_eq_true, T0, T1, T2, T3, n0, n1, n2, mr_ty_77, mr_n_77, mr_isI_77, mr_ty_78, mr_n_78, mr_isI_78, mr_ty_79, mr_n_79, mr_isI_79, mr_ty_80, mr_n_80, mr_isI_80, mr_ty_81, mr_n_81, mr_isI_81, mr_ty_82, mr_n_82, mr_isJ_82, mr_ty_83, mr_n_83, mr_isI_83, mr_ty_84, mr_n_84, mr_isI_84, mr_ty_85, mr_n_85, mr_isI_85, mr_ty_86, mr_n_86, mr_isI_86, mr_ty_87, mr_n_87, mr_isI_87, mr_ty_88, mr_n_88, mr_isI_88, mr_ty_89, mr_n_89, mr_isJ_89, mr_ty_90, mr_n_90, mr_isI_90, mr_ty_91, mr_n_91, mr_isI_91, mr_ty_92, mr_n_92, mr_isI_92, mr_ty_93, mr_n_93, mr_isI_93, mr_ty_94, mr_n_94, mr_isI_94, mr_ty_95, mr_n_95, mr_isI_95, mr_ty_96, mr_n_96, mr_isI_96, mr_ty_97, mr_n_97, mr_isI_97, mr_ty_98, mr_n_98, mr_isI_98, mr_ty_99, mr_n_99, mr_isI_99, mr_ty_100, mr_n_100, mr_isI_100, mr_ty_101, mr_n_101, mr_isI_101, mr_isF_1, mr_isF_3, mr_isF_4, mr_isF_10, mr_isF_12, mr_isF_18, mr_isF_19, mr_isF_21, mr_isF_22, mr_isF_23, mr_isF_26, mr_isF_34, mr_isF_37, mr_isF_38, mr_isF_39, mr_T_up, mr_T_upJ, mr_T_f, t1, t2, ho, e1, ad, lg_cmp0, E, eq_true cp]
  · rw [if_neg cp]
    simp only [r297_249, r297_250, r297_253, r297_254, r297_257, r297_258, r297_259, r297_260, r297_263, r297_264, r297_267, r297_269, r297_270, r297_271, r297_274, r297_275, r297_278, r297_279, r297_280, r297_281, r297_282, r297_283, r297_284, r297_287, r297_289, r297_292, r297_293, r297_296, r297_297, r297_298, r297_299, r297_302, r297_303, r297_304, r297_305, mx_isr_ref, mx_isr_null, mx_wt_nil, mx_wt_1, mx_wt_2, mx_wt_3, Option.bind_some, Option.toList_some, Option.toList_none, List.cons_append, List.nil_append, mx_nl_int, mx_nl_ref, mx_nl_null, mx_nl_none, mx_nb0, mx_nb1, mx_fb0, mx_fb1, mx_cat_int, mx_cat_ref, if_true, if_false, not_true_eq_false, not_false_eq_true, T0, T1, T2, T3, n0, n1, n2, mr_ty_77, mr_n_77, mr_isI_77, mr_ty_78, mr_n_78, mr_isI_78, mr_ty_79, mr_n_79, mr_isI_79, mr_ty_80, mr_n_80, mr_isI_80, mr_ty_81, mr_n_81, mr_isI_81, mr_ty_82, mr_n_82, mr_isJ_82, mr_ty_83, mr_n_83, mr_isI_83, mr_ty_84, mr_n_84, mr_isI_84, mr_ty_85, mr_n_85, mr_isI_85, mr_ty_86, mr_n_86, mr_isI_86, mr_ty_87, mr_n_87, mr_isI_87, mr_ty_88, mr_n_88, mr_isI_88, mr_ty_89, mr_n_89, mr_isJ_89, mr_ty_90, mr_n_90, mr_isI_90, mr_ty_91, mr_n_91, mr_isI_91, mr_ty_92, mr_n_92, mr_isI_92, mr_ty_93, mr_n_93, mr_isI_93, mr_ty_94, mr_n_94, mr_isI_94, mr_ty_95, mr_n_95, mr_isI_95, mr_ty_96, mr_n_96, mr_isI_96, mr_ty_97, mr_n_97, mr_isI_97, mr_ty_98, mr_n_98, mr_isI_98, mr_ty_99, mr_n_99, mr_isI_99, mr_ty_100, mr_n_100, mr_isI_100, mr_ty_101, mr_n_101, mr_isI_101, mr_isF_1, mr_isF_3, mr_isF_4, mr_isF_10, mr_isF_12, mr_isF_18, mr_isF_19, mr_isF_21, mr_isF_22, mr_isF_23, mr_isF_26, mr_isF_34, mr_isF_37, mr_isF_38, mr_isF_39, mr_T_up, mr_T_upJ, mr_T_f, t1, t2, ho, e1, e2, ad, lg_cmp0, E, eq_false cp]
end
