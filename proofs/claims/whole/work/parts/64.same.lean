section
variable {d : Nat} {h : mx_H} {ts : List tk}
theorem tA3_lt {t : Nat} (h : (tA ts t).1 = 3) : t < ts.length := tI_lt (c := 3) (by decide) (tI_eq.2 h)
theorem rm_str (S : rm_TS h ts) {t : Nat} (h3 : (tA ts t).1 = 3) : ∃ f, f + (tx ts t).length ≤ 120 ∧ mi h 80 t = nI f ∧ mi h 81 t = nI (tx ts t).length ∧ ∀ j, j < (tx ts t).length → mi h 83 (f + j) = nI ((tx ts t).getD j 0) := by
  have hk := S.2.2.2 t (tA3_lt h3)
  rw [show ts.getD t (0, []) = tA ts t from rfl] at hk
  rcases hk with ⟨a, -⟩ | ⟨a, -⟩ | ⟨-, -, f, a, b, c, e⟩ | ⟨a, -⟩
  · omega
  · omega
  · exact ⟨f, a, b, c, e⟩
  · omega
theorem tx_lt (K : ∀ q ∈ ts, tk_ok q) {t : Nat} (h3 : (tA ts t).1 = 3) : ∀ c ∈ tx ts t, c < 128 := by
  rcases K _ (tA_mem (tA3_lt h3)) with z | z | z | z
  · omega
  · omega
  · exact z.2
  · omega
theorem sml_eq {c e : Nat} (hc : c < 128) (he : e < 128) : (nI (sml c) = nI (sml e)) = (sml c = sml e) := propext (nI_eq (by have := sml_lt hc; omega) (by have := sml_lt he; omega))
theorem rm_sameL (S : rm_TK h ts) {t u f g : Nat} (ht : t < ts.length) (hu : u < ts.length) {a b : List Nat} (ha : ∀ c ∈ a, c < 128) (hb : ∀ c ∈ b, c < 128) (hab : a.length = b.length) (hf : f + a.length ≤ 120) (hg : g + b.length ≤ 120)
    (f1 : mi h 80 t = nI f) (f2 : mi h 81 t = nI a.length) (f3 : ∀ j, j < a.length → mi h 83 (f + j) = nI (a.getD j 0)) (g1 : mi h 80 u = nI g) (g3 : ∀ j, j < b.length → mi h 83 (g + j) = nI (b.getD j 0)) : ∀ (sa sb : List Nat) (k : Nat), a.drop k = sa → b.drop k = sb → k ≤ a.length →
    mx_G (d + 1) 259 24 [some (.ref 76), some (.int (nI t)), some (.int (nI u)), some (.int 1), some (.int (nI k))] [] h = some (some (.int (if sa.map sml = sb.map sml then 1 else 0)), h) := by
  have T := S.1.1
  have hl := S.1.2.1
  have t1 : (nI t).toNatClampNeg = t := nI_clamp (by omega)
  have t2 : (0 : Int32) ≤ nI t := nI_pos' (by omega)
  have t3 : t < 130 := by omega
  have u1 : (nI u).toNatClampNeg = u := nI_clamp (by omega)
  have u2 : (0 : Int32) ≤ nI u := nI_pos' (by omega)
  have u3 : u < 130 := by omega
  intro sa
  induction sa with
  | nil =>
    intro sb k hsa hsb hk
    have k1 : a.length ≤ k := List.drop_eq_nil_iff.1 hsa
    have sbn : sb = [] := by rw [← hsb, List.drop_eq_nil_iff]; omega
    subst sbn
    have e1 : nI a.length ≤ nI k := nI_le (by omega) (by omega)
    simp only [r259_24, r259_26, r259_27, r259_30, r259_31, r259_32, r259_35, r259_36, r259_39, r259_40, r259_43, r259_44, r259_47, r259_48, r259_49, r259_51, r259_52, r259_53, r259_56, r259_57, r259_60, r259_61, r259_64, r259_65, r259_66, r259_68, r259_69, r259_70, r259_73, r259_76, r259_77, r259_80, r259_81, r259_82, r259_85, r259_88, r259_89, mx_isr_ref, mx_isr_null, mx_wt_nil, mx_wt_1, mx_wt_2, mx_wt_3, Option.bind_some, Option.toList_some, Option.toList_none, List.cons_append, List.nil_append, mx_nl_int, mx_nl_ref, mx_nl_null, mx_nl_none, mx_nb0, mx_nb1, mx_fb0, mx_fb1, mx_cat_int, mx_cat_ref, if_true, if_false, not_true_eq_false, not_false_eq_true, T, mr_ty_77, mr_n_77, mr_isI_77, mr_ty_78, mr_n_78, mr_isI_78, mr_ty_79, mr_n_79, mr_isI_79, mr_ty_80, mr_n_80, mr_isI_80, mr_ty_81, mr_n_81, mr_isI_81, mr_ty_82, mr_n_82, mr_isJ_82, mr_ty_83, mr_n_83, mr_isI_83, mr_ty_84, mr_n_84, mr_isI_84, mr_ty_85, mr_n_85, mr_isI_85, mr_ty_86, mr_n_86, mr_isI_86, mr_ty_87, mr_n_87, mr_isI_87, mr_ty_88, mr_n_88, mr_isI_88, mr_ty_89, mr_n_89, mr_isJ_89, mr_ty_90, mr_n_90, mr_isI_90, mr_ty_91, mr_n_91, mr_isI_91, mr_ty_92, mr_n_92, mr_isI_92, mr_ty_93, mr_n_93, mr_isI_93, mr_ty_94, mr_n_94, mr_isI_94, mr_ty_95, mr_n_95, mr_isI_95, mr_ty_96, mr_n_96, mr_isI_96, mr_ty_97, mr_n_97, mr_isI_97, mr_ty_98, mr_n_98, mr_isI_98, mr_ty_99, mr_n_99, mr_isI_99, mr_ty_100, mr_n_100, mr_isI_100, mr_ty_101, mr_n_101, mr_isI_101, mr_isF_1, mr_isF_3, mr_isF_4, mr_isF_10, mr_isF_12, mr_isF_18, mr_isF_19, mr_isF_21, mr_isF_22, mr_isF_23, mr_isF_26, mr_isF_34, mr_isF_37, mr_isF_38, mr_isF_39, mr_T_up, mr_T_upJ, mr_T_f, t1, t2, t3, f2, e1]
  | cons c sa ih =>
    intro sb k hsa hsb hk
    obtain ⟨d1, d2, d3⟩ := drop_cons hsa
    cases sb with
    | nil => have := List.drop_eq_nil_iff.1 hsb; omega
    | cons c' sb =>
      obtain ⟨d1', d2', d3'⟩ := drop_cons hsb
      have e0 : a.getD k 0 = c := by rw [List.getD_eq_getElem?_getD, d3]; rfl
      have e0' : b.getD k 0 = c' := by rw [List.getD_eq_getElem?_getD, d3']; rfl
      have hc : c < 128 := ha c (List.mem_of_getElem? d3)
      have hc' : c' < 128 := hb c' (List.mem_of_getElem? d3')
      have e1 : ¬ nI a.length ≤ nI k := nI_ge d2 (by omega)
      have m1 : mi h 83 (f + k) = nI c := by rw [f3 k d2, e0]
      have m2 : mi h 83 (g + k) = nI c' := by rw [g3 k d2', e0']
      have k1 : (nI (f + k)).toNatClampNeg = f + k := nI_clamp (by omega)
      have k2 : (0 : Int32) ≤ nI (f + k) := nI_pos' (by omega)
      have k3 : f + k < 130 := by omega
      have k4 : (nI (g + k)).toNatClampNeg = g + k := nI_clamp (by omega)
      have k5 : (0 : Int32) ≤ nI (g + k) := nI_pos' (by omega)
      have k6 : g + k < 130 := by omega
      by_cases es : sml c = sml c'
      · have hi := ih sb (k + 1) d1 d1' (by omega)
        rw [r259_24]
        simp only [r259_26, r259_27, r259_30, r259_31, r259_32, r259_35, r259_36, r259_39, r259_40, r259_43, r259_44, r259_47, r259_48, r259_49, r259_51, r259_52, r259_53, r259_56, r259_57, r259_60, r259_61, r259_64, r259_65, r259_66, r259_68, r259_69, r259_70, r259_73, r259_76, r259_77, r259_80, r259_81, r259_82, r259_85, r259_88, r259_89, mx_isr_ref, mx_isr_null, mx_wt_nil, mx_wt_1, mx_wt_2, mx_wt_3, Option.bind_some, Option.toList_some, Option.toList_none, List.cons_append, List.nil_append, mx_nl_int, mx_nl_ref, mx_nl_null, mx_nl_none, mx_nb0, mx_nb1, mx_fb0, mx_fb1, mx_cat_int, mx_cat_ref, if_true, if_false, not_true_eq_false, not_false_eq_true, T, mr_ty_77, mr_n_77, mr_isI_77, mr_ty_78, mr_n_78, mr_isI_78, mr_ty_79, mr_n_79, mr_isI_79, mr_ty_80, mr_n_80, mr_isI_80, mr_ty_81, mr_n_81, mr_isI_81, mr_ty_82, mr_n_82, mr_isJ_82, mr_ty_83, mr_n_83, mr_isI_83, mr_ty_84, mr_n_84, mr_isI_84, mr_ty_85, mr_n_85, mr_isI_85, mr_ty_86, mr_n_86, mr_isI_86, mr_ty_87, mr_n_87, mr_isI_87, mr_ty_88, mr_n_88, mr_isI_88, mr_ty_89, mr_n_89, mr_isJ_89, mr_ty_90, mr_n_90, mr_isI_90, mr_ty_91, mr_n_91, mr_isI_91, mr_ty_92, mr_n_92, mr_isI_92, mr_ty_93, mr_n_93, mr_isI_93, mr_ty_94, mr_n_94, mr_isI_94, mr_ty_95, mr_n_95, mr_isI_95, mr_ty_96, mr_n_96, mr_isI_96, mr_ty_97, mr_n_97, mr_isI_97, mr_ty_98, mr_n_98, mr_isI_98, mr_ty_99, mr_n_99, mr_isI_99, mr_ty_100, mr_n_100, mr_isI_100, mr_ty_101, mr_n_101, mr_isI_101, mr_isF_1, mr_isF_3, mr_isF_4, mr_isF_10, mr_isF_12, mr_isF_18, mr_isF_19, mr_isF_21, mr_isF_22, mr_isF_23, mr_isF_26, mr_isF_34, mr_isF_37, mr_isF_38, mr_isF_39, mr_T_up, mr_T_upJ, mr_T_f, t1, t2, t3, u1, u2, u3, f1, f2, g1, e1, nI_add, k1, k2, k3, k4, k5, k6, m1, m2, rm_small hc, rm_small hc', es, nI_1, show ¬ (1 : Int32) = 0 by decide, List.map_cons, List.cons.injEq, true_and]
        exact hi
      · have es' : ¬ nI (sml c) = nI (sml c') := by rw [sml_eq hc hc']; exact es
        rw [r259_24]
        simp only [r259_26, r259_27, r259_30, r259_31, r259_32, r259_35, r259_36, r259_39, r259_40, r259_43, r259_44, r259_47, r259_48, r259_49, r259_51, r259_52, r259_53, r259_56, r259_57, r259_60, r259_61, r259_64, r259_65, r259_66, r259_68, r259_69, r259_70, r259_73, r259_76, r259_77, r259_80, r259_81, r259_82, r259_85, mx_isr_ref, mx_isr_null, mx_wt_nil, mx_wt_1, mx_wt_2, mx_wt_3, Option.bind_some, Option.toList_some, Option.toList_none, List.cons_append, List.nil_append, mx_nl_int, mx_nl_ref, mx_nl_null, mx_nl_none, mx_nb0, mx_nb1, mx_fb0, mx_fb1, mx_cat_int, mx_cat_ref, if_true, if_false, not_true_eq_false, not_false_eq_true, T, mr_ty_77, mr_n_77, mr_isI_77, mr_ty_78, mr_n_78, mr_isI_78, mr_ty_79, mr_n_79, mr_isI_79, mr_ty_80, mr_n_80, mr_isI_80, mr_ty_81, mr_n_81, mr_isI_81, mr_ty_82, mr_n_82, mr_isJ_82, mr_ty_83, mr_n_83, mr_isI_83, mr_ty_84, mr_n_84, mr_isI_84, mr_ty_85, mr_n_85, mr_isI_85, mr_ty_86, mr_n_86, mr_isI_86, mr_ty_87, mr_n_87, mr_isI_87, mr_ty_88, mr_n_88, mr_isI_88, mr_ty_89, mr_n_89, mr_isJ_89, mr_ty_90, mr_n_90, mr_isI_90, mr_ty_91, mr_n_91, mr_isI_91, mr_ty_92, mr_n_92, mr_isI_92, mr_ty_93, mr_n_93, mr_isI_93, mr_ty_94, mr_n_94, mr_isI_94, mr_ty_95, mr_n_95, mr_isI_95, mr_ty_96, mr_n_96, mr_isI_96, mr_ty_97, mr_n_97, mr_isI_97, mr_ty_98, mr_n_98, mr_isI_98, mr_ty_99, mr_n_99, mr_isI_99, mr_ty_100, mr_n_100, mr_isI_100, mr_ty_101, mr_n_101, mr_isI_101, mr_isF_1, mr_isF_3, mr_isF_4, mr_isF_10, mr_isF_12, mr_isF_18, mr_isF_19, mr_isF_21, mr_isF_22, mr_isF_23, mr_isF_26, mr_isF_34, mr_isF_37, mr_isF_38, mr_isF_39, mr_T_up, mr_T_upJ, mr_T_f, t1, t2, t3, u1, u2, u3, f1, f2, g1, e1, nI_add, k1, k2, k3, k4, k5, k6, m1, m2, rm_small hc, rm_small hc', es', nI_1, show ¬ (1 : Int32) = 0 by decide]
        have rh : ¬ (List.map sml (c :: sa) = List.map sml (c' :: sb)) := fun z => by
          rw [List.map_cons, List.map_cons] at z
          exact es (List.cons.inj z).1
        rw [if_neg rh, r259_24]
        by_cases e2 : nI a.length ≤ nI (k + 1)
        · simp only [r259_26, r259_27, r259_30, r259_31, r259_32, r259_35, r259_36, r259_39, r259_40, r259_43, r259_44, r259_47, r259_48, r259_49, r259_51, r259_52, r259_53, r259_56, r259_57, r259_60, r259_61, r259_64, r259_65, r259_66, r259_68, r259_69, r259_70, r259_73, r259_76, r259_77, r259_80, r259_81, r259_82, r259_85, r259_88, r259_89, mx_isr_ref, mx_isr_null, mx_wt_nil, mx_wt_1, mx_wt_2, mx_wt_3, Option.bind_some, Option.toList_some, Option.toList_none, List.cons_append, List.nil_append, mx_nl_int, mx_nl_ref, mx_nl_null, mx_nl_none, mx_nb0, mx_nb1, mx_fb0, mx_fb1, mx_cat_int, mx_cat_ref, if_true, if_false, not_true_eq_false, not_false_eq_true, T, mr_ty_77, mr_n_77, mr_isI_77, mr_ty_78, mr_n_78, mr_isI_78, mr_ty_79, mr_n_79, mr_isI_79, mr_ty_80, mr_n_80, mr_isI_80, mr_ty_81, mr_n_81, mr_isI_81, mr_ty_82, mr_n_82, mr_isJ_82, mr_ty_83, mr_n_83, mr_isI_83, mr_ty_84, mr_n_84, mr_isI_84, mr_ty_85, mr_n_85, mr_isI_85, mr_ty_86, mr_n_86, mr_isI_86, mr_ty_87, mr_n_87, mr_isI_87, mr_ty_88, mr_n_88, mr_isI_88, mr_ty_89, mr_n_89, mr_isJ_89, mr_ty_90, mr_n_90, mr_isI_90, mr_ty_91, mr_n_91, mr_isI_91, mr_ty_92, mr_n_92, mr_isI_92, mr_ty_93, mr_n_93, mr_isI_93, mr_ty_94, mr_n_94, mr_isI_94, mr_ty_95, mr_n_95, mr_isI_95, mr_ty_96, mr_n_96, mr_isI_96, mr_ty_97, mr_n_97, mr_isI_97, mr_ty_98, mr_n_98, mr_isI_98, mr_ty_99, mr_n_99, mr_isI_99, mr_ty_100, mr_n_100, mr_isI_100, mr_ty_101, mr_n_101, mr_isI_101, mr_isF_1, mr_isF_3, mr_isF_4, mr_isF_10, mr_isF_12, mr_isF_18, mr_isF_19, mr_isF_21, mr_isF_22, mr_isF_23, mr_isF_26, mr_isF_34, mr_isF_37, mr_isF_38, mr_isF_39, mr_T_up, mr_T_upJ, mr_T_f, t1, t2, t3, f2, e2]
        · simp only [r259_26, r259_27, r259_30, r259_31, r259_32, r259_35, r259_36, r259_39, r259_40, r259_43, r259_44, r259_47, r259_48, r259_49, r259_51, r259_52, r259_53, r259_56, r259_57, r259_60, r259_61, r259_64, r259_65, r259_66, r259_68, r259_69, r259_70, r259_73, r259_76, r259_77, r259_80, r259_81, r259_82, r259_85, r259_88, r259_89, mx_isr_ref, mx_isr_null, mx_wt_nil, mx_wt_1, mx_wt_2, mx_wt_3, Option.bind_some, Option.toList_some, Option.toList_none, List.cons_append, List.nil_append, mx_nl_int, mx_nl_ref, mx_nl_null, mx_nl_none, mx_nb0, mx_nb1, mx_fb0, mx_fb1, mx_cat_int, mx_cat_ref, if_true, if_false, not_true_eq_false, not_false_eq_true, T, mr_ty_77, mr_n_77, mr_isI_77, mr_ty_78, mr_n_78, mr_isI_78, mr_ty_79, mr_n_79, mr_isI_79, mr_ty_80, mr_n_80, mr_isI_80, mr_ty_81, mr_n_81, mr_isI_81, mr_ty_82, mr_n_82, mr_isJ_82, mr_ty_83, mr_n_83, mr_isI_83, mr_ty_84, mr_n_84, mr_isI_84, mr_ty_85, mr_n_85, mr_isI_85, mr_ty_86, mr_n_86, mr_isI_86, mr_ty_87, mr_n_87, mr_isI_87, mr_ty_88, mr_n_88, mr_isI_88, mr_ty_89, mr_n_89, mr_isJ_89, mr_ty_90, mr_n_90, mr_isI_90, mr_ty_91, mr_n_91, mr_isI_91, mr_ty_92, mr_n_92, mr_isI_92, mr_ty_93, mr_n_93, mr_isI_93, mr_ty_94, mr_n_94, mr_isI_94, mr_ty_95, mr_n_95, mr_isI_95, mr_ty_96, mr_n_96, mr_isI_96, mr_ty_97, mr_n_97, mr_isI_97, mr_ty_98, mr_n_98, mr_isI_98, mr_ty_99, mr_n_99, mr_isI_99, mr_ty_100, mr_n_100, mr_isI_100, mr_ty_101, mr_n_101, mr_isI_101, mr_isF_1, mr_isF_3, mr_isF_4, mr_isF_10, mr_isF_12, mr_isF_18, mr_isF_19, mr_isF_21, mr_isF_22, mr_isF_23, mr_isF_26, mr_isF_34, mr_isF_37, mr_isF_38, mr_isF_39, mr_T_up, mr_T_upJ, mr_T_f, t1, t2, t3, f2, e2]
theorem rm_same (S : rm_TK h ts) {t u : Nat} (ht : (tA ts t).1 = 3) (hu : (tA ts u).1 = 3) : mx_G (d + 1) 259 0 [some (.ref 76), some (.int (nI t)), some (.int (nI u)), none, none] [] h = some (some (.int (if nmf ts t = nmf ts u then 1 else 0)), h) := by
  have T := S.1.1
  have hl := S.1.2.1
  have tl := tA3_lt ht
  have ul := tA3_lt hu
  obtain ⟨f, fa, f1, f2, f3⟩ := rm_str S.1 ht
  obtain ⟨g, ga, g1, g2, g3⟩ := rm_str S.1 hu
  have t1 : (nI t).toNatClampNeg = t := nI_clamp (by omega)
  have t2 : (0 : Int32) ≤ nI t := nI_pos' (by omega)
  have t3 : t < 130 := by omega
  have u1 : (nI u).toNatClampNeg = u := nI_clamp (by omega)
  have u2 : (0 : Int32) ≤ nI u := nI_pos' (by omega)
  have u3 : u < 130 := by omega
  by_cases hlen : (tx ts t).length = (tx ts u).length
  · have e : nI (tx ts t).length = nI (tx ts u).length := by rw [hlen]
    have L := rm_sameL (d := d) S tl ul (tx_lt S.2 ht) (tx_lt S.2 hu) hlen fa ga f1 f2 f3 g1 g3 _ _ 0 rfl rfl (by omega)
    simp only [r259_0, r259_1, r259_4, r259_5, r259_6, r259_7, r259_10, r259_11, r259_12, r259_15, r259_16, r259_19, r259_20, r259_21, r259_22, mx_isr_ref, mx_isr_null, mx_wt_nil, mx_wt_1, mx_wt_2, mx_wt_3, Option.bind_some, Option.toList_some, Option.toList_none, List.cons_append, List.nil_append, mx_nl_int, mx_nl_ref, mx_nl_null, mx_nl_none, mx_nb0, mx_nb1, mx_fb0, mx_fb1, mx_cat_int, mx_cat_ref, if_true, if_false, not_true_eq_false, not_false_eq_true, T, mr_ty_77, mr_n_77, mr_isI_77, mr_ty_78, mr_n_78, mr_isI_78, mr_ty_79, mr_n_79, mr_isI_79, mr_ty_80, mr_n_80, mr_isI_80, mr_ty_81, mr_n_81, mr_isI_81, mr_ty_82, mr_n_82, mr_isJ_82, mr_ty_83, mr_n_83, mr_isI_83, mr_ty_84, mr_n_84, mr_isI_84, mr_ty_85, mr_n_85, mr_isI_85, mr_ty_86, mr_n_86, mr_isI_86, mr_ty_87, mr_n_87, mr_isI_87, mr_ty_88, mr_n_88, mr_isI_88, mr_ty_89, mr_n_89, mr_isJ_89, mr_ty_90, mr_n_90, mr_isI_90, mr_ty_91, mr_n_91, mr_isI_91, mr_ty_92, mr_n_92, mr_isI_92, mr_ty_93, mr_n_93, mr_isI_93, mr_ty_94, mr_n_94, mr_isI_94, mr_ty_95, mr_n_95, mr_isI_95, mr_ty_96, mr_n_96, mr_isI_96, mr_ty_97, mr_n_97, mr_isI_97, mr_ty_98, mr_n_98, mr_isI_98, mr_ty_99, mr_n_99, mr_isI_99, mr_ty_100, mr_n_100, mr_isI_100, mr_ty_101, mr_n_101, mr_isI_101, mr_isF_1, mr_isF_3, mr_isF_4, mr_isF_10, mr_isF_12, mr_isF_18, mr_isF_19, mr_isF_21, mr_isF_22, mr_isF_23, mr_isF_26, mr_isF_34, mr_isF_37, mr_isF_38, mr_isF_39, mr_T_up, mr_T_upJ, mr_T_f, t1, t2, t3, u1, u2, u3, f2, g2, e]
    exact L
  · have e : ¬ nI (tx ts t).length = nI (tx ts u).length := fun z => hlen ((nI_eq (by omega) (by omega)).mp z)
    have rh : ¬ nmf ts t = nmf ts u := fun z => hlen (by have := congrArg List.length z; unfold nmf at this; rw [List.length_map, List.length_map] at this; exact this)
    rw [if_neg rh]
    by_cases e2 : nI (tx ts t).length ≤ 0
    · simp only [r259_0, r259_1, r259_4, r259_5, r259_6, r259_7, r259_10, r259_11, r259_12, r259_15, r259_16, r259_19, r259_20, r259_21, r259_22, r259_24, r259_26, r259_27, r259_30, r259_31, r259_32, r259_35, r259_36, r259_39, r259_40, r259_43, r259_44, r259_47, r259_48, r259_49, r259_51, r259_52, r259_53, r259_56, r259_57, r259_60, r259_61, r259_64, r259_65, r259_66, r259_68, r259_69, r259_70, r259_73, r259_76, r259_77, r259_80, r259_81, r259_82, r259_85, r259_88, r259_89, mx_isr_ref, mx_isr_null, mx_wt_nil, mx_wt_1, mx_wt_2, mx_wt_3, Option.bind_some, Option.toList_some, Option.toList_none, List.cons_append, List.nil_append, mx_nl_int, mx_nl_ref, mx_nl_null, mx_nl_none, mx_nb0, mx_nb1, mx_fb0, mx_fb1, mx_cat_int, mx_cat_ref, if_true, if_false, not_true_eq_false, not_false_eq_true, T, mr_ty_77, mr_n_77, mr_isI_77, mr_ty_78, mr_n_78, mr_isI_78, mr_ty_79, mr_n_79, mr_isI_79, mr_ty_80, mr_n_80, mr_isI_80, mr_ty_81, mr_n_81, mr_isI_81, mr_ty_82, mr_n_82, mr_isJ_82, mr_ty_83, mr_n_83, mr_isI_83, mr_ty_84, mr_n_84, mr_isI_84, mr_ty_85, mr_n_85, mr_isI_85, mr_ty_86, mr_n_86, mr_isI_86, mr_ty_87, mr_n_87, mr_isI_87, mr_ty_88, mr_n_88, mr_isI_88, mr_ty_89, mr_n_89, mr_isJ_89, mr_ty_90, mr_n_90, mr_isI_90, mr_ty_91, mr_n_91, mr_isI_91, mr_ty_92, mr_n_92, mr_isI_92, mr_ty_93, mr_n_93, mr_isI_93, mr_ty_94, mr_n_94, mr_isI_94, mr_ty_95, mr_n_95, mr_isI_95, mr_ty_96, mr_n_96, mr_isI_96, mr_ty_97, mr_n_97, mr_isI_97, mr_ty_98, mr_n_98, mr_isI_98, mr_ty_99, mr_n_99, mr_isI_99, mr_ty_100, mr_n_100, mr_isI_100, mr_ty_101, mr_n_101, mr_isI_101, mr_isF_1, mr_isF_3, mr_isF_4, mr_isF_10, mr_isF_12, mr_isF_18, mr_isF_19, mr_isF_21, mr_isF_22, mr_isF_23, mr_isF_26, mr_isF_34, mr_isF_37, mr_isF_38, mr_isF_39, mr_T_up, mr_T_upJ, mr_T_f, t1, t2, t3, u1, u2, u3, f2, g2, e, e2]
    · simp only [r259_0, r259_1, r259_4, r259_5, r259_6, r259_7, r259_10, r259_11, r259_12, r259_15, r259_16, r259_19, r259_20, r259_21, r259_22, r259_24, r259_26, r259_27, r259_30, r259_31, r259_32, r259_35, r259_36, r259_39, r259_40, r259_43, r259_44, r259_47, r259_48, r259_49, r259_51, r259_52, r259_53, r259_56, r259_57, r259_60, r259_61, r259_64, r259_65, r259_66, r259_68, r259_69, r259_70, r259_73, r259_76, r259_77, r259_80, r259_81, r259_82, r259_85, r259_88, r259_89, mx_isr_ref, mx_isr_null, mx_wt_nil, mx_wt_1, mx_wt_2, mx_wt_3, Option.bind_some, Option.toList_some, Option.toList_none, List.cons_append, List.nil_append, mx_nl_int, mx_nl_ref, mx_nl_null, mx_nl_none, mx_nb0, mx_nb1, mx_fb0, mx_fb1, mx_cat_int, mx_cat_ref, if_true, if_false, not_true_eq_false, not_false_eq_true, T, mr_ty_77, mr_n_77, mr_isI_77, mr_ty_78, mr_n_78, mr_isI_78, mr_ty_79, mr_n_79, mr_isI_79, mr_ty_80, mr_n_80, mr_isI_80, mr_ty_81, mr_n_81, mr_isI_81, mr_ty_82, mr_n_82, mr_isJ_82, mr_ty_83, mr_n_83, mr_isI_83, mr_ty_84, mr_n_84, mr_isI_84, mr_ty_85, mr_n_85, mr_isI_85, mr_ty_86, mr_n_86, mr_isI_86, mr_ty_87, mr_n_87, mr_isI_87, mr_ty_88, mr_n_88, mr_isI_88, mr_ty_89, mr_n_89, mr_isJ_89, mr_ty_90, mr_n_90, mr_isI_90, mr_ty_91, mr_n_91, mr_isI_91, mr_ty_92, mr_n_92, mr_isI_92, mr_ty_93, mr_n_93, mr_isI_93, mr_ty_94, mr_n_94, mr_isI_94, mr_ty_95, mr_n_95, mr_isI_95, mr_ty_96, mr_n_96, mr_isI_96, mr_ty_97, mr_n_97, mr_isI_97, mr_ty_98, mr_n_98, mr_isI_98, mr_ty_99, mr_n_99, mr_isI_99, mr_ty_100, mr_n_100, mr_isI_100, mr_ty_101, mr_n_101, mr_isI_101, mr_isF_1, mr_isF_3, mr_isF_4, mr_isF_10, mr_isF_12, mr_isF_18, mr_isF_19, mr_isF_21, mr_isF_22, mr_isF_23, mr_isF_26, mr_isF_34, mr_isF_37, mr_isF_38, mr_isF_39, mr_T_up, mr_T_upJ, mr_T_f, t1, t2, t3, u1, u2, u3, f2, g2, e, e2]
/-- the number of a name -/
def nmV (ts : List tk) (t : Nat) : Int64 := if (tx ts t).all isLet = true ∧ (tx ts t).length ≤ 9 then lN (enc (nmf ts t)) else -1
theorem isLet_sml {c : Nat} (h : isLet c = true) : 97 ≤ sml c ∧ sml c ≤ 122 := by
  unfold isLet at h
  simp at h
  omega
theorem nmV_eq {t : Nat} {w : List Nat} (hw : ∀ c ∈ w, 97 ≤ c ∧ c ≤ 122) (h9 : w.length ≤ 9) : (nmV ts t = lN (enc w)) = (nmf ts t = w) := by
  have key : ∀ l : List Nat, (∀ c ∈ l, 97 ≤ c ∧ c ≤ 122) → l.length ≤ 9 → enc l < 2 ^ 62 := by
    intro l h1 h2
    have := enc_lt l h2 h1
    have : (27 : Nat) ^ l.length ≤ 27 ^ 9 := Nat.pow_le_pow_right (by decide) h2
    have : (27 : Nat) ^ 9 < 2 ^ 62 := by decide
    omega
  apply propext
  unfold nmV
  by_cases ha : (tx ts t).all isLet = true ∧ (tx ts t).length ≤ 9
  · rw [if_pos ha]
    have hn : ∀ c ∈ nmf ts t, 97 ≤ c ∧ c ≤ 122 := by
      intro c hc
      obtain ⟨x, hx, e⟩ := List.mem_map.1 hc
      rw [← e]
      exact isLet_sml (List.all_eq_true.1 ha.1 x hx)
    have hl : (nmf ts t).length ≤ 9 := by unfold nmf; rw [List.length_map]; exact ha.2
    rw [lN_inj (key _ hn hl) (key _ hw h9)]
    exact ⟨enc_inj _ _ hn hw, fun z => by rw [z]⟩
  · rw [if_neg ha]
    constructor
    · intro z
      have := congrArg Int64.toInt z
      have k2 := key _ hw h9
      rw [lN_big (by omega), show (-1 : Int64).toInt = -1 from by decide] at this
      omega
    · intro z
      refine absurd ⟨List.all_eq_true.2 fun c hc => ?_, ?_⟩ ha
      · have := hw (sml c) (by rw [← z]; exact List.mem_map.2 ⟨c, hc, rfl⟩)
        unfold isLet
        simp
        exact this
      · have := congrArg List.length z
        unfold nmf at this
        rw [List.length_map] at this
        show ((tA ts t).2).length ≤ 9
        omega
theorem rm_nameL (S : rm_TK h ts) {t f : Nat} (ht : t < ts.length) {a : List Nat} (ha : ∀ c ∈ a, c < 128) (hf : f + a.length ≤ 120)
    (f1 : mi h 80 t = nI f) (f2 : mi h 81 t = nI a.length) (f3 : ∀ j, j < a.length → mi h 83 (f + j) = nI (a.getD j 0)) : ∀ (suf pre : List Nat) (l5 : Option Value), a = pre ++ suf → pre.length ≤ 9 → pre.all isLet = true →
    mx_G (d + 2) 262 5 [some (.ref 76), some (.int (nI t)), some (.long (lN (enc (pre.map sml)))), none, some (.int (nI pre.length)), l5] [] h = some (some (.long (if suf.all isLet = true ∧ pre.length + suf.length ≤ 9 then lN (enc (a.map sml)) else -1)), h) := by
  have T := S.1.1
  have hl := S.1.2.1
  have t1 : (nI t).toNatClampNeg = t := nI_clamp (by omega)
  have t2 : (0 : Int32) ≤ nI t := nI_pos' (by omega)
  have t3 : t < 130 := by omega
  intro suf
  induction suf with
  | nil =>
    intro pre l5 e h9 hp
    rw [List.append_nil] at e
    subst e
    have e1 : nI a.length ≤ nI a.length := nI_le (by omega) (by omega)
    rw [if_pos ⟨rfl, by simpa using h9⟩]
    simp only [r262_5, r262_7, r262_8, r262_11, r262_12, r262_13, r262_16, r262_17, r262_20, r262_21, r262_24, r262_25, r262_26, r262_28, r262_29, r262_30, r262_32, r262_34, r262_37, r262_40, r262_42, r262_44, r262_47, r262_50, r262_51, r262_54, r262_55, r262_56, r262_58, r262_61, r262_62, r262_63, r262_66, r262_67, r262_68, r262_71, r262_74, r262_75, mx_isr_ref, mx_isr_null, mx_wt_nil, mx_wt_1, mx_wt_2, mx_wt_3, Option.bind_some, Option.toList_some, Option.toList_none, List.cons_append, List.nil_append, mx_nl_int, mx_nl_ref, mx_nl_null, mx_nl_none, mx_nb0, mx_nb1, mx_fb0, mx_fb1, mx_cat_int, mx_cat_ref, if_true, if_false, not_true_eq_false, not_false_eq_true, T, mr_ty_77, mr_n_77, mr_isI_77, mr_ty_78, mr_n_78, mr_isI_78, mr_ty_79, mr_n_79, mr_isI_79, mr_ty_80, mr_n_80, mr_isI_80, mr_ty_81, mr_n_81, mr_isI_81, mr_ty_82, mr_n_82, mr_isJ_82, mr_ty_83, mr_n_83, mr_isI_83, mr_ty_84, mr_n_84, mr_isI_84, mr_ty_85, mr_n_85, mr_isI_85, mr_ty_86, mr_n_86, mr_isI_86, mr_ty_87, mr_n_87, mr_isI_87, mr_ty_88, mr_n_88, mr_isI_88, mr_ty_89, mr_n_89, mr_isJ_89, mr_ty_90, mr_n_90, mr_isI_90, mr_ty_91, mr_n_91, mr_isI_91, mr_ty_92, mr_n_92, mr_isI_92, mr_ty_93, mr_n_93, mr_isI_93, mr_ty_94, mr_n_94, mr_isI_94, mr_ty_95, mr_n_95, mr_isI_95, mr_ty_96, mr_n_96, mr_isI_96, mr_ty_97, mr_n_97, mr_isI_97, mr_ty_98, mr_n_98, mr_isI_98, mr_ty_99, mr_n_99, mr_isI_99, mr_ty_100, mr_n_100, mr_isI_100, mr_ty_101, mr_n_101, mr_isI_101, mr_isF_1, mr_isF_3, mr_isF_4, mr_isF_10, mr_isF_12, mr_isF_18, mr_isF_19, mr_isF_21, mr_isF_22, mr_isF_23, mr_isF_26, mr_isF_34, mr_isF_37, mr_isF_38, mr_isF_39, mr_T_up, mr_T_upJ, mr_T_f, t1, t2, t3, f2, e1]
  | cons c suf ih =>
    intro pre l5 e h9 hp
    have la : a.length = pre.length + suf.length + 1 := by rw [e]; simp; omega
    have e0 : a.getD pre.length 0 = c := by rw [e, List.getD_eq_getElem?_getD, List.getElem?_append_right (Nat.le_refl _), Nat.sub_self]; rfl
    have hc : c < 128 := ha c (by rw [e]; simp)
    have e1 : ¬ nI a.length ≤ nI pre.length := nI_ge (by omega) (by omega)
    have m1 : mi h 83 (f + pre.length) = nI c := by rw [f3 _ (by omega), e0]
    have k1 : (nI (f + pre.length)).toNatClampNeg = f + pre.length := nI_clamp (by omega)
    have k2 : (0 : Int32) ≤ nI (f + pre.length) := nI_pos' (by omega)
    have k3 : f + pre.length < 130 := by omega
    rw [r262_5]
    by_cases hlc : isLet c = true
    · by_cases h8 : pre.length ≤ 8
      · have e8 : nI pre.length ≤ 8 := nI_le (b := 8) h8 (by decide)
        have hi := ih (pre ++ [c]) (some (.int (nI c))) (by rw [e]; simp) (by simp; omega) (by simp [hp, hlc])
        have e9 : (27 : Int64) * lN (enc (pre.map sml)) + (nI (sml c)).toInt64 - 96 = lN (enc ((pre ++ [c]).map sml)) := by
          have g := isLet_sml hlc
          rw [nI_l (by have := sml_lt hc; omega), List.map_append, List.map_singleton, enc_app, show (27 : Int64) = lN 27 from rfl, show (96 : Int64) = lN 96 from rfl, lN_mul, lN_add, lN_sub (by omega)]
          congr 1
          omega
        rw [List.length_append, List.length_singleton] at hi
        simp only [r262_7, r262_8, r262_11, r262_12, r262_13, r262_16, r262_17, r262_20, r262_21, r262_24, r262_25, r262_26, r262_28, r262_29, r262_30, r262_32, r262_34, r262_37, r262_40, r262_42, r262_44, r262_47, r262_50, r262_51, r262_54, r262_55, r262_56, r262_58, r262_61, r262_62, r262_63, r262_66, r262_67, r262_68, r262_71, r262_74, r262_75, mx_isr_ref, mx_isr_null, mx_wt_nil, mx_wt_1, mx_wt_2, mx_wt_3, Option.bind_some, Option.toList_some, Option.toList_none, List.cons_append, List.nil_append, mx_nl_int, mx_nl_ref, mx_nl_null, mx_nl_none, mx_nb0, mx_nb1, mx_fb0, mx_fb1, mx_cat_int, mx_cat_ref, if_true, if_false, not_true_eq_false, not_false_eq_true, T, mr_ty_77, mr_n_77, mr_isI_77, mr_ty_78, mr_n_78, mr_isI_78, mr_ty_79, mr_n_79, mr_isI_79, mr_ty_80, mr_n_80, mr_isI_80, mr_ty_81, mr_n_81, mr_isI_81, mr_ty_82, mr_n_82, mr_isJ_82, mr_ty_83, mr_n_83, mr_isI_83, mr_ty_84, mr_n_84, mr_isI_84, mr_ty_85, mr_n_85, mr_isI_85, mr_ty_86, mr_n_86, mr_isI_86, mr_ty_87, mr_n_87, mr_isI_87, mr_ty_88, mr_n_88, mr_isI_88, mr_ty_89, mr_n_89, mr_isJ_89, mr_ty_90, mr_n_90, mr_isI_90, mr_ty_91, mr_n_91, mr_isI_91, mr_ty_92, mr_n_92, mr_isI_92, mr_ty_93, mr_n_93, mr_isI_93, mr_ty_94, mr_n_94, mr_isI_94, mr_ty_95, mr_n_95, mr_isI_95, mr_ty_96, mr_n_96, mr_isI_96, mr_ty_97, mr_n_97, mr_isI_97, mr_ty_98, mr_n_98, mr_isI_98, mr_ty_99, mr_n_99, mr_isI_99, mr_ty_100, mr_n_100, mr_isI_100, mr_ty_101, mr_n_101, mr_isI_101, mr_isF_1, mr_isF_3, mr_isF_4, mr_isF_10, mr_isF_12, mr_isF_18, mr_isF_19, mr_isF_21, mr_isF_22, mr_isF_23, mr_isF_26, mr_isF_34, mr_isF_37, mr_isF_38, mr_isF_39, mr_T_up, mr_T_upJ, mr_T_f, t1, t2, t3, f1, f2, e1, nI_add, k1, k2, k3, m1, rm_isLetter hc, hlc, e8, rm_small hc, e9, nI_1, show ¬ (1 : Int32) = 0 by decide]
        have e10 : (suf.all isLet = true ∧ pre.length + 1 + suf.length ≤ 9) = ((c :: suf).all isLet = true ∧ pre.length + (c :: suf).length ≤ 9) := by
          apply propext
          simp [hlc]
          omega
        rw [hi]
        simp only [e10]
      · have e8 : ¬ nI pre.length ≤ 8 := nI_ge (a := 8) (by omega) (by omega)
        rw [if_neg (fun z => by have := z.2; simp at this; omega)]
        simp only [r262_7, r262_8, r262_11, r262_12, r262_13, r262_16, r262_17, r262_20, r262_21, r262_24, r262_25, r262_26, r262_28, r262_29, r262_30, r262_32, r262_34, r262_37, r262_40, r262_42, r262_44, r262_47, r262_50, r262_51, r262_54, r262_55, r262_56, r262_58, r262_61, r262_62, r262_63, r262_66, r262_67, r262_68, r262_71, r262_74, r262_75, mx_isr_ref, mx_isr_null, mx_wt_nil, mx_wt_1, mx_wt_2, mx_wt_3, Option.bind_some, Option.toList_some, Option.toList_none, List.cons_append, List.nil_append, mx_nl_int, mx_nl_ref, mx_nl_null, mx_nl_none, mx_nb0, mx_nb1, mx_fb0, mx_fb1, mx_cat_int, mx_cat_ref, if_true, if_false, not_true_eq_false, not_false_eq_true, T, mr_ty_77, mr_n_77, mr_isI_77, mr_ty_78, mr_n_78, mr_isI_78, mr_ty_79, mr_n_79, mr_isI_79, mr_ty_80, mr_n_80, mr_isI_80, mr_ty_81, mr_n_81, mr_isI_81, mr_ty_82, mr_n_82, mr_isJ_82, mr_ty_83, mr_n_83, mr_isI_83, mr_ty_84, mr_n_84, mr_isI_84, mr_ty_85, mr_n_85, mr_isI_85, mr_ty_86, mr_n_86, mr_isI_86, mr_ty_87, mr_n_87, mr_isI_87, mr_ty_88, mr_n_88, mr_isI_88, mr_ty_89, mr_n_89, mr_isJ_89, mr_ty_90, mr_n_90, mr_isI_90, mr_ty_91, mr_n_91, mr_isI_91, mr_ty_92, mr_n_92, mr_isI_92, mr_ty_93, mr_n_93, mr_isI_93, mr_ty_94, mr_n_94, mr_isI_94, mr_ty_95, mr_n_95, mr_isI_95, mr_ty_96, mr_n_96, mr_isI_96, mr_ty_97, mr_n_97, mr_isI_97, mr_ty_98, mr_n_98, mr_isI_98, mr_ty_99, mr_n_99, mr_isI_99, mr_ty_100, mr_n_100, mr_isI_100, mr_ty_101, mr_n_101, mr_isI_101, mr_isF_1, mr_isF_3, mr_isF_4, mr_isF_10, mr_isF_12, mr_isF_18, mr_isF_19, mr_isF_21, mr_isF_22, mr_isF_23, mr_isF_26, mr_isF_34, mr_isF_37, mr_isF_38, mr_isF_39, mr_T_up, mr_T_upJ, mr_T_f, t1, t2, t3, f1, f2, e1, nI_add, k1, k2, k3, m1, rm_isLetter hc, hlc, e8, nI_1, show ¬ (1 : Int32) = 0 by decide]
    · have hlc' : isLet c = false := Bool.eq_false_iff.2 hlc
      rw [if_neg (fun z => by have := z.1; simp [hlc'] at this)]
      simp only [r262_7, r262_8, r262_11, r262_12, r262_13, r262_16, r262_17, r262_20, r262_21, r262_24, r262_25, r262_26, r262_28, r262_29, r262_30, r262_32, r262_34, r262_37, r262_40, r262_42, r262_44, r262_47, r262_50, r262_51, r262_54, r262_55, r262_56, r262_58, r262_61, r262_62, r262_63, r262_66, r262_67, r262_68, r262_71, r262_74, r262_75, mx_isr_ref, mx_isr_null, mx_wt_nil, mx_wt_1, mx_wt_2, mx_wt_3, Option.bind_some, Option.toList_some, Option.toList_none, List.cons_append, List.nil_append, mx_nl_int, mx_nl_ref, mx_nl_null, mx_nl_none, mx_nb0, mx_nb1, mx_fb0, mx_fb1, mx_cat_int, mx_cat_ref, if_true, if_false, not_true_eq_false, not_false_eq_true, T, mr_ty_77, mr_n_77, mr_isI_77, mr_ty_78, mr_n_78, mr_isI_78, mr_ty_79, mr_n_79, mr_isI_79, mr_ty_80, mr_n_80, mr_isI_80, mr_ty_81, mr_n_81, mr_isI_81, mr_ty_82, mr_n_82, mr_isJ_82, mr_ty_83, mr_n_83, mr_isI_83, mr_ty_84, mr_n_84, mr_isI_84, mr_ty_85, mr_n_85, mr_isI_85, mr_ty_86, mr_n_86, mr_isI_86, mr_ty_87, mr_n_87, mr_isI_87, mr_ty_88, mr_n_88, mr_isI_88, mr_ty_89, mr_n_89, mr_isJ_89, mr_ty_90, mr_n_90, mr_isI_90, mr_ty_91, mr_n_91, mr_isI_91, mr_ty_92, mr_n_92, mr_isI_92, mr_ty_93, mr_n_93, mr_isI_93, mr_ty_94, mr_n_94, mr_isI_94, mr_ty_95, mr_n_95, mr_isI_95, mr_ty_96, mr_n_96, mr_isI_96, mr_ty_97, mr_n_97, mr_isI_97, mr_ty_98, mr_n_98, mr_isI_98, mr_ty_99, mr_n_99, mr_isI_99, mr_ty_100, mr_n_100, mr_isI_100, mr_ty_101, mr_n_101, mr_isI_101, mr_isF_1, mr_isF_3, mr_isF_4, mr_isF_10, mr_isF_12, mr_isF_18, mr_isF_19, mr_isF_21, mr_isF_22, mr_isF_23, mr_isF_26, mr_isF_34, mr_isF_37, mr_isF_38, mr_isF_39, mr_T_up, mr_T_upJ, mr_T_f, t1, t2, t3, f1, f2, e1, nI_add, k1, k2, k3, m1, rm_isLetter hc, hlc', Bool.false_eq_true]
theorem rm_nameOf (S : rm_TK h ts) {t : Nat} (ht : (tA ts t).1 = 3) : mx_G (d + 2) 262 0 [some (.ref 76), some (.int (nI t)), none, none, none, none] [] h = some (some (.long (nmV ts t)), h) := by
  have T := S.1.1
  obtain ⟨f, fa, f1, f2, f3⟩ := rm_str S.1 ht
  have L := rm_nameL (d := d) S (tA3_lt ht) (tx_lt S.2 ht) fa f1 f2 f3 (tx ts t) [] none rfl (by decide) rfl
  simp only [r262_0, r262_1, r262_2, r262_3, mx_isr_ref, mx_isr_null, mx_wt_nil, mx_wt_1, mx_wt_2, mx_wt_3, Option.bind_some, Option.toList_some, Option.toList_none, List.cons_append, List.nil_append, mx_nl_int, mx_nl_ref, mx_nl_null, mx_nl_none, mx_nb0, mx_nb1, mx_fb0, mx_fb1, mx_cat_int, mx_cat_ref, if_true, if_false, not_true_eq_false, not_false_eq_true]
  rw [show ([] : List Nat).length + (tx ts t).length = (tx ts t).length from Nat.zero_add _] at L
  exact L
theorem rm_fits (S : rm_TK h ts) {t : Nat} (ht : t < 2 ^ 30) : mx_G (d + 2) 263 0 [some (.ref 76), some (.int (nI t))] [] h = some (some (.int (if ftx ts t = true then 1 else 0)), h) := by
  have T := S.1.1
  have hl := S.1.2.1
  have j := rm_scalar (d := d) S ht
  unfold ftx
  have s4 := sc_lt4 (ts := ts) t
  by_cases h2 : sc ts t = 2
  · have h3 : (tA ts t).1 = 3 := by
      unfold sc at h2
      split at h2
      · cases h2
      · split at h2
        · assumption
        · split at h2 <;> cases h2
    have tl := tA3_lt h3
    have t1 : (nI t).toNatClampNeg = t := nI_clamp (by omega)
    have t2 : (0 : Int32) ≤ nI t := nI_pos' (by omega)
    have t3 : t < 130 := by omega
    obtain ⟨f, fa, f1, f2, f3⟩ := rm_str S.1 h3
    rw [h2] at j
    by_cases c1 : 1 ≤ (tx ts t).length
    · have e1 : ¬ nI (tx ts t).length < 1 := nI_nlt (b := 1) c1 (by omega)
      by_cases c2 : (tx ts t).length ≤ 12
      · have e2 : ¬ 12 < nI (tx ts t).length := nI_nlt (a := 12) c2 (by omega)
        simp only [r263_0, r263_1, r263_2, r263_5, r263_6, r263_9, r263_10, r263_13, r263_14, r263_15, r263_16, r263_19, r263_20, r263_23, r263_24, r263_25, r263_27, r263_30, r263_31, r263_34, r263_35, mx_isr_ref, mx_isr_null, mx_wt_nil, mx_wt_1, mx_wt_2, mx_wt_3, Option.bind_some, Option.toList_some, Option.toList_none, List.cons_append, List.nil_append, mx_nl_int, mx_nl_ref, mx_nl_null, mx_nl_none, mx_nb0, mx_nb1, mx_fb0, mx_fb1, mx_cat_int, mx_cat_ref, if_true, if_false, not_true_eq_false, not_false_eq_true, T, mr_ty_77, mr_n_77, mr_isI_77, mr_ty_78, mr_n_78, mr_isI_78, mr_ty_79, mr_n_79, mr_isI_79, mr_ty_80, mr_n_80, mr_isI_80, mr_ty_81, mr_n_81, mr_isI_81, mr_ty_82, mr_n_82, mr_isJ_82, mr_ty_83, mr_n_83, mr_isI_83, mr_ty_84, mr_n_84, mr_isI_84, mr_ty_85, mr_n_85, mr_isI_85, mr_ty_86, mr_n_86, mr_isI_86, mr_ty_87, mr_n_87, mr_isI_87, mr_ty_88, mr_n_88, mr_isI_88, mr_ty_89, mr_n_89, mr_isJ_89, mr_ty_90, mr_n_90, mr_isI_90, mr_ty_91, mr_n_91, mr_isI_91, mr_ty_92, mr_n_92, mr_isI_92, mr_ty_93, mr_n_93, mr_isI_93, mr_ty_94, mr_n_94, mr_isI_94, mr_ty_95, mr_n_95, mr_isI_95, mr_ty_96, mr_n_96, mr_isI_96, mr_ty_97, mr_n_97, mr_isI_97, mr_ty_98, mr_n_98, mr_isI_98, mr_ty_99, mr_n_99, mr_isI_99, mr_ty_100, mr_n_100, mr_isI_100, mr_ty_101, mr_n_101, mr_isI_101, mr_isF_1, mr_isF_3, mr_isF_4, mr_isF_10, mr_isF_12, mr_isF_18, mr_isF_19, mr_isF_21, mr_isF_22, mr_isF_23, mr_isF_26, mr_isF_34, mr_isF_37, mr_isF_38, mr_isF_39, mr_T_up, mr_T_upJ, mr_T_f, j, show nI 2 = 2 from rfl, t1, t2, t3, f2, e1, e2, h2, c1, c2, and_self, decide_true]
      · have e2 : 12 < nI (tx ts t).length := nI_lt (a := 12) (by omega) (by omega)
        simp only [r263_0, r263_1, r263_2, r263_5, r263_6, r263_9, r263_10, r263_13, r263_14, r263_15, r263_16, r263_19, r263_20, r263_23, r263_24, r263_25, r263_27, r263_30, r263_31, r263_34, r263_35, mx_isr_ref, mx_isr_null, mx_wt_nil, mx_wt_1, mx_wt_2, mx_wt_3, Option.bind_some, Option.toList_some, Option.toList_none, List.cons_append, List.nil_append, mx_nl_int, mx_nl_ref, mx_nl_null, mx_nl_none, mx_nb0, mx_nb1, mx_fb0, mx_fb1, mx_cat_int, mx_cat_ref, if_true, if_false, not_true_eq_false, not_false_eq_true, T, mr_ty_77, mr_n_77, mr_isI_77, mr_ty_78, mr_n_78, mr_isI_78, mr_ty_79, mr_n_79, mr_isI_79, mr_ty_80, mr_n_80, mr_isI_80, mr_ty_81, mr_n_81, mr_isI_81, mr_ty_82, mr_n_82, mr_isJ_82, mr_ty_83, mr_n_83, mr_isI_83, mr_ty_84, mr_n_84, mr_isI_84, mr_ty_85, mr_n_85, mr_isI_85, mr_ty_86, mr_n_86, mr_isI_86, mr_ty_87, mr_n_87, mr_isI_87, mr_ty_88, mr_n_88, mr_isI_88, mr_ty_89, mr_n_89, mr_isJ_89, mr_ty_90, mr_n_90, mr_isI_90, mr_ty_91, mr_n_91, mr_isI_91, mr_ty_92, mr_n_92, mr_isI_92, mr_ty_93, mr_n_93, mr_isI_93, mr_ty_94, mr_n_94, mr_isI_94, mr_ty_95, mr_n_95, mr_isI_95, mr_ty_96, mr_n_96, mr_isI_96, mr_ty_97, mr_n_97, mr_isI_97, mr_ty_98, mr_n_98, mr_isI_98, mr_ty_99, mr_n_99, mr_isI_99, mr_ty_100, mr_n_100, mr_isI_100, mr_ty_101, mr_n_101, mr_isI_101, mr_isF_1, mr_isF_3, mr_isF_4, mr_isF_10, mr_isF_12, mr_isF_18, mr_isF_19, mr_isF_21, mr_isF_22, mr_isF_23, mr_isF_26, mr_isF_34, mr_isF_37, mr_isF_38, mr_isF_39, mr_T_up, mr_T_upJ, mr_T_f, j, show nI 2 = 2 from rfl, t1, t2, t3, f2, e1, e2, h2, c1, c2, and_false, decide_false, Bool.false_eq_true]
    · have e1 : nI (tx ts t).length < 1 := nI_lt (b := 1) (by omega) (by decide)
      simp only [r263_0, r263_1, r263_2, r263_5, r263_6, r263_9, r263_10, r263_13, r263_14, r263_15, r263_16, r263_19, r263_20, r263_23, r263_24, r263_25, r263_27, r263_30, r263_31, r263_34, r263_35, mx_isr_ref, mx_isr_null, mx_wt_nil, mx_wt_1, mx_wt_2, mx_wt_3, Option.bind_some, Option.toList_some, Option.toList_none, List.cons_append, List.nil_append, mx_nl_int, mx_nl_ref, mx_nl_null, mx_nl_none, mx_nb0, mx_nb1, mx_fb0, mx_fb1, mx_cat_int, mx_cat_ref, if_true, if_false, not_true_eq_false, not_false_eq_true, T, mr_ty_77, mr_n_77, mr_isI_77, mr_ty_78, mr_n_78, mr_isI_78, mr_ty_79, mr_n_79, mr_isI_79, mr_ty_80, mr_n_80, mr_isI_80, mr_ty_81, mr_n_81, mr_isI_81, mr_ty_82, mr_n_82, mr_isJ_82, mr_ty_83, mr_n_83, mr_isI_83, mr_ty_84, mr_n_84, mr_isI_84, mr_ty_85, mr_n_85, mr_isI_85, mr_ty_86, mr_n_86, mr_isI_86, mr_ty_87, mr_n_87, mr_isI_87, mr_ty_88, mr_n_88, mr_isI_88, mr_ty_89, mr_n_89, mr_isJ_89, mr_ty_90, mr_n_90, mr_isI_90, mr_ty_91, mr_n_91, mr_isI_91, mr_ty_92, mr_n_92, mr_isI_92, mr_ty_93, mr_n_93, mr_isI_93, mr_ty_94, mr_n_94, mr_isI_94, mr_ty_95, mr_n_95, mr_isI_95, mr_ty_96, mr_n_96, mr_isI_96, mr_ty_97, mr_n_97, mr_isI_97, mr_ty_98, mr_n_98, mr_isI_98, mr_ty_99, mr_n_99, mr_isI_99, mr_ty_100, mr_n_100, mr_isI_100, mr_ty_101, mr_n_101, mr_isI_101, mr_isF_1, mr_isF_3, mr_isF_4, mr_isF_10, mr_isF_12, mr_isF_18, mr_isF_19, mr_isF_21, mr_isF_22, mr_isF_23, mr_isF_26, mr_isF_34, mr_isF_37, mr_isF_38, mr_isF_39, mr_T_up, mr_T_upJ, mr_T_f, j, show nI 2 = 2 from rfl, t1, t2, t3, f2, e1, h2, c1, false_and, and_false, decide_false, Bool.false_eq_true]
  · have e : ¬ nI (sc ts t) = 2 := fun z => h2 ((nI_eq (b := 2) (by omega) (by decide)).mp z)
    simp only [r263_0, r263_1, r263_2, r263_5, r263_6, r263_9, r263_10, r263_13, r263_14, r263_15, r263_16, r263_19, r263_20, r263_23, r263_24, r263_25, r263_27, r263_30, r263_31, r263_34, r263_35, mx_isr_ref, mx_isr_null, mx_wt_nil, mx_wt_1, mx_wt_2, mx_wt_3, Option.bind_some, Option.toList_some, Option.toList_none, List.cons_append, List.nil_append, mx_nl_int, mx_nl_ref, mx_nl_null, mx_nl_none, mx_nb0, mx_nb1, mx_fb0, mx_fb1, mx_cat_int, mx_cat_ref, if_true, if_false, not_true_eq_false, not_false_eq_true, T, mr_ty_77, mr_n_77, mr_isI_77, mr_ty_78, mr_n_78, mr_isI_78, mr_ty_79, mr_n_79, mr_isI_79, mr_ty_80, mr_n_80, mr_isI_80, mr_ty_81, mr_n_81, mr_isI_81, mr_ty_82, mr_n_82, mr_isJ_82, mr_ty_83, mr_n_83, mr_isI_83, mr_ty_84, mr_n_84, mr_isI_84, mr_ty_85, mr_n_85, mr_isI_85, mr_ty_86, mr_n_86, mr_isI_86, mr_ty_87, mr_n_87, mr_isI_87, mr_ty_88, mr_n_88, mr_isI_88, mr_ty_89, mr_n_89, mr_isJ_89, mr_ty_90, mr_n_90, mr_isI_90, mr_ty_91, mr_n_91, mr_isI_91, mr_ty_92, mr_n_92, mr_isI_92, mr_ty_93, mr_n_93, mr_isI_93, mr_ty_94, mr_n_94, mr_isI_94, mr_ty_95, mr_n_95, mr_isI_95, mr_ty_96, mr_n_96, mr_isI_96, mr_ty_97, mr_n_97, mr_isI_97, mr_ty_98, mr_n_98, mr_isI_98, mr_ty_99, mr_n_99, mr_isI_99, mr_ty_100, mr_n_100, mr_isI_100, mr_ty_101, mr_n_101, mr_isI_101, mr_isF_1, mr_isF_3, mr_isF_4, mr_isF_10, mr_isF_12, mr_isF_18, mr_isF_19, mr_isF_21, mr_isF_22, mr_isF_23, mr_isF_26, mr_isF_34, mr_isF_37, mr_isF_38, mr_isF_39, mr_T_up, mr_T_upJ, mr_T_f, j, e, h2, false_and, decide_false, Bool.false_eq_true]
end
