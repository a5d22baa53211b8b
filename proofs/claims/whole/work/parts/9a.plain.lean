section
variable {d : Nat} {h : mx_H} {ts : List tk}
theorem wf_F {p : prs} (W : wfP p) : wfF p := ⟨Or.inr W.1, W.2⟩
theorem rm_doPlain (S : rm_TK h ts) (K : tkOK ts) {p : prs} (R : rcP h 8 p) (W : wfP p) {c way v : Nat} (hc : c < 128) (w1 : 1 ≤ way) (w5 : way ≤ 5) (hv : c ≠ 45 → v < 2 ^ 30) :
    ∃ h', mx_G (d + 3) 313 0 [some (.ref 76), some (.int (nI c)), some (.int (nI way)), some (.int (nI v))] [] h = some (some (.int (Int32.ofInt (aPl ts c way v p).1)), h') ∧ mf P77 h h' ∧ rcP h' 8 (aPl ts c way v p).2 := by
  have T := S.1.1
  have h4 := W.2.2.1
  unfold aPl
  by_cases c1 : way < 3 ∨ (way = 3 ∧ c = 45)
  · rw [if_pos c1]
    refine ⟨h, ?_, mf_rfl T, R⟩
    by_cases c2 : way < 3
    · have e : nI way < 3 := nI_lt (b := 3) c2 (by decide)
      simp only [r313_0, r313_1, r313_2, r313_5, r313_6, r313_7, r313_10, r313_11, r313_13, r313_16, r313_19, mx_isr_ref, mx_isr_null, mx_wt_nil, mx_wt_1, mx_wt_2, mx_wt_3, Option.bind_some, Option.toList_some, Option.toList_none, List.cons_append, List.nil_append, mx_nl_int, mx_nl_ref, mx_nl_null, mx_nl_none, mx_nb0, mx_nb1, mx_fb0, mx_fb1, mx_cat_int, mx_cat_ref, if_true, if_false, not_true_eq_false, not_false_eq_true, e]
      rfl
    · have e : ¬ nI way < 3 := nI_nlt (b := 3) (by omega) (by omega)
      have e2 : nI way = 3 := by rw [show way = 3 by omega]; rfl
      have e3 : nI c = 45 := by rw [show c = 45 by omega]; rfl
      simp only [r313_0, r313_1, r313_2, r313_5, r313_6, r313_7, r313_10, r313_11, r313_13, r313_16, r313_19, mx_isr_ref, mx_isr_null, mx_wt_nil, mx_wt_1, mx_wt_2, mx_wt_3, Option.bind_some, Option.toList_some, Option.toList_none, List.cons_append, List.nil_append, mx_nl_int, mx_nl_ref, mx_nl_null, mx_nl_none, mx_nb0, mx_nb1, mx_fb0, mx_fb1, mx_cat_int, mx_cat_ref, if_true, if_false, not_true_eq_false, not_false_eq_true, e, eq_true e2, eq_true e3]
      rfl
  · rw [if_neg c1]
    have e : ¬ nI way < 3 := nI_nlt (b := 3) (by omega) (by omega)
    have st : mx_G (d + 3) 313 0 [some (.ref 76), some (.int (nI c)), some (.int (nI way)), some (.int (nI v))] [] h = mx_G (d + 3) 313 20 [some (.ref 76), some (.int (nI c)), some (.int (nI way)), some (.int (nI v))] [] h := by
      by_cases e2 : nI way = 3
      · have : way = 3 := (nI_eq (b := 3) (by omega) (by decide)).mp e2
        have e3 : ¬ nI c = 45 := fun z => c1 (Or.inr ⟨this, (nI_eq (b := 45) (by omega) (by decide)).mp z⟩)
        simp only [r313_0, r313_1, r313_2, r313_5, r313_6, r313_7, r313_10, r313_11, r313_13, mx_isr_ref, mx_isr_null, mx_wt_nil, mx_wt_1, mx_wt_2, mx_wt_3, Option.bind_some, Option.toList_some, Option.toList_none, List.cons_append, List.nil_append, mx_nl_int, mx_nl_ref, mx_nl_null, mx_nl_none, mx_nb0, mx_nb1, mx_fb0, mx_fb1, mx_cat_int, mx_cat_ref, if_true, if_false, not_true_eq_false, not_false_eq_true, e, eq_true e2, e3]
      · simp only [r313_0, r313_1, r313_2, r313_5, r313_6, r313_7, r313_10, r313_11, r313_13, mx_isr_ref, mx_isr_null, mx_wt_nil, mx_wt_1, mx_wt_2, mx_wt_3, Option.bind_some, Option.toList_some, Option.toList_none, List.cons_append, List.nil_append, mx_nl_int, mx_nl_ref, mx_nl_null, mx_nl_none, mx_nb0, mx_nb1, mx_fb0, mx_fb1, mx_cat_int, mx_cat_ref, if_true, if_false, not_true_eq_false, not_false_eq_true, e, e2]
    rw [st]
    by_cases c45 : c = 45
    · have e45 : nI c = 45 := by rw [c45]; rfl
      rw [if_pos c45]
      have : way = 4 ∨ way = 5 := by omega
      rcases this with w | w
      · subst w
        have s1 := rm_set (d := d + 2) T (s := 8) (o := 15) (v := 0) (by decide)
        rw [show nI 8 = 8 from rfl, show nI 15 = 15 from rfl] at s1
        have m1 : mf P77 h (mx_up h 77 (80 * 8 + 15) (.int 0)) := mf_up (mf_rfl T) (by decide) (P77_t (by decide))
        have T1 := m1.1
        have s2 := rm_set (d := d + 2) T1 (s := 8) (o := 16) (v := 0) (by decide)
        rw [show nI 8 = 8 from rfl, show nI 16 = 16 from rfl] at s2
        have m2 : mf P77 h (mx_up (mx_up h 77 (80 * 8 + 15) (.int 0)) 77 (80 * 8 + 16) (.int 0)) := mf_up m1 (by decide) (P77_t (by decide))
        have T2 := m2.1
        refine ⟨_, ?_, m2, ?_⟩
        · simp only [r313_20, r313_21, r313_23, r313_26, r313_27, r313_29, r313_30, r313_31, r313_34, r313_36, r313_39, r313_41, r313_42, r313_45, r313_46, r313_48, r313_49, r313_50, r313_53, r313_55, r313_58, r313_60, r313_61, r313_64, r313_65, mx_isr_ref, mx_isr_null, mx_wt_nil, mx_wt_1, mx_wt_2, mx_wt_3, Option.bind_some, Option.toList_some, Option.toList_none, List.cons_append, List.nil_append, mx_nl_int, mx_nl_ref, mx_nl_null, mx_nl_none, mx_nb0, mx_nb1, mx_fb0, mx_fb1, mx_cat_int, mx_cat_ref, if_true, if_false, not_true_eq_false, not_false_eq_true, T, T1, T2, eq_true e45, s1, s2, show nI 4 = 4 by decide]
          rfl
        · refine rc_hd R rfl (fun o ho => ?_) (fun i h1 h2 => by rw [mi_r T1 (by decide), if_neg (by omega), mi_r T (by decide), if_neg (by omega)]) h4
          rw [mi_r T1 (by decide), mi_r T (by decide)]
          by_cases q : o = 16
          · subst q; rfl
          · rw [if_neg (by omega)]
            by_cases q' : o = 15
            · subst q'; rfl
            · rw [if_neg (by omega)]
              show mi h 77 (80 * 8 + o) = pe (sAg p none) o
              rw [pe_ag q' q]
              exact R.1 o ho
      · subst w
        have s1 := rm_set (d := d + 2) T (s := 8) (o := 17) (v := 0) (by decide)
        rw [show nI 8 = 8 from rfl, show nI 17 = 17 from rfl] at s1
        have m1 : mf P77 h (mx_up h 77 (80 * 8 + 17) (.int 0)) := mf_up (mf_rfl T) (by decide) (P77_t (by decide))
        have T1 := m1.1
        have s2 := rm_set (d := d + 2) T1 (s := 8) (o := 18) (v := 0) (by decide)
        rw [show nI 8 = 8 from rfl, show nI 18 = 18 from rfl] at s2
        have m2 : mf P77 h (mx_up (mx_up h 77 (80 * 8 + 17) (.int 0)) 77 (80 * 8 + 18) (.int 0)) := mf_up m1 (by decide) (P77_t (by decide))
        have T2 := m2.1
        refine ⟨_, ?_, m2, ?_⟩
        · simp only [r313_20, r313_21, r313_23, r313_26, r313_27, r313_29, r313_30, r313_31, r313_34, r313_36, r313_39, r313_41, r313_42, r313_45, r313_46, r313_48, r313_49, r313_50, r313_53, r313_55, r313_58, r313_60, r313_61, r313_64, r313_65, mx_isr_ref, mx_isr_null, mx_wt_nil, mx_wt_1, mx_wt_2, mx_wt_3, Option.bind_some, Option.toList_some, Option.toList_none, List.cons_append, List.nil_append, mx_nl_int, mx_nl_ref, mx_nl_null, mx_nl_none, mx_nb0, mx_nb1, mx_fb0, mx_fb1, mx_cat_int, mx_cat_ref, if_true, if_false, not_true_eq_false, not_false_eq_true, T, T1, T2, eq_true e45, s1, s2, show nI 5 = 5 by decide, show ¬ (5 : Int32) = 4 by decide]
          rfl
        · refine rc_hd R rfl (fun o ho => ?_) (fun i h1 h2 => by rw [mi_r T1 (by decide), if_neg (by omega), mi_r T (by decide), if_neg (by omega)]) h4
          rw [mi_r T1 (by decide), mi_r T (by decide)]
          by_cases q : o = 18
          · subst q; rfl
          · rw [if_neg (by omega)]
            by_cases q' : o = 17
            · subst q'; rfl
            · rw [if_neg (by omega)]
              show mi h 77 (80 * 8 + o) = pe (sOn p none) o
              rw [pe_on q' q]
              exact R.1 o ho
    · have e45 : ¬ nI c = 45 := fun z => c45 ((nI_eq (b := 45) (by omega) (by decide)).mp z)
      rw [if_neg c45]
      have hv := hv c45
      have ft := rm_fits (d := d) S (t := v) hv
      have sca := rm_scalar (d := d + 1) S (t := v) hv
      have sc4 := sc_lt4 (ts := ts) v
      have : way = 3 ∨ way = 4 ∨ way = 5 := by omega
      rcases this with w | w | w
      · subst w
        rw [if_pos rfl]
        cases z : ftx ts v with
        | false =>
          rw [z] at ft
          refine ⟨h, ?_, mf_rfl T, R⟩
          simp only [r313_20, r313_21, r313_23, r313_26, r313_27, r313_29, r313_30, r313_31, r313_34, r313_36, r313_39, r313_41, r313_42, r313_45, r313_46, r313_48, r313_49, r313_50, r313_53, r313_55, r313_58, r313_60, r313_61, r313_64, r313_65, r313_66, r313_67, r313_68, r313_71, r313_72, r313_73, r313_76, r313_79, r313_82, r313_83, r313_84, r313_87, r313_88, r313_89, r313_92, r313_95, r313_98, mx_isr_ref, mx_isr_null, mx_wt_nil, mx_wt_1, mx_wt_2, mx_wt_3, Option.bind_some, Option.toList_some, Option.toList_none, List.cons_append, List.nil_append, mx_nl_int, mx_nl_ref, mx_nl_null, mx_nl_none, mx_nb0, mx_nb1, mx_fb0, mx_fb1, mx_cat_int, mx_cat_ref, if_true, if_false, not_true_eq_false, not_false_eq_true, T, e45, ft, show nI 3 = 3 by decide, Bool.false_eq_true]
          rfl
        | true =>
          rw [z] at ft
          obtain ⟨h', r, m, W'⟩ := rm_setAttr (d := d) S K ⟨R, wf_F W⟩ (u := 276647) (v := v) hv (fun _ => z) (fun e => absurd e (by decide))
          rw [if_pos rfl] at W'
          refine ⟨h', ?_, m, W'.1⟩
          simp only [r313_20, r313_21, r313_23, r313_26, r313_27, r313_29, r313_30, r313_31, r313_34, r313_36, r313_39, r313_41, r313_42, r313_45, r313_46, r313_48, r313_49, r313_50, r313_53, r313_55, r313_58, r313_60, r313_61, r313_64, r313_65, r313_66, r313_67, r313_68, r313_71, r313_72, r313_73, r313_76, r313_79, r313_82, r313_83, r313_84, r313_87, r313_88, r313_89, r313_92, r313_95, r313_98, r313_99, r313_100, r313_101, r313_102, r313_105, r313_108, r313_111, r313_112, r313_113, r313_116, r313_119, r313_122, r313_125, r313_126, r313_129, r313_130, mx_isr_ref, mx_isr_null, mx_wt_nil, mx_wt_1, mx_wt_2, mx_wt_3, Option.bind_some, Option.toList_some, Option.toList_none, List.cons_append, List.nil_append, mx_nl_int, mx_nl_ref, mx_nl_null, mx_nl_none, mx_nb0, mx_nb1, mx_fb0, mx_fb1, mx_cat_int, mx_cat_ref, if_true, if_false, not_true_eq_false, not_false_eq_true, T, e45, ft, r, show nI 3 = 3 by decide, show ¬ (1 : Int32) = 0 by decide]
          rfl
      · subst w
        rw [if_neg (show ¬ (4 : Nat) = 3 by decide), if_pos rfl]
        have ty := rm_typeOf (d := d + 2) (h := h) (w := 4) (by decide)
        rw [show nI 4 = 4 from rfl, show tyO 4 = 1 from rfl, show nI 1 = 1 from rfl] at ty
        by_cases z : sc ts v = 1
        · rw [z, show nI 1 = 1 from rfl] at sca
          rw [if_pos z]
          obtain ⟨h', r, m, W'⟩ := rm_setAttr (d := d) S K ⟨R, wf_F W⟩ (u := 923) (v := v) hv (fun e => absurd e (by decide)) (fun _ => z)
          rw [if_neg (show ¬ (923 : Int64) = 276647 by decide), if_pos rfl] at W'
          refine ⟨h', ?_, m, W'.1⟩
          simp only [r313_20, r313_21, r313_23, r313_26, r313_27, r313_29, r313_30, r313_31, r313_34, r313_36, r313_39, r313_41, r313_42, r313_45, r313_46, r313_48, r313_49, r313_50, r313_53, r313_55, r313_58, r313_60, r313_61, r313_64, r313_65, r313_66, r313_67, r313_68, r313_71, r313_72, r313_73, r313_76, r313_79, r313_82, r313_83, r313_84, r313_87, r313_88, r313_89, r313_92, r313_95, r313_98, r313_99, r313_100, r313_101, r313_102, r313_105, r313_108, r313_111, r313_112, r313_113, r313_116, r313_119, r313_122, r313_125, r313_126, r313_129, r313_130, mx_isr_ref, mx_isr_null, mx_wt_nil, mx_wt_1, mx_wt_2, mx_wt_3, Option.bind_some, Option.toList_some, Option.toList_none, List.cons_append, List.nil_append, mx_nl_int, mx_nl_ref, mx_nl_null, mx_nl_none, mx_nb0, mx_nb1, mx_fb0, mx_fb1, mx_cat_int, mx_cat_ref, if_true, if_false, not_true_eq_false, not_false_eq_true, T, e45, sca, ty, r, show nI 4 = 4 by decide, show ¬ (4 : Int32) = 3 by decide]
          rfl
        · have e3 : ¬ nI (sc ts v) = 1 := fun y => z ((nI_eq (b := 1) (by omega) (by decide)).mp y)
          rw [if_neg z]
          refine ⟨h, ?_, mf_rfl T, R⟩
          simp only [r313_20, r313_21, r313_23, r313_26, r313_27, r313_29, r313_30, r313_31, r313_34, r313_36, r313_39, r313_41, r313_42, r313_45, r313_46, r313_48, r313_49, r313_50, r313_53, r313_55, r313_58, r313_60, r313_61, r313_64, r313_65, r313_66, r313_67, r313_68, r313_71, r313_72, r313_73, r313_76, r313_79, r313_82, r313_83, r313_84, r313_87, r313_88, r313_89, r313_92, r313_95, r313_98, mx_isr_ref, mx_isr_null, mx_wt_nil, mx_wt_1, mx_wt_2, mx_wt_3, Option.bind_some, Option.toList_some, Option.toList_none, List.cons_append, List.nil_append, mx_nl_int, mx_nl_ref, mx_nl_null, mx_nl_none, mx_nb0, mx_nb1, mx_fb0, mx_fb1, mx_cat_int, mx_cat_ref, if_true, if_false, not_true_eq_false, not_false_eq_true, T, e45, sca, ty, e3, show nI 4 = 4 by decide, show ¬ (4 : Int32) = 3 by decide]
          rfl
      · subst w
        rw [if_neg (show ¬ (5 : Nat) = 3 by decide), if_neg (show ¬ (5 : Nat) = 4 by decide)]
        have ty := rm_typeOf (d := d + 2) (h := h) (w := 5) (by decide)
        rw [show nI 5 = 5 from rfl, show tyO 5 = 3 from rfl, show nI 3 = 3 from rfl] at ty
        by_cases z : sc ts v = 3
        · rw [z, show nI 3 = 3 from rfl] at sca
          rw [if_pos z]
          obtain ⟨h', r, m, W'⟩ := rm_setAttr (d := d) S K ⟨R, wf_F W⟩ (u := 419) (v := v) hv (fun e => absurd e (by decide)) (fun e => absurd e (by decide))
          rw [if_neg (show ¬ (419 : Int64) = 276647 by decide), if_neg (show ¬ (419 : Int64) = 923 by decide), if_pos rfl] at W'
          refine ⟨h', ?_, m, W'.1⟩
          simp only [r313_20, r313_21, r313_23, r313_26, r313_27, r313_29, r313_30, r313_31, r313_34, r313_36, r313_39, r313_41, r313_42, r313_45, r313_46, r313_48, r313_49, r313_50, r313_53, r313_55, r313_58, r313_60, r313_61, r313_64, r313_65, r313_66, r313_67, r313_68, r313_71, r313_72, r313_73, r313_76, r313_79, r313_82, r313_83, r313_84, r313_87, r313_88, r313_89, r313_92, r313_95, r313_98, r313_99, r313_100, r313_101, r313_102, r313_105, r313_108, r313_111, r313_112, r313_113, r313_116, r313_119, r313_122, r313_125, r313_126, r313_129, r313_130, mx_isr_ref, mx_isr_null, mx_wt_nil, mx_wt_1, mx_wt_2, mx_wt_3, Option.bind_some, Option.toList_some, Option.toList_none, List.cons_append, List.nil_append, mx_nl_int, mx_nl_ref, mx_nl_null, mx_nl_none, mx_nb0, mx_nb1, mx_fb0, mx_fb1, mx_cat_int, mx_cat_ref, if_true, if_false, not_true_eq_false, not_false_eq_true, T, e45, sca, ty, r, show nI 5 = 5 by decide, show ¬ (5 : Int32) = 3 by decide, show ¬ (5 : Int32) = 4 by decide]
          rfl
        · have e3 : ¬ nI (sc ts v) = 3 := fun y => z ((nI_eq (b := 3) (by omega) (by decide)).mp y)
          rw [if_neg z]
          refine ⟨h, ?_, mf_rfl T, R⟩
          simp only [r313_20, r313_21, r313_23, r313_26, r313_27, r313_29, r313_30, r313_31, r313_34, r313_36, r313_39, r313_41, r313_42, r313_45, r313_46, r313_48, r313_49, r313_50, r313_53, r313_55, r313_58, r313_60, r313_61, r313_64, r313_65, r313_66, r313_67, r313_68, r313_71, r313_72, r313_73, r313_76, r313_79, r313_82, r313_83, r313_84, r313_87, r313_88, r313_89, r313_92, r313_95, r313_98, mx_isr_ref, mx_isr_null, mx_wt_nil, mx_wt_1, mx_wt_2, mx_wt_3, Option.bind_some, Option.toList_some, Option.toList_none, List.cons_append, List.nil_append, mx_nl_int, mx_nl_ref, mx_nl_null, mx_nl_none, mx_nb0, mx_nb1, mx_fb0, mx_fb1, mx_cat_int, mx_cat_ref, if_true, if_false, not_true_eq_false, not_false_eq_true, T, e45, sca, ty, e3, show nI 5 = 5 by decide, show ¬ (5 : Int32) = 3 by decide]
          rfl
end
