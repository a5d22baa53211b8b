section
variable {d : Nat} {h : mx_H} {ts : List tk}
theorem rm_enter {D : Nat} {w : Bool} {s : List Nat} {out : List stp} {i x : Nat} (C : cR h D w false s out i) (hD : D ≤ 6) (hs : s.length < 130) (hx : x < 10) :
    ∃ h', mx_G (d + 1) 294 0 [some (.ref 76), some (.int (nI x))] [] h = some (none, h') ∧ mf Pcp h h' ∧ cR h' (D + 1) w (decide (D = 6)) (x :: s) out i := by
  have T := C.1
  have pu := rm_push (d := d) T (x := nI x) C.2.2.2.2.2.2.1 hs
  obtain ⟨C1, m1⟩ := cR_push C hs hx
  have T1 := C1.1
  have r1 := C1.2.1
  obtain ⟨C2, m2⟩ := cR_f (k := 21) (x := nI (D + 1)) (D' := D + 1) (w' := w) (wr' := false) (i' := i) C1 (by decide) (by omega) rfl rfl rfl rfl
  have T2 := C2.1
  have r2 := C2.2.1
  by_cases c : D = 6
  · have e : ¬ nI (D + 1) ≤ 6 := nI_ge (a := 6) (by omega) (by omega)
    obtain ⟨C3, m3⟩ := cR_f (k := 23) (x := 1) (D' := D + 1) (w' := w) (wr' := true) (i' := i) C2 (by decide) (by omega) rfl rfl rfl rfl
    refine ⟨_, ?_, mf_trans m1 (mf_trans m2 m3), by rw [decide_eq_true c]; exact C3⟩
    simp only [r294_0, r294_1, r294_2, r294_5, r294_6, r294_7, r294_10, r294_11, r294_12, r294_15, r294_16, r294_19, r294_21, r294_24, r294_25, r294_26, r294_29, mx_isr_ref, mx_isr_null, mx_wt_nil, mx_wt_1, mx_wt_2, mx_wt_3, Option.bind_some, Option.toList_some, Option.toList_none, List.cons_append, List.nil_append, mx_nl_int, mx_nl_ref, mx_nl_null, mx_nl_none, mx_nb0, mx_nb1, mx_fb0, mx_fb1, mx_cat_int, mx_cat_ref, if_true, if_false, not_true_eq_false, not_false_eq_true, T, T1, T2, pu, r1, nI_1, mr_ty_77, mr_n_77, mr_isI_77, mr_ty_78, mr_n_78, mr_isI_78, mr_ty_79, mr_n_79, mr_isI_79, mr_ty_80, mr_n_80, mr_isI_80, mr_ty_81, mr_n_81, mr_isI_81, mr_ty_82, mr_n_82, mr_isJ_82, mr_ty_83, mr_n_83, mr_isI_83, mr_ty_84, mr_n_84, mr_isI_84, mr_ty_85, mr_n_85, mr_isI_85, mr_ty_86, mr_n_86, mr_isI_86, mr_ty_87, mr_n_87, mr_isI_87, mr_ty_88, mr_n_88, mr_isI_88, mr_ty_89, mr_n_89, mr_isJ_89, mr_ty_90, mr_n_90, mr_isI_90, mr_ty_91, mr_n_91, mr_isI_91, mr_ty_92, mr_n_92, mr_isI_92, mr_ty_93, mr_n_93, mr_isI_93, mr_ty_94, mr_n_94, mr_isI_94, mr_ty_95, mr_n_95, mr_isI_95, mr_ty_96, mr_n_96, mr_isI_96, mr_ty_97, mr_n_97, mr_isI_97, mr_ty_98, mr_n_98, mr_isI_98, mr_ty_99, mr_n_99, mr_isI_99, mr_ty_100, mr_n_100, mr_isI_100, mr_ty_101, mr_n_101, mr_isI_101, mr_isF_1, mr_isF_3, mr_isF_4, mr_isF_10, mr_isF_12, mr_isF_18, mr_isF_19, mr_isF_21, mr_isF_22, mr_isF_23, mr_isF_26, mr_isF_34, mr_isF_37, mr_isF_38, mr_isF_39, mr_T_up, mr_T_upJ, mr_T_f, r2, e]
  · have e : nI (D + 1) ≤ 6 := nI_le (b := 6) (by omega) (by decide)
    refine ⟨_, ?_, mf_trans m1 m2, by rw [decide_eq_false c]; exact C2⟩
    simp only [r294_0, r294_1, r294_2, r294_5, r294_6, r294_7, r294_10, r294_11, r294_12, r294_15, r294_16, r294_19, r294_21, r294_24, r294_25, r294_26, r294_29, mx_isr_ref, mx_isr_null, mx_wt_nil, mx_wt_1, mx_wt_2, mx_wt_3, Option.bind_some, Option.toList_some, Option.toList_none, List.cons_append, List.nil_append, mx_nl_int, mx_nl_ref, mx_nl_null, mx_nl_none, mx_nb0, mx_nb1, mx_fb0, mx_fb1, mx_cat_int, mx_cat_ref, if_true, if_false, not_true_eq_false, not_false_eq_true, T, T1, T2, pu, r1, nI_1, mr_ty_77, mr_n_77, mr_isI_77, mr_ty_78, mr_n_78, mr_isI_78, mr_ty_79, mr_n_79, mr_isI_79, mr_ty_80, mr_n_80, mr_isI_80, mr_ty_81, mr_n_81, mr_isI_81, mr_ty_82, mr_n_82, mr_isJ_82, mr_ty_83, mr_n_83, mr_isI_83, mr_ty_84, mr_n_84, mr_isI_84, mr_ty_85, mr_n_85, mr_isI_85, mr_ty_86, mr_n_86, mr_isI_86, mr_ty_87, mr_n_87, mr_isI_87, mr_ty_88, mr_n_88, mr_isI_88, mr_ty_89, mr_n_89, mr_isJ_89, mr_ty_90, mr_n_90, mr_isI_90, mr_ty_91, mr_n_91, mr_isI_91, mr_ty_92, mr_n_92, mr_isI_92, mr_ty_93, mr_n_93, mr_isI_93, mr_ty_94, mr_n_94, mr_isI_94, mr_ty_95, mr_n_95, mr_isI_95, mr_ty_96, mr_n_96, mr_isI_96, mr_ty_97, mr_n_97, mr_isI_97, mr_ty_98, mr_n_98, mr_isI_98, mr_ty_99, mr_n_99, mr_isI_99, mr_ty_100, mr_n_100, mr_isI_100, mr_ty_101, mr_n_101, mr_isI_101, mr_isF_1, mr_isF_3, mr_isF_4, mr_isF_10, mr_isF_12, mr_isF_18, mr_isF_19, mr_isF_21, mr_isF_22, mr_isF_23, mr_isF_26, mr_isF_34, mr_isF_37, mr_isF_38, mr_isF_39, mr_T_up, mr_T_upJ, mr_T_f, r2, e]
theorem rm_opN (S : rm_TK h ts) {D : Nat} {w : Bool} {s : List Nat} {out : List stp} {i k : Nat} (C : cR h D w false s out i) (hD : D ≤ 6) (hs : s.length < 120) (h1 : tW ts k w_not = true) (h2 : tI ts (k + 1) 40 = true) :
    ∃ h', mx_G (d + 3) 293 0 [some (.ref 76), some (.int (nI k))] [] h = some (some (.int (nI (k + 2))), h') ∧ mf Pcp h h' ∧ cR h' (D + 1) w (decide (D = 6)) (4 :: s) out i := by
  have T := C.1
  have hl := S.1.2.1
  have kl := tI_lt (by decide) h2
  have y := rm_saysF (d := d + 2) S (t := k) (by omega)
  have j := rm_isF (d := d + 2) S.1 (t := k + 1) (by omega)
  obtain ⟨h', r, m, C'⟩ := rm_enter (d := d + 1) C hD (by omega) (x := 4) (by decide)
  rw [show nI 4 = 4 from rfl] at r
  have e2 : nI k + 2 = nI (k + 2) := nI_add k 2
  refine ⟨h', ?_, m, C'⟩
  simp only [r293_0, r293_1, r293_2, r293_5, r293_8, r293_11, r293_12, r293_13, r293_14, r293_15, r293_17, r293_20, r293_23, r293_24, r293_25, r293_28, r293_29, r293_30, r293_31, mx_isr_ref, mx_isr_null, mx_wt_nil, mx_wt_1, mx_wt_2, mx_wt_3, Option.bind_some, Option.toList_some, Option.toList_none, List.cons_append, List.nil_append, mx_nl_int, mx_nl_ref, mx_nl_null, mx_nl_none, mx_nb0, mx_nb1, mx_fb0, mx_fb1, mx_cat_int, mx_cat_ref, if_true, if_false, not_true_eq_false, not_false_eq_true, T, y, j, h1, h2, nI_1, r, e2, show ¬ (1 : Int32) = 0 by decide]
theorem tI_tW {t c : Nat} {w : List Nat} (h : tI ts t c = true) (hc : c ≠ 1) : tW ts t w = false := by
  refine Bool.eq_false_iff.2 fun z => ?_
  rw [tW_tI z hc] at h
  cases h
theorem rm_opP (S : rm_TK h ts) {D : Nat} {w : Bool} {s : List Nat} {out : List stp} {i k : Nat} (C : cR h D w false s out i) (hD : D ≤ 6) (hs : s.length < 120) (h1 : tI ts k 40 = true) :
    ∃ h', mx_G (d + 3) 293 0 [some (.ref 76), some (.int (nI k))] [] h = some (some (.int (nI (k + 1))), h') ∧ mf Pcp h h' ∧ cR h' (D + 1) w (decide (D = 6)) (3 :: s) out i := by
  have T := C.1
  have hl := S.1.2.1
  have kl := tI_lt (by decide) h1
  have y := rm_saysF (d := d + 2) S (t := k) (by omega)
  have j := rm_isF (d := d + 2) S.1 (t := k) (by omega)
  have h0 : tW ts k w_not = false := tI_tW h1 (by decide)
  obtain ⟨h', r, m, C'⟩ := rm_enter (d := d + 1) C hD (by omega) (x := 3) (by decide)
  rw [show nI 3 = 3 from rfl] at r
  refine ⟨h', ?_, m, C'⟩
  simp only [r293_0, r293_1, r293_2, r293_5, r293_8, r293_32, r293_33, r293_34, r293_36, r293_39, r293_42, r293_43, r293_44, r293_47, r293_48, r293_49, r293_50, mx_isr_ref, mx_isr_null, mx_wt_nil, mx_wt_1, mx_wt_2, mx_wt_3, Option.bind_some, Option.toList_some, Option.toList_none, List.cons_append, List.nil_append, mx_nl_int, mx_nl_ref, mx_nl_null, mx_nl_none, mx_nb0, mx_nb1, mx_fb0, mx_fb1, mx_cat_int, mx_cat_ref, if_true, if_false, not_true_eq_false, not_false_eq_true, T, y, j, h0, h1, nI_1, r, Bool.false_eq_true, show ¬ (1 : Int32) = 0 by decide]
theorem rm_opI (S : rm_TK h ts) {D : Nat} {s : List Nat} {out : List stp} {i k : Nat} (C : cR h D false false s out i) (hD : D ≤ 6) (hs : s.length < 120) (ho : out.length < 120) (h1 : tW ts k w_mail = true) (h2 : tI ts (k + 1) 91 = true) :
    ∃ h', mx_G (d + 3) 293 0 [some (.ref 76), some (.int (nI k))] [] h = some (some (.int (nI (k + 2))), h') ∧ mf Pcp h h' ∧ cR h' (D + 1) true (decide (D = 6)) (5 :: s) (out ++ [sp 5]) out.length := by
  have T := C.1
  have hl := S.1.2.1
  have kl := tI_lt (by decide) h2
  have y := rm_saysF (d := d + 2) S (t := k) (by omega)
  have j0 := rm_isF (d := d + 2) S.1 (t := k) (by omega)
  have j := rm_isF (d := d + 2) S.1 (t := k + 1) (by omega)
  have h0 : tW ts k w_not = false := tW2 h1 (by decide)
  have hp : tI ts k 40 = false := tW_tI h1 (by decide)
  have cw := C.2.2.2.1
  simp only [Bool.false_eq_true, if_false] at cw
  obtain ⟨h', r, m, C'⟩ := rm_enter (d := d + 1) C hD (by omega) (x := 5) (by decide)
  rw [show nI 5 = 5 from rfl] at r
  have T' := C'.1
  obtain ⟨C1, m1⟩ := cR_f (k := 22) (x := 1) (D' := D + 1) (w' := true) (wr' := decide (D = 6)) (i' := i) C' (by decide) (by omega) rfl rfl rfl rfl
  have T1 := C1.1
  have r12 : mi (mx_up h' 76 22 (.int 1)) 76 12 = nI out.length := C1.2.2.2.2.2.2.2.2.1
  obtain ⟨C2, m2⟩ := cR_f (k := 18) (x := nI out.length) (D' := D + 1) (w' := true) (wr' := decide (D = 6)) (i' := out.length) C1 (by decide) (by omega) rfl rfl rfl rfl
  have T2 := C2.1
  have ad := rm_add (d := d + 2) T2 (x := 4) C2.2.2.2.2.2.2.2.2.1 (by omega)
  obtain ⟨C3, m3⟩ := cR_add C2 (q := sp 5) (x := 4) (by omega) ⟨fun z => (by cases z), fun z => (by cases z), fun _ => by rw [mi_a T2 mr_ty_85 (by show _ < 130; omega), if_pos rfl], fun _ z => absurd z (by decide)⟩
  have e2 : nI k + 2 = nI (k + 2) := nI_add k 2
  refine ⟨_, ?_, mf_trans m (mf_trans m1 (mf_trans m2 m3)), C3⟩
  simp only [r293_0, r293_1, r293_2, r293_5, r293_8, r293_11, r293_12, r293_13, r293_14, r293_15, r293_17, r293_20, r293_23, r293_24, r293_25, r293_28, r293_29, r293_30, r293_31, r293_32, r293_33, r293_34, r293_36, r293_39, r293_42, r293_43, r293_44, r293_47, r293_48, r293_49, r293_50, r293_51, r293_52, r293_55, r293_58, r293_59, r293_60, r293_63, r293_66, r293_69, r293_70, r293_71, r293_72, r293_73, r293_75, r293_78, r293_81, r293_82, r293_83, r293_86, r293_87, r293_88, r293_91, r293_92, r293_93, r293_96, r293_99, r293_100, r293_101, r293_104, r293_105, r293_106, r293_107, r293_108, r293_109, r293_110, r293_113, mx_isr_ref, mx_isr_null, mx_wt_nil, mx_wt_1, mx_wt_2, mx_wt_3, Option.bind_some, Option.toList_some, Option.toList_none, List.cons_append, List.nil_append, mx_nl_int, mx_nl_ref, mx_nl_null, mx_nl_none, mx_nb0, mx_nb1, mx_fb0, mx_fb1, mx_cat_int, mx_cat_ref, if_true, if_false, not_true_eq_false, not_false_eq_true, T, T', T1, T2, y, j0, j, h0, hp, h1, h2, cw, nI_1, r, mr_ty_77, mr_n_77, mr_isI_77, mr_ty_78, mr_n_78, mr_isI_78, mr_ty_79, mr_n_79, mr_isI_79, mr_ty_80, mr_n_80, mr_isI_80, mr_ty_81, mr_n_81, mr_isI_81, mr_ty_82, mr_n_82, mr_isJ_82, mr_ty_83, mr_n_83, mr_isI_83, mr_ty_84, mr_n_84, mr_isI_84, mr_ty_85, mr_n_85, mr_isI_85, mr_ty_86, mr_n_86, mr_isI_86, mr_ty_87, mr_n_87, mr_isI_87, mr_ty_88, mr_n_88, mr_isI_88, mr_ty_89, mr_n_89, mr_isJ_89, mr_ty_90, mr_n_90, mr_isI_90, mr_ty_91, mr_n_91, mr_isI_91, mr_ty_92, mr_n_92, mr_isI_92, mr_ty_93, mr_n_93, mr_isI_93, mr_ty_94, mr_n_94, mr_isI_94, mr_ty_95, mr_n_95, mr_isI_95, mr_ty_96, mr_n_96, mr_isI_96, mr_ty_97, mr_n_97, mr_isI_97, mr_ty_98, mr_n_98, mr_isI_98, mr_ty_99, mr_n_99, mr_isI_99, mr_ty_100, mr_n_100, mr_isI_100, mr_ty_101, mr_n_101, mr_isI_101, mr_isF_1, mr_isF_3, mr_isF_4, mr_isF_10, mr_isF_12, mr_isF_18, mr_isF_19, mr_isF_21, mr_isF_22, mr_isF_23, mr_isF_26, mr_isF_34, mr_isF_37, mr_isF_38, mr_isF_39, mr_T_up, mr_T_upJ, mr_T_f, r12, ad, e2, Bool.false_eq_true, show ¬ (1 : Int32) = 0 by decide]
theorem rm_opT (S : rm_TK h ts) {D : Nat} {w : Bool} {s : List Nat} {out : List stp} {i k : Nat} (C : cR h D w false s out i) (hk : k ≤ ts.length) (ho : out.length < 130) (h1 : (tW ts k w_not && tI ts (k + 1) 40) = false) (h2 : tI ts k 40 = false) (h3 : (!w && (tW ts k w_mail && tI ts (k + 1) 91)) = false) :
    ∃ h', mx_G (d + 3) 293 0 [some (.ref 76), some (.int (nI k))] [] h = some (some (.int (nI (if opw ts (oAt ts w k) = w_pr then oAt ts w k + 1 else oAt ts w k + 2))), h') ∧ mf Pcp h h' ∧ cR h' D w (decide (cC ts w k = none)) s (out ++ [(0, pAt ts w k, opw ts (oAt ts w k), oAt ts w k + 1)]) i := by
  have T := C.1
  have hl := S.1.2.1
  have y := rm_saysF (d := d + 2) S (t := k) (by omega)
  have j0 := rm_isF (d := d + 2) S.1 (t := k) (by omega)
  have j := rm_isF (d := d + 2) S.1 (t := k + 1) (by omega)
  have cw := C.2.2.2.1
  obtain ⟨h', r, m, C'⟩ := rm_term (d := d) S C hk ho
  refine ⟨h', ?_, m, C'⟩
  have s1 : mx_G (d + 3) 293 0 [some (.ref 76), some (.int (nI k))] [] h = mx_G (d + 3) 293 32 [some (.ref 76), some (.int (nI k))] [] h := by
    cases z : tW ts k w_not with
    | false => simp only [r293_0, r293_1, r293_2, r293_5, r293_8, r293_11, r293_12, r293_13, r293_14, r293_15, r293_17, r293_20, r293_23, mx_isr_ref, mx_isr_null, mx_wt_nil, mx_wt_1, mx_wt_2, mx_wt_3, Option.bind_some, Option.toList_some, Option.toList_none, List.cons_append, List.nil_append, mx_nl_int, mx_nl_ref, mx_nl_null, mx_nl_none, mx_nb0, mx_nb1, mx_fb0, mx_fb1, mx_cat_int, mx_cat_ref, if_true, if_false, not_true_eq_false, not_false_eq_true, T, y, z, Bool.false_eq_true]
    | true =>
      rw [z, Bool.true_and] at h1
      simp only [r293_0, r293_1, r293_2, r293_5, r293_8, r293_11, r293_12, r293_13, r293_14, r293_15, r293_17, r293_20, r293_23, mx_isr_ref, mx_isr_null, mx_wt_nil, mx_wt_1, mx_wt_2, mx_wt_3, Option.bind_some, Option.toList_some, Option.toList_none, List.cons_append, List.nil_append, mx_nl_int, mx_nl_ref, mx_nl_null, mx_nl_none, mx_nb0, mx_nb1, mx_fb0, mx_fb1, mx_cat_int, mx_cat_ref, if_true, if_false, not_true_eq_false, not_false_eq_true, T, y, j, z, h1, nI_1, Bool.false_eq_true, show ¬ (1 : Int32) = 0 by decide]
  rw [s1]
  cases w with
  | true => simp only [r293_32, r293_33, r293_34, r293_36, r293_39, r293_42, r293_43, r293_44, r293_47, r293_48, r293_49, r293_50, r293_51, r293_52, r293_55, r293_58, r293_59, r293_60, r293_63, r293_66, r293_69, r293_70, r293_71, r293_72, r293_73, r293_75, r293_78, r293_81, r293_82, r293_83, r293_86, r293_87, r293_88, r293_91, r293_92, r293_93, r293_96, r293_99, r293_100, r293_101, r293_104, r293_105, r293_106, r293_107, r293_108, r293_109, r293_110, r293_113, mx_isr_ref, mx_isr_null, mx_wt_nil, mx_wt_1, mx_wt_2, mx_wt_3, Option.bind_some, Option.toList_some, Option.toList_none, List.cons_append, List.nil_append, mx_nl_int, mx_nl_ref, mx_nl_null, mx_nl_none, mx_nb0, mx_nb1, mx_fb0, mx_fb1, mx_cat_int, mx_cat_ref, if_true, if_false, not_true_eq_false, not_false_eq_true, T, j0, h2, cw, r, Bool.false_eq_true, show ¬ (1 : Int32) = 0 by decide]
  | false =>
    rw [Bool.not_false, Bool.true_and] at h3
    cases z : tW ts k w_mail with
    | false => simp only [r293_32, r293_33, r293_34, r293_36, r293_39, r293_42, r293_43, r293_44, r293_47, r293_48, r293_49, r293_50, r293_51, r293_52, r293_55, r293_58, r293_59, r293_60, r293_63, r293_66, r293_69, r293_70, r293_71, r293_72, r293_73, r293_75, r293_78, r293_81, r293_82, r293_83, r293_86, r293_87, r293_88, r293_91, r293_92, r293_93, r293_96, r293_99, r293_100, r293_101, r293_104, r293_105, r293_106, r293_107, r293_108, r293_109, r293_110, r293_113, mx_isr_ref, mx_isr_null, mx_wt_nil, mx_wt_1, mx_wt_2, mx_wt_3, Option.bind_some, Option.toList_some, Option.toList_none, List.cons_append, List.nil_append, mx_nl_int, mx_nl_ref, mx_nl_null, mx_nl_none, mx_nb0, mx_nb1, mx_fb0, mx_fb1, mx_cat_int, mx_cat_ref, if_true, if_false, not_true_eq_false, not_false_eq_true, T, j0, y, h2, cw, z, r, Bool.false_eq_true]
    | true =>
      rw [z, Bool.true_and] at h3
      simp only [r293_32, r293_33, r293_34, r293_36, r293_39, r293_42, r293_43, r293_44, r293_47, r293_48, r293_49, r293_50, r293_51, r293_52, r293_55, r293_58, r293_59, r293_60, r293_63, r293_66, r293_69, r293_70, r293_71, r293_72, r293_73, r293_75, r293_78, r293_81, r293_82, r293_83, r293_86, r293_87, r293_88, r293_91, r293_92, r293_93, r293_96, r293_99, r293_100, r293_101, r293_104, r293_105, r293_106, r293_107, r293_108, r293_109, r293_110, r293_113, mx_isr_ref, mx_isr_null, mx_wt_nil, mx_wt_1, mx_wt_2, mx_wt_3, Option.bind_some, Option.toList_some, Option.toList_none, List.cons_append, List.nil_append, mx_nl_int, mx_nl_ref, mx_nl_null, mx_nl_none, mx_nb0, mx_nb1, mx_fb0, mx_fb1, mx_cat_int, mx_cat_ref, if_true, if_false, not_true_eq_false, not_false_eq_true, T, j0, j, y, h2, h3, cw, z, r, nI_1, Bool.false_eq_true, show ¬ (1 : Int32) = 0 by decide]
/-- close, nothing open -/
theorem rm_close0 {b : Bool} {D : Nat} {w : Bool} {s : List Nat} {out out' : List stp} {i : Nat} (C : cR h D w false s out i) (hl : out.length + s.length < 130) (hr : red true s out = ([], out')) :
    ∃ h', mx_G (d + 2) 300 0 [some (.ref 76), some (.int (if b = true then 1 else 0)), none] [] h = some (some (.int 0), h') ∧ mf Pcp h h' ∧ cR h' D w false [] out' i := by
  have T := C.1
  obtain ⟨h1, r1, m1, C1⟩ := rm_reduce (d := d) true s out h C hl
  rw [hr] at C1
  have T1 := C1.1
  have c6 := C1.2.2.2.2.2.2.1
  rw [show ([] : List Nat).length = 0 from rfl, show nI 0 = 0 from rfl] at c6
  have r1 : mx_G (d + 1) 299 0 [some (.ref 76), some (.int 1)] [] h = some (none, h1) := r1
  refine ⟨h1, ?_, m1, C1⟩
  simp only [r300_0, r300_1, r300_2, r300_5, r300_6, r300_9, r300_12, r300_13, mx_isr_ref, mx_isr_null, mx_wt_nil, mx_wt_1, mx_wt_2, mx_wt_3, Option.bind_some, Option.toList_some, Option.toList_none, List.cons_append, List.nil_append, mx_nl_int, mx_nl_ref, mx_nl_null, mx_nl_none, mx_nb0, mx_nb1, mx_fb0, mx_fb1, mx_cat_int, mx_cat_ref, if_true, if_false, not_true_eq_false, not_false_eq_true, T, T1, r1, c6]
theorem rm_closeX {b : Bool} {D : Nat} {w : Bool} {x : Nat} {s s' : List Nat} {out out' : List stp} {i : Nat} (C : cR h (D + 1) w false s out i) (hl : out.length + s.length < 125) (hr : red true s out = (x :: s', out')) (hi : x = 5 → i < 130) :
    ∃ h' w' o', mx_G (d + 2) 300 0 [some (.ref 76), some (.int (if b = true then 1 else 0)), none] [] h = some (some (.int 1), h') ∧ mf Pcp h h' ∧ cR h' D w' (decide ((decide (x = 5)) ≠ b)) s' o' i ∧ o'.length ≤ out'.length + 1 ∧
      (x = 3 → w' = w ∧ o' = out') ∧ (x = 4 → w' = w ∧ o' = out' ++ [sp 3]) ∧ (x = 5 → i < out'.length → sG out' i = sp 5 → w' = false ∧ o' = out'.set i (4, 0, [], out'.length - i - 1)) := by
  have T := C.1
  obtain ⟨h1, r1, m1, C1⟩ := rm_reduce (d := d) true s out h C (by omega)
  have rl := red_len true s out
  rw [hr] at C1 rl
  simp only [List.length_cons] at rl C1
  have T1 := C1.1
  have c6 := C1.2.2.2.2.2.2.1
  have c7 := C1.2.2.2.2.2.2.2.1
  have hx := c7.2.1
  simp only [List.length_cons] at c6
  have r1 : mx_G (d + 1) 299 0 [some (.ref 76), some (.int 1)] [] h = some (none, h1) := r1
  have e0 : ¬ nI (s'.length + 1) = 0 := nI_ne0 (by omega) (by omega)
  have e1 : nI (s'.length + 1) - 1 = nI s'.length := nI_pred _
  obtain ⟨C2, m2⟩ := cR_pop C1
  have T2 := C2.1
  have t1 : (nI s'.length).toNatClampNeg = s'.length := nI_clamp (by omega)
  have t2 : (0 : Int32) ≤ nI s'.length := nI_pos' (by omega)
  have t3 : s'.length < 130 := by omega
  have r19 : mi (mx_up h1 76 19 (.int (nI s'.length))) 76 19 = nI s'.length := C2.2.2.2.2.2.2.1
  have r90 : mi (mx_up h1 76 19 (.int (nI s'.length))) 90 s'.length = nI x := by rw [mi_o (by decide)]; exact c7.1
  -- wrong or not
  obtain ⟨h3, eh3, C3, m3⟩ : ∃ h3, (if decide (x = 5) = b then mx_up h1 76 19 (.int (nI s'.length)) else mx_up (mx_up h1 76 19 (.int (nI s'.length))) 76 23 (.int 1)) = h3 ∧ cR h3 (D + 1) w (decide (decide (x = 5) ≠ b)) s' out' i ∧ mf Pcp h1 h3 := by
    by_cases c : decide (x = 5) = b
    · rw [if_pos c, decide_eq_false (fun z => z c)]
      exact ⟨_, rfl, C2, m2⟩
    · rw [if_neg c, decide_eq_true c]
      obtain ⟨C3, m3⟩ := cR_f (k := 23) (x := 1) (D' := D + 1) (w' := w) (wr' := true) (i' := i) C2 (by decide) C2.2.2.1 rfl rfl rfl rfl
      exact ⟨_, rfl, C3, mf_trans m2 m3⟩
  have T3 := C3.1
  have st : mx_G (d + 2) 300 0 [some (.ref 76), some (.int (if b = true then 1 else 0)), none] [] h = mx_G (d + 2) 300 53 [some (.ref 76), some (.int (if b = true then 1 else 0)), some (.int (nI x))] [] h3 := by
    rw [← eh3]
    by_cases c5 : x = 5
    · have e5 : nI x = 5 := by rw [c5]; rfl
      cases b with
      | true => simp only [r300_0, r300_1, r300_2, r300_5, r300_6, r300_9, r300_12, r300_13, r300_14, r300_15, r300_16, r300_19, r300_20, r300_21, r300_24, r300_25, r300_28, r300_29, r300_32, r300_33, r300_34, r300_35, r300_36, r300_39, r300_40, r300_43, r300_44, r300_45, r300_48, r300_49, r300_50, mx_isr_ref, mx_isr_null, mx_wt_nil, mx_wt_1, mx_wt_2, mx_wt_3, Option.bind_some, Option.toList_some, Option.toList_none, List.cons_append, List.nil_append, mx_nl_int, mx_nl_ref, mx_nl_null, mx_nl_none, mx_nb0, mx_nb1, mx_fb0, mx_fb1, mx_cat_int, mx_cat_ref, if_true, if_false, not_true_eq_false, not_false_eq_true, T, T1, T2, r1, c6, e0, e1, mr_ty_77, mr_n_77, mr_isI_77, mr_ty_78, mr_n_78, mr_isI_78, mr_ty_79, mr_n_79, mr_isI_79, mr_ty_80, mr_n_80, mr_isI_80, mr_ty_81, mr_n_81, mr_isI_81, mr_ty_82, mr_n_82, mr_isJ_82, mr_ty_83, mr_n_83, mr_isI_83, mr_ty_84, mr_n_84, mr_isI_84, mr_ty_85, mr_n_85, mr_isI_85, mr_ty_86, mr_n_86, mr_isI_86, mr_ty_87, mr_n_87, mr_isI_87, mr_ty_88, mr_n_88, mr_isI_88, mr_ty_89, mr_n_89, mr_isJ_89, mr_ty_90, mr_n_90, mr_isI_90, mr_ty_91, mr_n_91, mr_isI_91, mr_ty_92, mr_n_92, mr_isI_92, mr_ty_93, mr_n_93, mr_isI_93, mr_ty_94, mr_n_94, mr_isI_94, mr_ty_95, mr_n_95, mr_isI_95, mr_ty_96, mr_n_96, mr_isI_96, mr_ty_97, mr_n_97, mr_isI_97, mr_ty_98, mr_n_98, mr_isI_98, mr_ty_99, mr_n_99, mr_isI_99, mr_ty_100, mr_n_100, mr_isI_100, mr_ty_101, mr_n_101, mr_isI_101, mr_isF_1, mr_isF_3, mr_isF_4, mr_isF_10, mr_isF_12, mr_isF_18, mr_isF_19, mr_isF_21, mr_isF_22, mr_isF_23, mr_isF_26, mr_isF_34, mr_isF_37, mr_isF_38, mr_isF_39, mr_T_up, mr_T_upJ, mr_T_f, r19, t1, t2, t3, r90, eq_true e5, eq_true c5, decide_true]
      | false => simp only [r300_0, r300_1, r300_2, r300_5, r300_6, r300_9, r300_12, r300_13, r300_14, r300_15, r300_16, r300_19, r300_20, r300_21, r300_24, r300_25, r300_28, r300_29, r300_32, r300_33, r300_34, r300_35, r300_36, r300_39, r300_40, r300_43, r300_44, r300_45, r300_48, r300_49, r300_50, mx_isr_ref, mx_isr_null, mx_wt_nil, mx_wt_1, mx_wt_2, mx_wt_3, Option.bind_some, Option.toList_some, Option.toList_none, List.cons_append, List.nil_append, mx_nl_int, mx_nl_ref, mx_nl_null, mx_nl_none, mx_nb0, mx_nb1, mx_fb0, mx_fb1, mx_cat_int, mx_cat_ref, if_true, if_false, not_true_eq_false, not_false_eq_true, T, T1, T2, r1, c6, e0, e1, mr_ty_77, mr_n_77, mr_isI_77, mr_ty_78, mr_n_78, mr_isI_78, mr_ty_79, mr_n_79, mr_isI_79, mr_ty_80, mr_n_80, mr_isI_80, mr_ty_81, mr_n_81, mr_isI_81, mr_ty_82, mr_n_82, mr_isJ_82, mr_ty_83, mr_n_83, mr_isI_83, mr_ty_84, mr_n_84, mr_isI_84, mr_ty_85, mr_n_85, mr_isI_85, mr_ty_86, mr_n_86, mr_isI_86, mr_ty_87, mr_n_87, mr_isI_87, mr_ty_88, mr_n_88, mr_isI_88, mr_ty_89, mr_n_89, mr_isJ_89, mr_ty_90, mr_n_90, mr_isI_90, mr_ty_91, mr_n_91, mr_isI_91, mr_ty_92, mr_n_92, mr_isI_92, mr_ty_93, mr_n_93, mr_isI_93, mr_ty_94, mr_n_94, mr_isI_94, mr_ty_95, mr_n_95, mr_isI_95, mr_ty_96, mr_n_96, mr_isI_96, mr_ty_97, mr_n_97, mr_isI_97, mr_ty_98, mr_n_98, mr_isI_98, mr_ty_99, mr_n_99, mr_isI_99, mr_ty_100, mr_n_100, mr_isI_100, mr_ty_101, mr_n_101, mr_isI_101, mr_isF_1, mr_isF_3, mr_isF_4, mr_isF_10, mr_isF_12, mr_isF_18, mr_isF_19, mr_isF_21, mr_isF_22, mr_isF_23, mr_isF_26, mr_isF_34, mr_isF_37, mr_isF_38, mr_isF_39, mr_T_up, mr_T_upJ, mr_T_f, r19, t1, t2, t3, r90, eq_true e5, eq_true c5, decide_true, Bool.true_eq_false, Bool.false_eq_true, show ¬ (1 : Int32) = 0 by decide]
    · have e5 : ¬ nI x = 5 := fun z => c5 ((nI_eq (b := 5) (by omega) (by decide)).mp z)
      cases b with
      | true => simp only [r300_0, r300_1, r300_2, r300_5, r300_6, r300_9, r300_12, r300_13, r300_14, r300_15, r300_16, r300_19, r300_20, r300_21, r300_24, r300_25, r300_28, r300_29, r300_32, r300_33, r300_34, r300_35, r300_36, r300_39, r300_40, r300_43, r300_44, r300_45, r300_48, r300_49, r300_50, mx_isr_ref, mx_isr_null, mx_wt_nil, mx_wt_1, mx_wt_2, mx_wt_3, Option.bind_some, Option.toList_some, Option.toList_none, List.cons_append, List.nil_append, mx_nl_int, mx_nl_ref, mx_nl_null, mx_nl_none, mx_nb0, mx_nb1, mx_fb0, mx_fb1, mx_cat_int, mx_cat_ref, if_true, if_false, not_true_eq_false, not_false_eq_true, T, T1, T2, r1, c6, e0, e1, mr_ty_77, mr_n_77, mr_isI_77, mr_ty_78, mr_n_78, mr_isI_78, mr_ty_79, mr_n_79, mr_isI_79, mr_ty_80, mr_n_80, mr_isI_80, mr_ty_81, mr_n_81, mr_isI_81, mr_ty_82, mr_n_82, mr_isJ_82, mr_ty_83, mr_n_83, mr_isI_83, mr_ty_84, mr_n_84, mr_isI_84, mr_ty_85, mr_n_85, mr_isI_85, mr_ty_86, mr_n_86, mr_isI_86, mr_ty_87, mr_n_87, mr_isI_87, mr_ty_88, mr_n_88, mr_isI_88, mr_ty_89, mr_n_89, mr_isJ_89, mr_ty_90, mr_n_90, mr_isI_90, mr_ty_91, mr_n_91, mr_isI_91, mr_ty_92, mr_n_92, mr_isI_92, mr_ty_93, mr_n_93, mr_isI_93, mr_ty_94, mr_n_94, mr_isI_94, mr_ty_95, mr_n_95, mr_isI_95, mr_ty_96, mr_n_96, mr_isI_96, mr_ty_97, mr_n_97, mr_isI_97, mr_ty_98, mr_n_98, mr_isI_98, mr_ty_99, mr_n_99, mr_isI_99, mr_ty_100, mr_n_100, mr_isI_100, mr_ty_101, mr_n_101, mr_isI_101, mr_isF_1, mr_isF_3, mr_isF_4, mr_isF_10, mr_isF_12, mr_isF_18, mr_isF_19, mr_isF_21, mr_isF_22, mr_isF_23, mr_isF_26, mr_isF_34, mr_isF_37, mr_isF_38, mr_isF_39, mr_T_up, mr_T_upJ, mr_T_f, r19, t1, t2, t3, r90, e5, eq_false c5, decide_false, Bool.false_eq_true, show ¬ (0 : Int32) = 1 by decide]
      | false => simp only [r300_0, r300_1, r300_2, r300_5, r300_6, r300_9, r300_12, r300_13, r300_14, r300_15, r300_16, r300_19, r300_20, r300_21, r300_24, r300_25, r300_28, r300_29, r300_32, r300_33, r300_34, r300_35, r300_36, r300_39, r300_40, r300_43, r300_44, r300_45, r300_48, r300_49, r300_50, mx_isr_ref, mx_isr_null, mx_wt_nil, mx_wt_1, mx_wt_2, mx_wt_3, Option.bind_some, Option.toList_some, Option.toList_none, List.cons_append, List.nil_append, mx_nl_int, mx_nl_ref, mx_nl_null, mx_nl_none, mx_nb0, mx_nb1, mx_fb0, mx_fb1, mx_cat_int, mx_cat_ref, if_true, if_false, not_true_eq_false, not_false_eq_true, T, T1, T2, r1, c6, e0, e1, mr_ty_77, mr_n_77, mr_isI_77, mr_ty_78, mr_n_78, mr_isI_78, mr_ty_79, mr_n_79, mr_isI_79, mr_ty_80, mr_n_80, mr_isI_80, mr_ty_81, mr_n_81, mr_isI_81, mr_ty_82, mr_n_82, mr_isJ_82, mr_ty_83, mr_n_83, mr_isI_83, mr_ty_84, mr_n_84, mr_isI_84, mr_ty_85, mr_n_85, mr_isI_85, mr_ty_86, mr_n_86, mr_isI_86, mr_ty_87, mr_n_87, mr_isI_87, mr_ty_88, mr_n_88, mr_isI_88, mr_ty_89, mr_n_89, mr_isJ_89, mr_ty_90, mr_n_90, mr_isI_90, mr_ty_91, mr_n_91, mr_isI_91, mr_ty_92, mr_n_92, mr_isI_92, mr_ty_93, mr_n_93, mr_isI_93, mr_ty_94, mr_n_94, mr_isI_94, mr_ty_95, mr_n_95, mr_isI_95, mr_ty_96, mr_n_96, mr_isI_96, mr_ty_97, mr_n_97, mr_isI_97, mr_ty_98, mr_n_98, mr_isI_98, mr_ty_99, mr_n_99, mr_isI_99, mr_ty_100, mr_n_100, mr_isI_100, mr_ty_101, mr_n_101, mr_isI_101, mr_isF_1, mr_isF_3, mr_isF_4, mr_isF_10, mr_isF_12, mr_isF_18, mr_isF_19, mr_isF_21, mr_isF_22, mr_isF_23, mr_isF_26, mr_isF_34, mr_isF_37, mr_isF_38, mr_isF_39, mr_T_up, mr_T_upJ, mr_T_f, r19, t1, t2, t3, r90, e5, eq_false c5, decide_false, Bool.false_eq_true]
  rw [st]
  have hn : mi h3 76 12 = nI out'.length := C3.2.2.2.2.2.2.2.2.1
  have dl : nI (D + 1) - 1 = nI D := nI_pred _
  have D7 := C3.2.2.1
  by_cases c5 : x = 5
  · subst c5
    have i18 : mi h3 76 18 = nI i := C3.2.2.2.2.2.1
    have hi := hi rfl
    have u1 : (nI i).toNatClampNeg = i := nI_clamp (by omega)
    have u2 : (0 : Int32) ≤ nI i := nI_pos' (by omega)
    have T4 : mr_T (mx_up h3 88 i (.int (nI out'.length))) := mr_T_up T3 (by decide) _
    have m4 : mf Pcp h3 (mx_up h3 88 i (.int (nI out'.length))) := mf_up (mf_rfl T3) (by decide) rfl
    obtain ⟨o', C4, ol, oe⟩ : ∃ o', cR (mx_up h3 88 i (.int (nI out'.length))) (D + 1) w (decide (decide (5 = 5) ≠ b)) s' o' i ∧ o'.length = out'.length ∧ (i < out'.length → sG out' i = sp 5 → o' = out'.set i (4, 0, [], out'.length - i - 1)) := by
      obtain ⟨-, c1, c2, c3, c4, c5, c6, c7, c8, c9⟩ := C3
      have o := fun (b j : Nat) (hb : b ≠ 88) => mi_o (h := h3) (a := 88) (b := b) (k := i) hb (nI out'.length) j
      have base : ∀ o', o'.length = out'.length → (∀ j, j < o'.length → stpR (mx_up h3 88 i (.int (nI out'.length))) j (sG o' j)) → cR (mx_up h3 88 i (.int (nI out'.length))) (D + 1) w (decide (decide (5 = 5) ≠ b)) s' o' i := fun o' ol hs => ⟨T4, by rw [o _ _ (by decide), c1], c2, by rw [o _ _ (by decide), c3], by rw [o _ _ (by decide), c4], by rw [o _ _ (by decide), c5], by rw [o _ _ (by decide), c6], stkA_keep c7 fun k _ => by rw [o _ _ (by decide)], by rw [o _ _ (by decide), c8, ol], hs⟩
      have keep : ∀ j, j < out'.length → j ≠ i → stpR (mx_up h3 88 i (.int (nI out'.length))) j (sG out' j) := fun j hj e => stpR_keep (c9 j hj) (o _ _ (by decide)) (o _ _ (by decide)) (ml_upI _ _ _ _ _ _ (by decide)) (o _ _ (by decide)) (by rw [mi_a T3 mr_ty_88 (by show _ < 130; omega), if_neg e])
      by_cases c : i < out'.length ∧ sG out' i = sp 5
      · refine ⟨out'.set i (4, 0, [], out'.length - i - 1), base _ (by rw [List.length_set]) (fun j hj => ?_), by rw [List.length_set], fun _ _ => rfl⟩
        rw [List.length_set] at hj
        have e : sG (out'.set i (4, 0, [], out'.length - i - 1)) j = if i = j then (4, 0, [], out'.length - i - 1) else sG out' j := by
          unfold sG
          rw [List.getD_eq_getElem?_getD, List.getD_eq_getElem?_getD, List.getElem?_set]
          by_cases e : i = j
          · rw [if_pos e, if_pos e, if_pos (by omega)]; rfl
          · rw [if_neg e, if_neg e]
        rw [e]
        by_cases e : i = j
        · rw [if_pos e]
          subst e
          refine ⟨fun z => (by cases z), fun _ => ⟨?_, ?_⟩, fun z => (by cases z), fun _ z => absurd z (show ¬ (4 : Nat) ≤ 3 by decide)⟩
          · rw [o _ _ (by decide)]
            exact (c9 i hj).2.2.1 (by rw [c.2]; rfl)
          · rw [mi_a T3 mr_ty_88 (by show _ < 130; omega), if_pos rfl]
            congr 1
            show out'.length = i + 1 + (out'.length - i - 1)
            omega
        · rw [if_neg e]; exact keep j hj fun z => e z.symm
      · refine ⟨(out'.set i (sp 9)), base _ (by rw [List.length_set]) (fun j hj => ?_), by rw [List.length_set], fun z1 z2 => absurd ⟨z1, z2⟩ c⟩
        rw [List.length_set] at hj
        have e : sG (out'.set i (sp 9)) j = if i = j then sp 9 else sG out' j := by
          unfold sG
          rw [List.getD_eq_getElem?_getD, List.getD_eq_getElem?_getD, List.getElem?_set]
          by_cases e : i = j
          · rw [if_pos e, if_pos e, if_pos (by omega)]; rfl
          · rw [if_neg e, if_neg e]
        rw [e]
        by_cases e : i = j
        · rw [if_pos e]; exact ⟨fun z => (by cases z), fun z => (by cases z), fun z => (by cases z), fun _ z => absurd z (by decide)⟩
        · rw [if_neg e]; exact keep j hj fun z => e z.symm
    obtain ⟨C5, m5⟩ := cR_f (k := 22) (x := 0) (D' := D + 1) (w' := false) (wr' := decide (decide (5 = 5) ≠ b)) (i' := i) C4 (by decide) D7 rfl rfl rfl rfl
    have T5 := C5.1
    have r21 := C5.2.1
    obtain ⟨C6, m6⟩ := cR_f (k := 21) (x := nI D) (D' := D) (w' := false) (wr' := decide (decide (5 = 5) ≠ b)) (i' := i) C5 (by decide) (by omega) rfl rfl rfl rfl
    refine ⟨_, false, o', ?_, mf_trans m1 (mf_trans m3 (mf_trans m4 (mf_trans m5 m6))), C6, by omega, fun z => (by cases z), fun z => (by cases z), fun _ z1 z2 => ⟨rfl, oe z1 z2⟩⟩
    simp only [r300_53, r300_54, r300_55, r300_58, r300_59, r300_62, r300_63, r300_66, r300_67, r300_70, r300_71, r300_72, r300_73, r300_76, r300_77, r300_78, r300_81, r300_82, r300_83, r300_86, r300_87, r300_88, r300_91, r300_92, r300_93, r300_96, r300_97, mx_isr_ref, mx_isr_null, mx_wt_nil, mx_wt_1, mx_wt_2, mx_wt_3, Option.bind_some, Option.toList_some, Option.toList_none, List.cons_append, List.nil_append, mx_nl_int, mx_nl_ref, mx_nl_null, mx_nl_none, mx_nb0, mx_nb1, mx_fb0, mx_fb1, mx_cat_int, mx_cat_ref, if_true, if_false, not_true_eq_false, not_false_eq_true, T3, T4, T5, i18, hn, mr_ty_77, mr_n_77, mr_isI_77, mr_ty_78, mr_n_78, mr_isI_78, mr_ty_79, mr_n_79, mr_isI_79, mr_ty_80, mr_n_80, mr_isI_80, mr_ty_81, mr_n_81, mr_isI_81, mr_ty_82, mr_n_82, mr_isJ_82, mr_ty_83, mr_n_83, mr_isI_83, mr_ty_84, mr_n_84, mr_isI_84, mr_ty_85, mr_n_85, mr_isI_85, mr_ty_86, mr_n_86, mr_isI_86, mr_ty_87, mr_n_87, mr_isI_87, mr_ty_88, mr_n_88, mr_isI_88, mr_ty_89, mr_n_89, mr_isJ_89, mr_ty_90, mr_n_90, mr_isI_90, mr_ty_91, mr_n_91, mr_isI_91, mr_ty_92, mr_n_92, mr_isI_92, mr_ty_93, mr_n_93, mr_isI_93, mr_ty_94, mr_n_94, mr_isI_94, mr_ty_95, mr_n_95, mr_isI_95, mr_ty_96, mr_n_96, mr_isI_96, mr_ty_97, mr_n_97, mr_isI_97, mr_ty_98, mr_n_98, mr_isI_98, mr_ty_99, mr_n_99, mr_isI_99, mr_ty_100, mr_n_100, mr_isI_100, mr_ty_101, mr_n_101, mr_isI_101, mr_isF_1, mr_isF_3, mr_isF_4, mr_isF_10, mr_isF_12, mr_isF_18, mr_isF_19, mr_isF_21, mr_isF_22, mr_isF_23, mr_isF_26, mr_isF_34, mr_isF_37, mr_isF_38, mr_isF_39, mr_T_up, mr_T_upJ, mr_T_f, u1, u2, hi, r21, dl, show nI 5 = 5 by decide, show ¬ (5 : Int32) = 4 by decide]
  · have e5 : ¬ nI x = 5 := fun z => c5 ((nI_eq (b := 5) (by omega) (by decide)).mp z)
    have r21 := C3.2.1
    by_cases c4 : x = 4
    · have e4 : nI x = 4 := by rw [c4]; rfl
      have ad := rm_add (d := d + 1) T3 (x := 3) hn (by omega)
      obtain ⟨C4, m4⟩ := cR_add C3 (q := sp 3) (x := 3) (by omega) ⟨fun z => (by cases z), fun z => (by cases z), fun z => (by cases z), fun _ _ => by rw [mi_a T3 mr_ty_85 (by show _ < 130; omega), if_pos rfl]; rfl⟩
      have T4 := C4.1
      have r21' := C4.2.1
      obtain ⟨C6, m6⟩ := cR_f (k := 21) (x := nI D) (D' := D) (w' := w) (wr' := decide (decide (x = 5) ≠ b)) (i' := i) C4 (by decide) (by omega) rfl rfl rfl rfl
      refine ⟨_, w, out' ++ [sp 3], ?_, mf_trans m1 (mf_trans m3 (mf_trans m4 m6)), C6, by simp, fun z => by omega, fun _ => ⟨rfl, rfl⟩, fun z => absurd z c5⟩
      simp only [r300_53, r300_54, r300_55, r300_58, r300_59, r300_62, r300_63, r300_66, r300_67, r300_70, r300_71, r300_72, r300_73, r300_76, r300_77, r300_78, r300_81, r300_82, r300_83, r300_86, r300_87, r300_88, r300_91, r300_92, r300_93, r300_96, r300_97, mx_isr_ref, mx_isr_null, mx_wt_nil, mx_wt_1, mx_wt_2, mx_wt_3, Option.bind_some, Option.toList_some, Option.toList_none, List.cons_append, List.nil_append, mx_nl_int, mx_nl_ref, mx_nl_null, mx_nl_none, mx_nb0, mx_nb1, mx_fb0, mx_fb1, mx_cat_int, mx_cat_ref, if_true, if_false, not_true_eq_false, not_false_eq_true, T3, T4, e5, eq_true e4, ad, r21', dl, mr_ty_77, mr_n_77, mr_isI_77, mr_ty_78, mr_n_78, mr_isI_78, mr_ty_79, mr_n_79, mr_isI_79, mr_ty_80, mr_n_80, mr_isI_80, mr_ty_81, mr_n_81, mr_isI_81, mr_ty_82, mr_n_82, mr_isJ_82, mr_ty_83, mr_n_83, mr_isI_83, mr_ty_84, mr_n_84, mr_isI_84, mr_ty_85, mr_n_85, mr_isI_85, mr_ty_86, mr_n_86, mr_isI_86, mr_ty_87, mr_n_87, mr_isI_87, mr_ty_88, mr_n_88, mr_isI_88, mr_ty_89, mr_n_89, mr_isJ_89, mr_ty_90, mr_n_90, mr_isI_90, mr_ty_91, mr_n_91, mr_isI_91, mr_ty_92, mr_n_92, mr_isI_92, mr_ty_93, mr_n_93, mr_isI_93, mr_ty_94, mr_n_94, mr_isI_94, mr_ty_95, mr_n_95, mr_isI_95, mr_ty_96, mr_n_96, mr_isI_96, mr_ty_97, mr_n_97, mr_isI_97, mr_ty_98, mr_n_98, mr_isI_98, mr_ty_99, mr_n_99, mr_isI_99, mr_ty_100, mr_n_100, mr_isI_100, mr_ty_101, mr_n_101, mr_isI_101, mr_isF_1, mr_isF_3, mr_isF_4, mr_isF_10, mr_isF_12, mr_isF_18, mr_isF_19, mr_isF_21, mr_isF_22, mr_isF_23, mr_isF_26, mr_isF_34, mr_isF_37, mr_isF_38, mr_isF_39, mr_T_up, mr_T_upJ, mr_T_f]
    · have e4 : ¬ nI x = 4 := fun z => c4 ((nI_eq (b := 4) (by omega) (by decide)).mp z)
      obtain ⟨C6, m6⟩ := cR_f (k := 21) (x := nI D) (D' := D) (w' := w) (wr' := decide (decide (x = 5) ≠ b)) (i' := i) C3 (by decide) (by omega) rfl rfl rfl rfl
      refine ⟨_, w, out', ?_, mf_trans m1 (mf_trans m3 m6), C6, by omega, fun _ => ⟨rfl, rfl⟩, fun z => absurd z c4, fun z => absurd z c5⟩
      simp only [r300_53, r300_54, r300_55, r300_58, r300_59, r300_62, r300_63, r300_66, r300_67, r300_70, r300_71, r300_72, r300_73, r300_76, r300_77, r300_78, r300_81, r300_82, r300_83, r300_86, r300_87, r300_88, r300_91, r300_92, r300_93, r300_96, r300_97, mx_isr_ref, mx_isr_null, mx_wt_nil, mx_wt_1, mx_wt_2, mx_wt_3, Option.bind_some, Option.toList_some, Option.toList_none, List.cons_append, List.nil_append, mx_nl_int, mx_nl_ref, mx_nl_null, mx_nl_none, mx_nb0, mx_nb1, mx_fb0, mx_fb1, mx_cat_int, mx_cat_ref, if_true, if_false, not_true_eq_false, not_false_eq_true, T3, e5, e4, r21, dl, mr_ty_77, mr_n_77, mr_isI_77, mr_ty_78, mr_n_78, mr_isI_78, mr_ty_79, mr_n_79, mr_isI_79, mr_ty_80, mr_n_80, mr_isI_80, mr_ty_81, mr_n_81, mr_isI_81, mr_ty_82, mr_n_82, mr_isJ_82, mr_ty_83, mr_n_83, mr_isI_83, mr_ty_84, mr_n_84, mr_isI_84, mr_ty_85, mr_n_85, mr_isI_85, mr_ty_86, mr_n_86, mr_isI_86, mr_ty_87, mr_n_87, mr_isI_87, mr_ty_88, mr_n_88, mr_isI_88, mr_ty_89, mr_n_89, mr_isJ_89, mr_ty_90, mr_n_90, mr_isI_90, mr_ty_91, mr_n_91, mr_isI_91, mr_ty_92, mr_n_92, mr_isI_92, mr_ty_93, mr_n_93, mr_isI_93, mr_ty_94, mr_n_94, mr_isI_94, mr_ty_95, mr_n_95, mr_isI_95, mr_ty_96, mr_n_96, mr_isI_96, mr_ty_97, mr_n_97, mr_isI_97, mr_ty_98, mr_n_98, mr_isI_98, mr_ty_99, mr_n_99, mr_isI_99, mr_ty_100, mr_n_100, mr_isI_100, mr_ty_101, mr_n_101, mr_isI_101, mr_isF_1, mr_isF_3, mr_isF_4, mr_isF_10, mr_isF_12, mr_isF_18, mr_isF_19, mr_isF_21, mr_isF_22, mr_isF_23, mr_isF_26, mr_isF_34, mr_isF_37, mr_isF_38, mr_isF_39, mr_T_up, mr_T_upJ, mr_T_f]
end
