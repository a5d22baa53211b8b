section
variable {d : Nat} {h : mx_H} {ts : List tk}
theorem hasT_al {b : Bool} {op l m : List Nat} : hasT op (al b l) (al b m) = (List.range' 0 (l.length + 1 - m.length)).any fun k => (op == w_co || (op == w_sw && k == 0) || (op == w_ew && k + m.length == l.length)) && atP (al b l) (al b m) k := by
  unfold hasT
  rw [al_len, al_len, List.range_eq_range']
theorem rm_partOf (S : rm_TK h ts) {s o t : Nat} {l : List Nat} (R : txR h s o l) (h3 : (tA ts t).1 = 3) (b : Bool) {op : List Nat} (hop : ltr op) : mx_G (d + 2) 309 0 [some (.ref 76), some (.int (nI s)), some (.int (nI o)), some (.int (nI t)), some (.int (if b = true then 1 else 0)), some (.long (w27 op)), none, none, none, none, none, none] [] h = some (some (.int (if hasT op (al b l) (al b (tx ts t)) = true then 1 else 0)), h) := by
  have T := S.1.1
  have hl := S.1.2.1
  have tl := tA3_lt h3
  have rb := R.2.2.1
  obtain ⟨f, fa, f1, f2, -⟩ := rm_str S.1 h3
  have t1 : (nI t).toNatClampNeg = t := nI_clamp (by omega)
  have t2 : (0 : Int32) ≤ nI t := nI_pos' (by omega)
  have t3 : t < 130 := by omega
  have fl := rm_f (d := d + 1) T (s := s) (o := o) (by omega)
  have rd := R.2.2.2 0 (by decide)
  rw [Nat.add_zero] at rd
  rw [rd, show te l 0 = nI l.length from rfl] at fl
  have L := rm_poO (d := d) S R h3 b hop _ 0 none none (Nat.zero_add _)
  rw [hasT_al, ← L]
  cases b with
  | true => simp only [r309_0, r309_1, r309_2, r309_3, r309_6, r309_8, r309_9, r309_12, r309_13, r309_14, r309_16, r309_17, mx_isr_ref, mx_isr_null, mx_wt_nil, mx_wt_1, mx_wt_2, mx_wt_3, Option.bind_some, Option.toList_some, Option.toList_none, List.cons_append, List.nil_append, mx_nl_int, mx_nl_ref, mx_nl_null, mx_nl_none, mx_nb0, mx_nb1, mx_fb0, mx_fb1, mx_cat_int, mx_cat_ref, if_true, if_false, not_true_eq_false, not_false_eq_true, T, fl, mr_ty_77, mr_n_77, mr_isI_77, mr_ty_78, mr_n_78, mr_isI_78, mr_ty_79, mr_n_79, mr_isI_79, mr_ty_80, mr_n_80, mr_isI_80, mr_ty_81, mr_n_81, mr_isI_81, mr_ty_82, mr_n_82, mr_isJ_82, mr_ty_83, mr_n_83, mr_isI_83, mr_ty_84, mr_n_84, mr_isI_84, mr_ty_85, mr_n_85, mr_isI_85, mr_ty_86, mr_n_86, mr_isI_86, mr_ty_87, mr_n_87, mr_isI_87, mr_ty_88, mr_n_88, mr_isI_88, mr_ty_89, mr_n_89, mr_isJ_89, mr_ty_90, mr_n_90, mr_isI_90, mr_ty_91, mr_n_91, mr_isI_91, mr_ty_92, mr_n_92, mr_isI_92, mr_ty_93, mr_n_93, mr_isI_93, mr_ty_94, mr_n_94, mr_isI_94, mr_ty_95, mr_n_95, mr_isI_95, mr_ty_96, mr_n_96, mr_isI_96, mr_ty_97, mr_n_97, mr_isI_97, mr_ty_98, mr_n_98, mr_isI_98, mr_ty_99, mr_n_99, mr_isI_99, mr_ty_100, mr_n_100, mr_isI_100, mr_ty_101, mr_n_101, mr_isI_101, mr_isF_1, mr_isF_3, mr_isF_4, mr_isF_10, mr_isF_12, mr_isF_18, mr_isF_19, mr_isF_21, mr_isF_22, mr_isF_23, mr_isF_26, mr_isF_34, mr_isF_37, mr_isF_38, mr_isF_39, mr_T_up, mr_T_upJ, mr_T_f, t1, t2, t3, f2]; rfl
  | false => simp only [r309_0, r309_1, r309_2, r309_3, r309_6, r309_8, r309_9, r309_12, r309_13, r309_14, r309_16, r309_17, mx_isr_ref, mx_isr_null, mx_wt_nil, mx_wt_1, mx_wt_2, mx_wt_3, Option.bind_some, Option.toList_some, Option.toList_none, List.cons_append, List.nil_append, mx_nl_int, mx_nl_ref, mx_nl_null, mx_nl_none, mx_nb0, mx_nb1, mx_fb0, mx_fb1, mx_cat_int, mx_cat_ref, if_true, if_false, not_true_eq_false, not_false_eq_true, T, fl, mr_ty_77, mr_n_77, mr_isI_77, mr_ty_78, mr_n_78, mr_isI_78, mr_ty_79, mr_n_79, mr_isI_79, mr_ty_80, mr_n_80, mr_isI_80, mr_ty_81, mr_n_81, mr_isI_81, mr_ty_82, mr_n_82, mr_isJ_82, mr_ty_83, mr_n_83, mr_isI_83, mr_ty_84, mr_n_84, mr_isI_84, mr_ty_85, mr_n_85, mr_isI_85, mr_ty_86, mr_n_86, mr_isI_86, mr_ty_87, mr_n_87, mr_isI_87, mr_ty_88, mr_n_88, mr_isI_88, mr_ty_89, mr_n_89, mr_isJ_89, mr_ty_90, mr_n_90, mr_isI_90, mr_ty_91, mr_n_91, mr_isI_91, mr_ty_92, mr_n_92, mr_isI_92, mr_ty_93, mr_n_93, mr_isI_93, mr_ty_94, mr_n_94, mr_isI_94, mr_ty_95, mr_n_95, mr_isI_95, mr_ty_96, mr_n_96, mr_isI_96, mr_ty_97, mr_n_97, mr_isI_97, mr_ty_98, mr_n_98, mr_isI_98, mr_ty_99, mr_n_99, mr_isI_99, mr_ty_100, mr_n_100, mr_isI_100, mr_ty_101, mr_n_101, mr_isI_101, mr_isF_1, mr_isF_3, mr_isF_4, mr_isF_10, mr_isF_12, mr_isF_18, mr_isF_19, mr_isF_21, mr_isF_22, mr_isF_23, mr_isF_26, mr_isF_34, mr_isF_37, mr_isF_38, mr_isF_39, mr_T_up, mr_T_upJ, mr_T_f, t1, t2, t3, f2]; rfl
theorem rm_textHolds (S : rm_TK h ts) {s o t : Nat} {l : List Nat} (R : txR h s o l) (b : Bool) {op : List Nat} (hop : ltr op) (ht : t < 2 ^ 30) (h3 : op = w_pr ∨ (tA ts t).1 = 3) : mx_G (d + 3) 308 0 [some (.ref 76), some (.int (nI s)), some (.int (nI o)), some (.int (nI t)), some (.int (if b = true then 1 else 0)), some (.long (w27 op)), none] [] h = some (some (.int (if hT op (al b l) (al b (tx ts t)) = true then 1 else 0)), h) := by
  have T := S.1.1
  have E := opF hop
  unfold hT
  by_cases c0 : op = w_pr
  · rw [if_pos c0]
    simp only [r308_0, r308_2, r308_5, r308_6, r308_9, r308_11, r308_14, r308_15, r308_18, r308_20, r308_23, r308_24, r308_27, r308_29, r308_32, r308_33, r308_36, r308_37, r308_38, r308_39, r308_40, r308_42, r308_44, r308_47, r308_50, r308_53, r308_54, r308_56, r308_57, r308_58, r308_59, r308_60, r308_62, r308_65, r308_68, r308_71, r308_72, r308_75, r308_76, mx_isr_ref, mx_isr_null, mx_wt_nil, mx_wt_1, mx_wt_2, mx_wt_3, Option.bind_some, Option.toList_some, Option.toList_none, List.cons_append, List.nil_append, mx_nl_int, mx_nl_ref, mx_nl_null, mx_nl_none, mx_nb0, mx_nb1, mx_fb0, mx_fb1, mx_cat_int, mx_cat_ref, if_true, if_false, not_true_eq_false, not_false_eq_true, lg_cmp0, E, eq_true c0]
  · have h3 : (tA ts t).1 = 3 := by rcases h3 with z | z; exact absurd z c0; exact z
    rw [if_neg c0]
    by_cases c1 : op = w_co ∨ op = w_sw ∨ op = w_ew
    · rw [if_pos c1]
      have pr := rm_partOf (d := d) S R h3 b hop
      have st : mx_G (d + 3) 308 0 [some (.ref 76), some (.int (nI s)), some (.int (nI o)), some (.int (nI t)), some (.int (if b = true then 1 else 0)), some (.long (w27 op)), none] [] h = mx_G (d + 3) 308 36 [some (.ref 76), some (.int (nI s)), some (.int (nI o)), some (.int (nI t)), some (.int (if b = true then 1 else 0)), some (.long (w27 op)), none] [] h := by
        rcases c1 with c | c | c
        · simp only [r308_0, r308_2, r308_5, r308_6, r308_9, r308_11, r308_14, r308_15, r308_18, r308_20, r308_23, r308_24, r308_27, r308_29, r308_32, r308_33, mx_isr_ref, mx_isr_null, mx_wt_nil, mx_wt_1, mx_wt_2, mx_wt_3, Option.bind_some, Option.toList_some, Option.toList_none, List.cons_append, List.nil_append, mx_nl_int, mx_nl_ref, mx_nl_null, mx_nl_none, mx_nb0, mx_nb1, mx_fb0, mx_fb1, mx_cat_int, mx_cat_ref, if_true, if_false, not_true_eq_false, not_false_eq_true, lg_cmp0, E, eq_false c0, eq_true c]
        · have n1 : ¬ op = w_co := by rw [c]; decide
          simp only [r308_0, r308_2, r308_5, r308_6, r308_9, r308_11, r308_14, r308_15, r308_18, r308_20, r308_23, r308_24, r308_27, r308_29, r308_32, r308_33, mx_isr_ref, mx_isr_null, mx_wt_nil, mx_wt_1, mx_wt_2, mx_wt_3, Option.bind_some, Option.toList_some, Option.toList_none, List.cons_append, List.nil_append, mx_nl_int, mx_nl_ref, mx_nl_null, mx_nl_none, mx_nb0, mx_nb1, mx_fb0, mx_fb1, mx_cat_int, mx_cat_ref, if_true, if_false, not_true_eq_false, not_false_eq_true, lg_cmp0, E, eq_false c0, eq_false n1, eq_true c]
        · have n1 : ¬ op = w_co := by rw [c]; decide
          have n2 : ¬ op = w_sw := by rw [c]; decide
          simp only [r308_0, r308_2, r308_5, r308_6, r308_9, r308_11, r308_14, r308_15, r308_18, r308_20, r308_23, r308_24, r308_27, r308_29, r308_32, r308_33, mx_isr_ref, mx_isr_null, mx_wt_nil, mx_wt_1, mx_wt_2, mx_wt_3, Option.bind_some, Option.toList_some, Option.toList_none, List.cons_append, List.nil_append, mx_nl_int, mx_nl_ref, mx_nl_null, mx_nl_none, mx_nb0, mx_nb1, mx_fb0, mx_fb1, mx_cat_int, mx_cat_ref, if_true, if_false, not_true_eq_false, not_false_eq_true, lg_cmp0, E, eq_false c0, eq_false n1, eq_false n2, eq_true c]
      rw [st]
      cases z : hasT op (al b l) (al b (tx ts t)) with
      | true => rw [z] at pr; simp only [r308_36, r308_37, r308_38, r308_39, r308_40, r308_42, r308_44, r308_47, r308_50, r308_53, r308_54, r308_56, r308_57, r308_58, r308_59, r308_60, r308_62, r308_65, r308_68, r308_71, r308_72, r308_75, r308_76, mx_isr_ref, mx_isr_null, mx_wt_nil, mx_wt_1, mx_wt_2, mx_wt_3, Option.bind_some, Option.toList_some, Option.toList_none, List.cons_append, List.nil_append, mx_nl_int, mx_nl_ref, mx_nl_null, mx_nl_none, mx_nb0, mx_nb1, mx_fb0, mx_fb1, mx_cat_int, mx_cat_ref, if_true, if_false, not_true_eq_false, not_false_eq_true, T, pr, show ¬ (1 : Int32) = 0 by decide]
      | false => rw [z] at pr; simp only [r308_36, r308_37, r308_38, r308_39, r308_40, r308_42, r308_44, r308_47, r308_50, r308_53, r308_54, r308_56, r308_57, r308_58, r308_59, r308_60, r308_62, r308_65, r308_68, r308_71, r308_72, r308_75, r308_76, mx_isr_ref, mx_isr_null, mx_wt_nil, mx_wt_1, mx_wt_2, mx_wt_3, Option.bind_some, Option.toList_some, Option.toList_none, List.cons_append, List.nil_append, mx_nl_int, mx_nl_ref, mx_nl_null, mx_nl_none, mx_nb0, mx_nb1, mx_fb0, mx_fb1, mx_cat_int, mx_cat_ref, if_true, if_false, not_true_eq_false, not_false_eq_true, T, pr, Bool.false_eq_true]
    · rw [if_neg c1]
      have n1 : ¬ op = w_co := fun z => c1 (Or.inl z)
      have n2 : ¬ op = w_sw := fun z => c1 (Or.inr (Or.inl z))
      have n3 : ¬ op = w_ew := fun z => c1 (Or.inr (Or.inr z))
      obtain ⟨x, r, g⟩ := rm_cmpText (d := d) S R h3 b
      have ak := rm_asks (d := d + 2) (h := h) hop c0 g
      cases z : askO op (cmpL (al b l) (al b (tx ts t))) with
      | true => rw [z] at ak; simp only [r308_0, r308_2, r308_5, r308_6, r308_9, r308_11, r308_14, r308_15, r308_18, r308_20, r308_23, r308_24, r308_27, r308_29, r308_32, r308_33, r308_36, r308_37, r308_38, r308_39, r308_40, r308_42, r308_44, r308_47, r308_50, r308_53, r308_54, r308_56, r308_57, r308_58, r308_59, r308_60, r308_62, r308_65, r308_68, r308_71, r308_72, r308_75, r308_76, mx_isr_ref, mx_isr_null, mx_wt_nil, mx_wt_1, mx_wt_2, mx_wt_3, Option.bind_some, Option.toList_some, Option.toList_none, List.cons_append, List.nil_append, mx_nl_int, mx_nl_ref, mx_nl_null, mx_nl_none, mx_nb0, mx_nb1, mx_fb0, mx_fb1, mx_cat_int, mx_cat_ref, if_true, if_false, not_true_eq_false, not_false_eq_true, T, lg_cmp0, E, eq_false c0, eq_false n1, eq_false n2, eq_false n3, r, ak, show ¬ (1 : Int32) = 0 by decide]
      | false => rw [z] at ak; simp only [r308_0, r308_2, r308_5, r308_6, r308_9, r308_11, r308_14, r308_15, r308_18, r308_20, r308_23, r308_24, r308_27, r308_29, r308_32, r308_33, r308_36, r308_37, r308_38, r308_39, r308_40, r308_42, r308_44, r308_47, r308_50, r308_53, r308_54, r308_56, r308_57, r308_58, r308_59, r308_60, r308_62, r308_65, r308_68, r308_71, r308_72, r308_75, r308_76, mx_isr_ref, mx_isr_null, mx_wt_nil, mx_wt_1, mx_wt_2, mx_wt_3, Option.bind_some, Option.toList_some, Option.toList_none, List.cons_append, List.nil_append, mx_nl_int, mx_nl_ref, mx_nl_null, mx_nl_none, mx_nb0, mx_nb1, mx_fb0, mx_fb1, mx_cat_int, mx_cat_ref, if_true, if_false, not_true_eq_false, not_false_eq_true, T, lg_cmp0, E, eq_false c0, eq_false n1, eq_false n2, eq_false n3, r, ak, Bool.false_eq_true]
theorem nval_int {t : Nat} (hn : numOk (tx ts t)) : (nval (tx ts t)).toInt = tv ts t := by
  obtain ⟨m, h1, h9, hdg, e⟩ := hn
  have b := dvl_9 hdg h9
  unfold nval tv
  rcases e with e | e
  · have nh : ¬ (tx ts t).head? = some 45 := by
      rw [e]
      cases m with
      | nil => simp
      | cons c m =>
        have := hdg c (List.mem_cons_self ..)
        unfold isDig at this
        simp at this ⊢
        omega
    rw [if_neg nh, if_neg nh, e]
    show (lN (dvl m)).toInt = _
    rw [lN_big (by omega)]
  · have nh : (tx ts t).head? = some 45 := by rw [e]; rfl
    rw [if_pos nh, if_pos nh, e]
    show (-lN (dvl m)).toInt = _
    rw [Int64.toInt_neg, lN_big (by omega)]
    simp only [List.tail_cons]
    apply Int.bmod_eq_of_le <;> omega
theorem rm_numberHolds (S : rm_TK h ts) (K : tkOK ts) {t : Nat} {v : Int32} {op : List Nat} (hop : ltr op) (ht : op = w_pr ∨ sc ts t = 1) : mx_G (d + 1) 306 0 [some (.ref 76), some (.int v), some (.int (nI t)), some (.long (w27 op)), none] [] h = some (some (.int (if hN op v.toInt (tv ts t) = true then 1 else 0)), h) := by
  have T := S.1.1
  have hl := S.1.2.1
  have E := opF hop
  unfold hN
  by_cases c0 : op = w_pr
  · rw [if_pos c0]
    simp only [r306_0, r306_1, r306_4, r306_5, r306_8, r306_9, r306_10, r306_11, r306_12, r306_13, r306_16, r306_17, r306_18, r306_19, r306_22, r306_23, r306_26, r306_27, r306_28, r306_29, r306_32, r306_33, r306_34, r306_35, r306_38, r306_39, r306_42, r306_43, r306_46, r306_49, r306_50, r306_53, r306_54, mx_isr_ref, mx_isr_null, mx_wt_nil, mx_wt_1, mx_wt_2, mx_wt_3, Option.bind_some, Option.toList_some, Option.toList_none, List.cons_append, List.nil_append, mx_nl_int, mx_nl_ref, mx_nl_null, mx_nl_none, mx_nb0, mx_nb1, mx_fb0, mx_fb1, mx_cat_int, mx_cat_ref, if_true, if_false, not_true_eq_false, not_false_eq_true, lg_cmp0, E, eq_true c0]
  · have h1 : sc ts t = 1 := by rcases ht with z | z; exact absurd z c0; exact z
    have tl := sc_lt (ts := ts) (t := t) (by omega)
    rw [if_neg c0]
    have t1 : (nI t).toNatClampNeg = t := nI_clamp (by omega)
    have t2 : (0 : Int32) ≤ nI t := nI_pos' (by omega)
    have t3 : t < 130 := by omega
    have nv := (rm_num S.1 h1).2
    have hnum : numOk (tx ts t) := (K.2 _ (tA_mem tl)).2 (sc1_2 h1)
    have ni := nval_int hnum
    have lt1 : (v.toInt64 < nval (tx ts t)) = (v.toInt < tv ts t) := by rw [Int64.lt_iff_toInt_lt, ni, Int32.toInt_toInt64]
    have lt2 : (nval (tx ts t) < v.toInt64) = (tv ts t < v.toInt) := by rw [Int64.lt_iff_toInt_lt, ni, Int32.toInt_toInt64]
    unfold cmpI
    have s1 : sgE (-1) (-1) := sgE_int (by decide) (by decide)
    have s2 : sgE 1 1 := sgE_int (by decide) (by decide)
    have s3 : sgE 0 0 := sgE_int (by decide) (by decide)
    by_cases c1 : v.toInt < tv ts t
    · rw [if_pos c1]
      have ak := rm_asks (d := d) (h := h) hop c0 s1
      cases z : askO op (-1) with
      | true => rw [z] at ak; simp only [r306_0, r306_1, r306_4, r306_5, r306_8, r306_9, r306_10, r306_11, r306_12, r306_13, r306_16, r306_17, r306_18, r306_19, r306_22, r306_23, r306_26, r306_27, r306_28, r306_29, r306_32, r306_33, r306_34, r306_35, r306_38, r306_39, r306_42, r306_43, r306_46, r306_49, r306_50, r306_53, r306_54, mx_isr_ref, mx_isr_null, mx_wt_nil, mx_wt_1, mx_wt_2, mx_wt_3, Option.bind_some, Option.toList_some, Option.toList_none, List.cons_append, List.nil_append, mx_nl_int, mx_nl_ref, mx_nl_null, mx_nl_none, mx_nb0, mx_nb1, mx_fb0, mx_fb1, mx_cat_int, mx_cat_ref, if_true, if_false, not_true_eq_false, not_false_eq_true, T, lg_cmp0, E, eq_false c0, mr_ty_77, mr_n_77, mr_isI_77, mr_ty_78, mr_n_78, mr_isI_78, mr_ty_79, mr_n_79, mr_isI_79, mr_ty_80, mr_n_80, mr_isI_80, mr_ty_81, mr_n_81, mr_isI_81, mr_ty_82, mr_n_82, mr_isJ_82, mr_ty_83, mr_n_83, mr_isI_83, mr_ty_84, mr_n_84, mr_isI_84, mr_ty_85, mr_n_85, mr_isI_85, mr_ty_86, mr_n_86, mr_isI_86, mr_ty_87, mr_n_87, mr_isI_87, mr_ty_88, mr_n_88, mr_isI_88, mr_ty_89, mr_n_89, mr_isJ_89, mr_ty_90, mr_n_90, mr_isI_90, mr_ty_91, mr_n_91, mr_isI_91, mr_ty_92, mr_n_92, mr_isI_92, mr_ty_93, mr_n_93, mr_isI_93, mr_ty_94, mr_n_94, mr_isI_94, mr_ty_95, mr_n_95, mr_isI_95, mr_ty_96, mr_n_96, mr_isI_96, mr_ty_97, mr_n_97, mr_isI_97, mr_ty_98, mr_n_98, mr_isI_98, mr_ty_99, mr_n_99, mr_isI_99, mr_ty_100, mr_n_100, mr_isI_100, mr_ty_101, mr_n_101, mr_isI_101, mr_isF_1, mr_isF_3, mr_isF_4, mr_isF_10, mr_isF_12, mr_isF_18, mr_isF_19, mr_isF_21, mr_isF_22, mr_isF_23, mr_isF_26, mr_isF_34, mr_isF_37, mr_isF_38, mr_isF_39, mr_T_up, mr_T_upJ, mr_T_f, t1, t2, t3, nv, lg_ge, lt1, eq_true c1, ak, show ¬ (1 : Int32) = 0 by decide]
      | false => rw [z] at ak; simp only [r306_0, r306_1, r306_4, r306_5, r306_8, r306_9, r306_10, r306_11, r306_12, r306_13, r306_16, r306_17, r306_18, r306_19, r306_22, r306_23, r306_26, r306_27, r306_28, r306_29, r306_32, r306_33, r306_34, r306_35, r306_38, r306_39, r306_42, r306_43, r306_46, r306_49, r306_50, r306_53, r306_54, mx_isr_ref, mx_isr_null, mx_wt_nil, mx_wt_1, mx_wt_2, mx_wt_3, Option.bind_some, Option.toList_some, Option.toList_none, List.cons_append, List.nil_append, mx_nl_int, mx_nl_ref, mx_nl_null, mx_nl_none, mx_nb0, mx_nb1, mx_fb0, mx_fb1, mx_cat_int, mx_cat_ref, if_true, if_false, not_true_eq_false, not_false_eq_true, T, lg_cmp0, E, eq_false c0, mr_ty_77, mr_n_77, mr_isI_77, mr_ty_78, mr_n_78, mr_isI_78, mr_ty_79, mr_n_79, mr_isI_79, mr_ty_80, mr_n_80, mr_isI_80, mr_ty_81, mr_n_81, mr_isI_81, mr_ty_82, mr_n_82, mr_isJ_82, mr_ty_83, mr_n_83, mr_isI_83, mr_ty_84, mr_n_84, mr_isI_84, mr_ty_85, mr_n_85, mr_isI_85, mr_ty_86, mr_n_86, mr_isI_86, mr_ty_87, mr_n_87, mr_isI_87, mr_ty_88, mr_n_88, mr_isI_88, mr_ty_89, mr_n_89, mr_isJ_89, mr_ty_90, mr_n_90, mr_isI_90, mr_ty_91, mr_n_91, mr_isI_91, mr_ty_92, mr_n_92, mr_isI_92, mr_ty_93, mr_n_93, mr_isI_93, mr_ty_94, mr_n_94, mr_isI_94, mr_ty_95, mr_n_95, mr_isI_95, mr_ty_96, mr_n_96, mr_isI_96, mr_ty_97, mr_n_97, mr_isI_97, mr_ty_98, mr_n_98, mr_isI_98, mr_ty_99, mr_n_99, mr_isI_99, mr_ty_100, mr_n_100, mr_isI_100, mr_ty_101, mr_n_101, mr_isI_101, mr_isF_1, mr_isF_3, mr_isF_4, mr_isF_10, mr_isF_12, mr_isF_18, mr_isF_19, mr_isF_21, mr_isF_22, mr_isF_23, mr_isF_26, mr_isF_34, mr_isF_37, mr_isF_38, mr_isF_39, mr_T_up, mr_T_upJ, mr_T_f, t1, t2, t3, nv, lg_ge, lt1, eq_true c1, ak, Bool.false_eq_true]
    · rw [if_neg c1]
      by_cases c2 : tv ts t < v.toInt
      · rw [if_pos c2]
        have ak := rm_asks (d := d) (h := h) hop c0 s2
        cases z : askO op 1 with
        | true => rw [z] at ak; simp only [r306_0, r306_1, r306_4, r306_5, r306_8, r306_9, r306_10, r306_11, r306_12, r306_13, r306_16, r306_17, r306_18, r306_19, r306_22, r306_23, r306_26, r306_27, r306_28, r306_29, r306_32, r306_33, r306_34, r306_35, r306_38, r306_39, r306_42, r306_43, r306_46, r306_49, r306_50, r306_53, r306_54, mx_isr_ref, mx_isr_null, mx_wt_nil, mx_wt_1, mx_wt_2, mx_wt_3, Option.bind_some, Option.toList_some, Option.toList_none, List.cons_append, List.nil_append, mx_nl_int, mx_nl_ref, mx_nl_null, mx_nl_none, mx_nb0, mx_nb1, mx_fb0, mx_fb1, mx_cat_int, mx_cat_ref, if_true, if_false, not_true_eq_false, not_false_eq_true, T, lg_cmp0, E, eq_false c0, mr_ty_77, mr_n_77, mr_isI_77, mr_ty_78, mr_n_78, mr_isI_78, mr_ty_79, mr_n_79, mr_isI_79, mr_ty_80, mr_n_80, mr_isI_80, mr_ty_81, mr_n_81, mr_isI_81, mr_ty_82, mr_n_82, mr_isJ_82, mr_ty_83, mr_n_83, mr_isI_83, mr_ty_84, mr_n_84, mr_isI_84, mr_ty_85, mr_n_85, mr_isI_85, mr_ty_86, mr_n_86, mr_isI_86, mr_ty_87, mr_n_87, mr_isI_87, mr_ty_88, mr_n_88, mr_isI_88, mr_ty_89, mr_n_89, mr_isJ_89, mr_ty_90, mr_n_90, mr_isI_90, mr_ty_91, mr_n_91, mr_isI_91, mr_ty_92, mr_n_92, mr_isI_92, mr_ty_93, mr_n_93, mr_isI_93, mr_ty_94, mr_n_94, mr_isI_94, mr_ty_95, mr_n_95, mr_isI_95, mr_ty_96, mr_n_96, mr_isI_96, mr_ty_97, mr_n_97, mr_isI_97, mr_ty_98, mr_n_98, mr_isI_98, mr_ty_99, mr_n_99, mr_isI_99, mr_ty_100, mr_n_100, mr_isI_100, mr_ty_101, mr_n_101, mr_isI_101, mr_isF_1, mr_isF_3, mr_isF_4, mr_isF_10, mr_isF_12, mr_isF_18, mr_isF_19, mr_isF_21, mr_isF_22, mr_isF_23, mr_isF_26, mr_isF_34, mr_isF_37, mr_isF_38, mr_isF_39, mr_T_up, mr_T_upJ, mr_T_f, t1, t2, t3, nv, lg_ge, lg_le, lt1, lt2, eq_false c1, eq_true c2, ak, show ¬ (1 : Int32) = 0 by decide]
        | false => rw [z] at ak; simp only [r306_0, r306_1, r306_4, r306_5, r306_8, r306_9, r306_10, r306_11, r306_12, r306_13, r306_16, r306_17, r306_18, r306_19, r306_22, r306_23, r306_26, r306_27, r306_28, r306_29, r306_32, r306_33, r306_34, r306_35, r306_38, r306_39, r306_42, r306_43, r306_46, r306_49, r306_50, r306_53, r306_54, mx_isr_ref, mx_isr_null, mx_wt_nil, mx_wt_1, mx_wt_2, mx_wt_3, Option.bind_some, Option.toList_some, Option.toList_none, List.cons_append, List.nil_append, mx_nl_int, mx_nl_ref, mx_nl_null, mx_nl_none, mx_nb0, mx_nb1, mx_fb0, mx_fb1, mx_cat_int, mx_cat_ref, if_true, if_false, not_true_eq_false, not_false_eq_true, T, lg_cmp0, E, eq_false c0, mr_ty_77, mr_n_77, mr_isI_77, mr_ty_78, mr_n_78, mr_isI_78, mr_ty_79, mr_n_79, mr_isI_79, mr_ty_80, mr_n_80, mr_isI_80, mr_ty_81, mr_n_81, mr_isI_81, mr_ty_82, mr_n_82, mr_isJ_82, mr_ty_83, mr_n_83, mr_isI_83, mr_ty_84, mr_n_84, mr_isI_84, mr_ty_85, mr_n_85, mr_isI_85, mr_ty_86, mr_n_86, mr_isI_86, mr_ty_87, mr_n_87, mr_isI_87, mr_ty_88, mr_n_88, mr_isI_88, mr_ty_89, mr_n_89, mr_isJ_89, mr_ty_90, mr_n_90, mr_isI_90, mr_ty_91, mr_n_91, mr_isI_91, mr_ty_92, mr_n_92, mr_isI_92, mr_ty_93, mr_n_93, mr_isI_93, mr_ty_94, mr_n_94, mr_isI_94, mr_ty_95, mr_n_95, mr_isI_95, mr_ty_96, mr_n_96, mr_isI_96, mr_ty_97, mr_n_97, mr_isI_97, mr_ty_98, mr_n_98, mr_isI_98, mr_ty_99, mr_n_99, mr_isI_99, mr_ty_100, mr_n_100, mr_isI_100, mr_ty_101, mr_n_101, mr_isI_101, mr_isF_1, mr_isF_3, mr_isF_4, mr_isF_10, mr_isF_12, mr_isF_18, mr_isF_19, mr_isF_21, mr_isF_22, mr_isF_23, mr_isF_26, mr_isF_34, mr_isF_37, mr_isF_38, mr_isF_39, mr_T_up, mr_T_upJ, mr_T_f, t1, t2, t3, nv, lg_ge, lg_le, lt1, lt2, eq_false c1, eq_true c2, ak, Bool.false_eq_true]
      · rw [if_neg c2]
        have ak := rm_asks (d := d) (h := h) hop c0 s3
        cases z : askO op 0 with
        | true => rw [z] at ak; simp only [r306_0, r306_1, r306_4, r306_5, r306_8, r306_9, r306_10, r306_11, r306_12, r306_13, r306_16, r306_17, r306_18, r306_19, r306_22, r306_23, r306_26, r306_27, r306_28, r306_29, r306_32, r306_33, r306_34, r306_35, r306_38, r306_39, r306_42, r306_43, r306_46, r306_49, r306_50, r306_53, r306_54, mx_isr_ref, mx_isr_null, mx_wt_nil, mx_wt_1, mx_wt_2, mx_wt_3, Option.bind_some, Option.toList_some, Option.toList_none, List.cons_append, List.nil_append, mx_nl_int, mx_nl_ref, mx_nl_null, mx_nl_none, mx_nb0, mx_nb1, mx_fb0, mx_fb1, mx_cat_int, mx_cat_ref, if_true, if_false, not_true_eq_false, not_false_eq_true, T, lg_cmp0, E, eq_false c0, mr_ty_77, mr_n_77, mr_isI_77, mr_ty_78, mr_n_78, mr_isI_78, mr_ty_79, mr_n_79, mr_isI_79, mr_ty_80, mr_n_80, mr_isI_80, mr_ty_81, mr_n_81, mr_isI_81, mr_ty_82, mr_n_82, mr_isJ_82, mr_ty_83, mr_n_83, mr_isI_83, mr_ty_84, mr_n_84, mr_isI_84, mr_ty_85, mr_n_85, mr_isI_85, mr_ty_86, mr_n_86, mr_isI_86, mr_ty_87, mr_n_87, mr_isI_87, mr_ty_88, mr_n_88, mr_isI_88, mr_ty_89, mr_n_89, mr_isJ_89, mr_ty_90, mr_n_90, mr_isI_90, mr_ty_91, mr_n_91, mr_isI_91, mr_ty_92, mr_n_92, mr_isI_92, mr_ty_93, mr_n_93, mr_isI_93, mr_ty_94, mr_n_94, mr_isI_94, mr_ty_95, mr_n_95, mr_isI_95, mr_ty_96, mr_n_96, mr_isI_96, mr_ty_97, mr_n_97, mr_isI_97, mr_ty_98, mr_n_98, mr_isI_98, mr_ty_99, mr_n_99, mr_isI_99, mr_ty_100, mr_n_100, mr_isI_100, mr_ty_101, mr_n_101, mr_isI_101, mr_isF_1, mr_isF_3, mr_isF_4, mr_isF_10, mr_isF_12, mr_isF_18, mr_isF_19, mr_isF_21, mr_isF_22, mr_isF_23, mr_isF_26, mr_isF_34, mr_isF_37, mr_isF_38, mr_isF_39, mr_T_up, mr_T_upJ, mr_T_f, t1, t2, t3, nv, lg_ge, lg_le, lt1, lt2, eq_false c1, eq_false c2, ak, show ¬ (1 : Int32) = 0 by decide]
        | false => rw [z] at ak; simp only [r306_0, r306_1, r306_4, r306_5, r306_8, r306_9, r306_10, r306_11, r306_12, r306_13, r306_16, r306_17, r306_18, r306_19, r306_22, r306_23, r306_26, r306_27, r306_28, r306_29, r306_32, r306_33, r306_34, r306_35, r306_38, r306_39, r306_42, r306_43, r306_46, r306_49, r306_50, r306_53, r306_54, mx_isr_ref, mx_isr_null, mx_wt_nil, mx_wt_1, mx_wt_2, mx_wt_3, Option.bind_some, Option.toList_some, Option.toList_none, List.cons_append, List.nil_append, mx_nl_int, mx_nl_ref, mx_nl_null, mx_nl_none, mx_nb0, mx_nb1, mx_fb0, mx_fb1, mx_cat_int, mx_cat_ref, if_true, if_false, not_true_eq_false, not_false_eq_true, T, lg_cmp0, E, eq_false c0, mr_ty_77, mr_n_77, mr_isI_77, mr_ty_78, mr_n_78, mr_isI_78, mr_ty_79, mr_n_79, mr_isI_79, mr_ty_80, mr_n_80, mr_isI_80, mr_ty_81, mr_n_81, mr_isI_81, mr_ty_82, mr_n_82, mr_isJ_82, mr_ty_83, mr_n_83, mr_isI_83, mr_ty_84, mr_n_84, mr_isI_84, mr_ty_85, mr_n_85, mr_isI_85, mr_ty_86, mr_n_86, mr_isI_86, mr_ty_87, mr_n_87, mr_isI_87, mr_ty_88, mr_n_88, mr_isI_88, mr_ty_89, mr_n_89, mr_isJ_89, mr_ty_90, mr_n_90, mr_isI_90, mr_ty_91, mr_n_91, mr_isI_91, mr_ty_92, mr_n_92, mr_isI_92, mr_ty_93, mr_n_93, mr_isI_93, mr_ty_94, mr_n_94, mr_isI_94, mr_ty_95, mr_n_95, mr_isI_95, mr_ty_96, mr_n_96, mr_isI_96, mr_ty_97, mr_n_97, mr_isI_97, mr_ty_98, mr_n_98, mr_isI_98, mr_ty_99, mr_n_99, mr_isI_99, mr_ty_100, mr_n_100, mr_isI_100, mr_ty_101, mr_n_101, mr_isI_101, mr_isF_1, mr_isF_3, mr_isF_4, mr_isF_10, mr_isF_12, mr_isF_18, mr_isF_19, mr_isF_21, mr_isF_22, mr_isF_23, mr_isF_26, mr_isF_34, mr_isF_37, mr_isF_38, mr_isF_39, mr_T_up, mr_T_upJ, mr_T_f, t1, t2, t3, nv, lg_ge, lg_le, lt1, lt2, eq_false c1, eq_false c2, ak, Bool.false_eq_true]
theorem rm_truthHolds (S : rm_TK h ts) {t : Nat} (ht : t < 2 ^ 30) {x : Bool} {op : List Nat} (hop : ltr op) : mx_G (d + 2) 312 0 [some (.ref 76), some (.int (nI (pB (some x)))), some (.int (nI t)), some (.long (w27 op)), none] [] h = some (some (.int (if hB op x (tb ts t) = true then 1 else 0)), h) := by
  have T := S.1.1
  have E := opF hop
  have tr := rm_truthOf (d := d) S ht
  unfold hB
  by_cases c0 : op = w_pr
  · rw [if_pos c0]
    simp only [r312_0, r312_1, r312_4, r312_5, r312_8, r312_9, r312_10, r312_11, r312_14, r312_17, r312_18, r312_21, r312_22, mx_isr_ref, mx_isr_null, mx_wt_nil, mx_wt_1, mx_wt_2, mx_wt_3, Option.bind_some, Option.toList_some, Option.toList_none, List.cons_append, List.nil_append, mx_nl_int, mx_nl_ref, mx_nl_null, mx_nl_none, mx_nb0, mx_nb1, mx_fb0, mx_fb1, mx_cat_int, mx_cat_ref, if_true, if_false, not_true_eq_false, not_false_eq_true, lg_cmp0, E, eq_true c0]
  · rw [if_neg c0]
    by_cases c1 : x = tb ts t
    · have e : nI (pB (some x)) = nI (pB (some (tb ts t))) := by rw [c1]
      rw [show (x == tb ts t) = true from beq_iff_eq.2 c1]
      simp only [r312_0, r312_1, r312_4, r312_5, r312_8, r312_9, r312_10, r312_11, r312_14, r312_17, r312_18, r312_21, r312_22, mx_isr_ref, mx_isr_null, mx_wt_nil, mx_wt_1, mx_wt_2, mx_wt_3, Option.bind_some, Option.toList_some, Option.toList_none, List.cons_append, List.nil_append, mx_nl_int, mx_nl_ref, mx_nl_null, mx_nl_none, mx_nb0, mx_nb1, mx_fb0, mx_fb1, mx_cat_int, mx_cat_ref, if_true, if_false, not_true_eq_false, not_false_eq_true, T, lg_cmp0, E, eq_false c0, tr, eq_true e]
    · have e : ¬ nI (pB (some x)) = nI (pB (some (tb ts t))) := fun z => c1 (by have := pB_inj z; cases this; rfl)
      rw [show (x == tb ts t) = false from beq_eq_false_iff_ne.2 c1]
      simp only [r312_0, r312_1, r312_4, r312_5, r312_8, r312_9, r312_10, r312_11, r312_14, r312_17, r312_18, r312_21, r312_22, mx_isr_ref, mx_isr_null, mx_wt_nil, mx_wt_1, mx_wt_2, mx_wt_3, Option.bind_some, Option.toList_some, Option.toList_none, List.cons_append, List.nil_append, mx_nl_int, mx_nl_ref, mx_nl_null, mx_nl_none, mx_nb0, mx_nb1, mx_fb0, mx_fb1, mx_cat_int, mx_cat_ref, if_true, if_false, not_true_eq_false, not_false_eq_true, T, lg_cmp0, E, eq_false c0, tr, e, Bool.false_eq_true]
end
