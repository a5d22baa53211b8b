section
variable {d : Nat} {h : mx_H} {ts : List tk}
theorem lN_32 (n : Nat) : (lN n).toInt32 = Int32.ofInt (n : Int) := by
  unfold lN
  rw [Int64.toInt32_ofNat']
  unfold Int32.ofInt Int32.ofNat
  rw [BitVec.ofInt_natCast]
theorem nval_32 (l : List Nat) : (nval l).toInt32 = Int32.ofInt (if l.head? = some 45 then - (dvl l.tail : Int) else (dvl l : Int)) := by
  unfold nval
  split
  · rw [Int64.toInt32_neg, lN_32, Int32.ofInt_neg]; rfl
  · rw [lN_32]; rfl
theorem sc1_2 {t : Nat} (h : sc ts t = 1) : (tA ts t).1 = 2 := by
  unfold sc at h
  split at h
  · assumption
  · split at h
    · cases h
    · split at h <;> cases h
theorem rm_num (S : rm_TS h ts) {t : Nat} (h1 : sc ts t = 1) : (ml h 82 t).toInt32 = Int32.ofInt (tv ts t) ∧ ml h 82 t = nval (tx ts t) := by
  have h2 := sc1_2 h1
  have hk := S.2.2.2 t (sc_lt (by omega))
  rw [show ts.getD t (0, []) = tA ts t from rfl] at hk
  rcases hk with ⟨a, -⟩ | ⟨-, -, a⟩ | ⟨a, -⟩ | ⟨a, -⟩
  · omega
  · refine ⟨?_, a⟩
    rw [a, nval_32]; rfl
  · omega
  · omega
theorem rm_setAttr (S : rm_TK h ts) (K : tkOK ts) {p : prs} (W : wkP h p) {u : Int64} {v : Nat} (hv : v < 2 ^ 30) (h1 : u = 276647 → ftx ts v = true) (h2 : u = 923 → sc ts v = 1) :
    ∃ h', mx_G (d + 2) 276 0 [some (.ref 76), some (.long u), none, some (.int (nI v))] [] h = some (none, h') ∧ mf P77 h h' ∧ wkP h' (if u = 276647 then sNm p (tx ts v) else if u = 923 then sAg p (some (tv ts v)) else if u = 419 then sOn p (some (tb ts v)) else p) := by
  have T := S.1.1
  have hl := S.1.2.1
  have h4 := W.2.2.2.1
  by_cases c1 : u = 276647
  · have f := h1 c1
    have f3 := ftx_3 f
    obtain ⟨h', r, m, g⟩ := rm_setText (d := d) S (t := v) (o := 2) f3 (by decide)
    rw [show nI 2 = 2 from rfl] at r
    have T' := m.1
    refine ⟨h', ?_, m, ?_⟩
    · subst c1
      simp only [r276_0, r276_1, r276_4, r276_5, r276_8, r276_9, r276_10, r276_11, r276_14, r276_15, r276_18, r276_19, r276_22, r276_23, r276_25, r276_27, r276_28, r276_31, r276_32, r276_34, r276_36, r276_37, r276_40, r276_41, r276_42, r276_43, r276_46, r276_47, r276_50, r276_51, r276_54, r276_55, r276_57, r276_59, r276_60, r276_63, r276_64, r276_66, r276_68, r276_69, r276_70, r276_73, r276_76, mx_isr_ref, mx_isr_null, mx_wt_nil, mx_wt_1, mx_wt_2, mx_wt_3, Option.bind_some, Option.toList_some, Option.toList_none, List.cons_append, List.nil_append, mx_nl_int, mx_nl_ref, mx_nl_null, mx_nl_none, mx_nb0, mx_nb1, mx_fb0, mx_fb1, mx_cat_int, mx_cat_ref, if_true, if_false, not_true_eq_false, not_false_eq_true, T, T', r, lg_cmp0, show ¬ ((276647 : Int64) = 923) by decide, show ¬ ((276647 : Int64) = 419) by decide]
    · rw [if_pos c1]
      refine ⟨rc_hd W.1 rfl (fun o ho => ?_) (fun i h1 h2 => by rw [g, if_neg (by omega)]) h4, Or.inr (ftx_ok K f), W.2.2⟩
      rw [g]
      by_cases c : 2 ≤ o ∧ o < 15
      · rw [if_pos (by omega), pe_nm' c.1 c.2]
        rw [show 80 * 8 + o - (640 + 2) = o - 2 by omega]
      · rw [if_neg (by omega), pe_nm (by omega)]
        exact W.1.1 o ho
  · by_cases c2 : u = 923
    · have f := h2 c2
      have vl := sc_lt (ts := ts) (t := v) (by omega)
      have t1 : (nI v).toNatClampNeg = v := nI_clamp (by omega)
      have t2 : (0 : Int32) ≤ nI v := nI_pos' (by omega)
      have t3 : v < 130 := by omega
      have s1 := rm_set (d := d + 1) T (s := 8) (o := 15) (v := 1) (by decide)
      rw [show nI 8 = 8 from rfl, show nI 15 = 15 from rfl] at s1
      have m1 : mf P77 h (mx_up h 77 (80 * 8 + 15) (.int 1)) := mf_up (mf_rfl T) (by decide) (P77_t (by decide))
      have T1 := m1.1
      have nv := (rm_num (TS_mf S.1 m1 tk77) f).1
      have s2 := rm_set (d := d + 1) T1 (s := 8) (o := 16) (v := Int32.ofInt (tv ts v)) (by decide)
      rw [show nI 8 = 8 from rfl, show nI 16 = 16 from rfl] at s2
      have m2 : mf P77 h (mx_up (mx_up h 77 (80 * 8 + 15) (.int 1)) 77 (80 * 8 + 16) (.int (Int32.ofInt (tv ts v)))) := mf_up m1 (by decide) (P77_t (by decide))
      have T2 := m2.1
      refine ⟨_, ?_, m2, ?_⟩
      · subst c2
        simp only [r276_0, r276_1, r276_4, r276_5, r276_8, r276_9, r276_10, r276_11, r276_14, r276_15, r276_18, r276_19, r276_22, r276_23, r276_25, r276_27, r276_28, r276_31, r276_32, r276_34, r276_36, r276_37, r276_40, r276_41, r276_42, r276_43, r276_46, r276_47, r276_50, r276_51, r276_54, r276_55, r276_57, r276_59, r276_60, r276_63, r276_64, r276_66, r276_68, r276_69, r276_70, r276_73, r276_76, mx_isr_ref, mx_isr_null, mx_wt_nil, mx_wt_1, mx_wt_2, mx_wt_3, Option.bind_some, Option.toList_some, Option.toList_none, List.cons_append, List.nil_append, mx_nl_int, mx_nl_ref, mx_nl_null, mx_nl_none, mx_nb0, mx_nb1, mx_fb0, mx_fb1, mx_cat_int, mx_cat_ref, if_true, if_false, not_true_eq_false, not_false_eq_true, T, T1, T2, s1, s2, nv, mr_ty_77, mr_n_77, mr_isI_77, mr_ty_78, mr_n_78, mr_isI_78, mr_ty_79, mr_n_79, mr_isI_79, mr_ty_80, mr_n_80, mr_isI_80, mr_ty_81, mr_n_81, mr_isI_81, mr_ty_82, mr_n_82, mr_isJ_82, mr_ty_83, mr_n_83, mr_isI_83, mr_ty_84, mr_n_84, mr_isI_84, mr_ty_85, mr_n_85, mr_isI_85, mr_ty_86, mr_n_86, mr_isI_86, mr_ty_87, mr_n_87, mr_isI_87, mr_ty_88, mr_n_88, mr_isI_88, mr_ty_89, mr_n_89, mr_isJ_89, mr_ty_90, mr_n_90, mr_isI_90, mr_ty_91, mr_n_91, mr_isI_91, mr_ty_92, mr_n_92, mr_isI_92, mr_ty_93, mr_n_93, mr_isI_93, mr_ty_94, mr_n_94, mr_isI_94, mr_ty_95, mr_n_95, mr_isI_95, mr_ty_96, mr_n_96, mr_isI_96, mr_ty_97, mr_n_97, mr_isI_97, mr_ty_98, mr_n_98, mr_isI_98, mr_ty_99, mr_n_99, mr_isI_99, mr_ty_100, mr_n_100, mr_isI_100, mr_ty_101, mr_n_101, mr_isI_101, mr_isF_1, mr_isF_3, mr_isF_4, mr_isF_10, mr_isF_12, mr_isF_18, mr_isF_19, mr_isF_21, mr_isF_22, mr_isF_23, mr_isF_26, mr_isF_34, mr_isF_37, mr_isF_38, mr_isF_39, mr_T_up, mr_T_upJ, mr_T_f, t1, t2, t3, lg_cmp0, show ¬ ((923 : Int64) = 276647) by decide, show ¬ ((923 : Int64) = 419) by decide]
      · rw [if_neg c1, if_pos c2]
        refine ⟨rc_hd W.1 rfl (fun o ho => ?_) (fun i h1 h2 => by rw [mi_r T1 (by decide), if_neg (by omega), mi_r T (by decide), if_neg (by omega)]) h4, W.2.1, fun x hx => by cases hx; exact tv_ok K f, W.2.2.2⟩
        rw [mi_r T1 (by decide), mi_r T (by decide)]
        by_cases c : o = 16
        · subst c; rfl
        · rw [if_neg (by omega)]
          by_cases c' : o = 15
          · subst c'; rfl
          · rw [if_neg (by omega), pe_ag c' c]
            exact W.1.1 o ho
    · by_cases c3 : u = 419
      · have s1 := rm_set (d := d + 1) T (s := 8) (o := 17) (v := 1) (by decide)
        rw [show nI 8 = 8 from rfl, show nI 17 = 17 from rfl] at s1
        have m1 : mf P77 h (mx_up h 77 (80 * 8 + 17) (.int 1)) := mf_up (mf_rfl T) (by decide) (P77_t (by decide))
        have T1 := m1.1
        have tr := rm_truthOf (d := d) (TK_mf S m1 tk77) (t := v) hv
        have s2 := rm_set (d := d + 1) T1 (s := 8) (o := 18) (v := nI (pB (some (tb ts v)))) (by decide)
        rw [show nI 8 = 8 from rfl, show nI 18 = 18 from rfl] at s2
        have m2 : mf P77 h (mx_up (mx_up h 77 (80 * 8 + 17) (.int 1)) 77 (80 * 8 + 18) (.int (nI (pB (some (tb ts v)))))) := mf_up m1 (by decide) (P77_t (by decide))
        have T2 := m2.1
        refine ⟨_, ?_, m2, ?_⟩
        · subst c3
          simp only [r276_0, r276_1, r276_4, r276_5, r276_8, r276_9, r276_10, r276_11, r276_14, r276_15, r276_18, r276_19, r276_22, r276_23, r276_25, r276_27, r276_28, r276_31, r276_32, r276_34, r276_36, r276_37, r276_40, r276_41, r276_42, r276_43, r276_46, r276_47, r276_50, r276_51, r276_54, r276_55, r276_57, r276_59, r276_60, r276_63, r276_64, r276_66, r276_68, r276_69, r276_70, r276_73, r276_76, mx_isr_ref, mx_isr_null, mx_wt_nil, mx_wt_1, mx_wt_2, mx_wt_3, Option.bind_some, Option.toList_some, Option.toList_none, List.cons_append, List.nil_append, mx_nl_int, mx_nl_ref, mx_nl_null, mx_nl_none, mx_nb0, mx_nb1, mx_fb0, mx_fb1, mx_cat_int, mx_cat_ref, if_true, if_false, not_true_eq_false, not_false_eq_true, T, T1, T2, s1, s2, tr, lg_cmp0, show ¬ ((419 : Int64) = 276647) by decide, show ¬ ((419 : Int64) = 923) by decide]
        · rw [if_neg c1, if_neg c2, if_pos c3]
          refine ⟨rc_hd W.1 rfl (fun o ho => ?_) (fun i h1 h2 => by rw [mi_r T1 (by decide), if_neg (by omega), mi_r T (by decide), if_neg (by omega)]) h4, W.2⟩
          rw [mi_r T1 (by decide), mi_r T (by decide)]
          by_cases c : o = 18
          · subst c; rfl
          · rw [if_neg (by omega)]
            by_cases c' : o = 17
            · subst c'; rfl
            · rw [if_neg (by omega), pe_on c' c]
              exact W.1.1 o ho
      · refine ⟨h, ?_, mf_rfl T, ?_⟩
        · simp only [r276_0, r276_1, r276_4, r276_5, r276_8, r276_9, r276_10, r276_11, r276_14, r276_15, r276_18, r276_19, r276_22, r276_23, r276_25, r276_27, r276_28, r276_31, r276_32, r276_34, r276_36, r276_37, r276_40, r276_41, r276_42, r276_43, r276_46, r276_47, r276_50, r276_51, r276_54, r276_55, r276_57, r276_59, r276_60, r276_63, r276_64, r276_66, r276_68, r276_69, r276_70, r276_73, r276_76, mx_isr_ref, mx_isr_null, mx_wt_nil, mx_wt_1, mx_wt_2, mx_wt_3, Option.bind_some, Option.toList_some, Option.toList_none, List.cons_append, List.nil_append, mx_nl_int, mx_nl_ref, mx_nl_null, mx_nl_none, mx_nb0, mx_nb1, mx_fb0, mx_fb1, mx_cat_int, mx_cat_ref, if_true, if_false, not_true_eq_false, not_false_eq_true, lg_cmp0, c1, c2, c3]
        · rw [if_neg c1, if_neg c2, if_neg c3]; exact W
theorem rm_fill0 {t y l4 l5 l6 : Option Value} {x : Int32} : mx_G (d + 1) 261 30 [some (.ref 76), t, some (.int 0), some (.int x), l4, l5, l6] [] h = some (some (.int 0), h) := by
  by_cases c : x < 0
  · simp only [r261_30, r261_31, r261_170, r261_171, r261_188, r261_189, mx_isr_ref, mx_isr_null, mx_wt_nil, mx_wt_1, mx_wt_2, mx_wt_3, Option.bind_some, Option.toList_some, Option.toList_none, List.cons_append, List.nil_append, mx_nl_int, mx_nl_ref, mx_nl_null, mx_nl_none, mx_nb0, mx_nb1, mx_fb0, mx_fb1, mx_cat_int, mx_cat_ref, if_true, if_false, not_true_eq_false, not_false_eq_true, c]
  · simp only [r261_30, r261_31, r261_34, r261_35, r261_170, r261_171, r261_188, r261_189, mx_isr_ref, mx_isr_null, mx_wt_nil, mx_wt_1, mx_wt_2, mx_wt_3, Option.bind_some, Option.toList_some, Option.toList_none, List.cons_append, List.nil_append, mx_nl_int, mx_nl_ref, mx_nl_null, mx_nl_none, mx_nb0, mx_nb1, mx_fb0, mx_fb1, mx_cat_int, mx_cat_ref, if_true, if_false, not_true_eq_false, not_false_eq_true, c]
theorem rm_fillL (S : rm_TK h ts) (K : tkOK ts) {t : Nat} : ∀ l p h1 l4 l5 l6, chn ts 3 true l → (∀ m ∈ l, vOk ts (m + 2)) → wkP h1 p → mf P79 h h1 →
    ∃ h', mx_G (d + 7) 261 30 [some (.ref 76), some (.int (nI t)), some (.int 1), some (.int (nx l)), l4, l5, l6] [] h1 = some (some (.int (match fS ts l p with | none => 0 | some q => if pnm q = [] then 0 else 1)), h') ∧ mf P79 h h' ∧ ∀ q, fS ts l p = some q → wkP h' q := by
  have hl := S.1.2.1
  intro l
  induction l with
  | nil =>
    intro p h1 l4 l5 l6 _ _ W m
    have T := m.1
    refine ⟨h1, ?_, m, fun q hq => by cases hq; exact W⟩
    have f2 := rm_f (d := d + 6) T (s := 8) (o := 2) (by decide)
    rw [W.1.1 2 (by decide), show nI 8 = 8 from rfl, show nI 2 = 2 from rfl, show pe p 2 = nI (pnm p).length from rfl] at f2
    rw [r261_30, r261_31, if_pos nx_n]
    by_cases c : pnm p = []
    · have e : nI (pnm p).length ≤ 0 := by rw [c]; decide
      simp only [r261_170, r261_171, r261_174, r261_175, r261_177, r261_178, r261_181, r261_184, r261_185, r261_188, r261_189, mx_isr_ref, mx_isr_null, mx_wt_nil, mx_wt_1, mx_wt_2, mx_wt_3, Option.bind_some, Option.toList_some, Option.toList_none, List.cons_append, List.nil_append, mx_nl_int, mx_nl_ref, mx_nl_null, mx_nl_none, mx_nb0, mx_nb1, mx_fb0, mx_fb1, mx_cat_int, mx_cat_ref, if_true, if_false, not_true_eq_false, not_false_eq_true, T, f2, e, fS, eq_true c, show ¬ (1 : Int32) = 0 by decide]
    · have e : ¬ nI (pnm p).length ≤ 0 := nI_nle (List.length_pos_iff.2 c) (by rcases W.2.1 with z | z; exact absurd z c; have := z.2.1; omega)
      simp only [r261_170, r261_171, r261_174, r261_175, r261_177, r261_178, r261_181, r261_184, r261_185, r261_188, r261_189, mx_isr_ref, mx_isr_null, mx_wt_nil, mx_wt_1, mx_wt_2, mx_wt_3, Option.bind_some, Option.toList_some, Option.toList_none, List.cons_append, List.nil_append, mx_nl_int, mx_nl_ref, mx_nl_null, mx_nl_none, mx_nb0, mx_nb1, mx_fb0, mx_fb1, mx_cat_int, mx_cat_ref, if_true, if_false, not_true_eq_false, not_false_eq_true, T, f2, e, fS, c, show ¬ (1 : Int32) = 0 by decide]
  | cons x l ih =>
    intro p h1 l4 l5 l6 hc hv W m
    have T := m.1
    have S1 := TK_mf S m tk79
    have hm := isMem_1 (hc.1 rfl)
    have xl := tI_lt (by decide) hm.2
    have hvx := hv x (List.mem_cons_self ..)
    have hv' : ∀ m ∈ l, vOk ts (m + 2) := fun y hy => hv y (List.mem_cons_of_mem _ hy)
    have n1 : ¬ nx (x :: l) < 0 := nx_nn (by omega) l
    have nm := rm_nameOf (d := d + 4) S1 hm.1
    have e2 : nI x + 2 = nI (x + 2) := nI_add x 2
    have ft := rm_fits (d := d + 4) S1 (t := x + 2) (by omega)
    have sca := rm_scalar (d := d + 5) S1 (t := x + 2) (by omega)
    have sc4 := sc_lt4 (ts := ts) (x + 2)
    -- the way on when it is good
    have good : ∀ (h2 : mx_H) (p' q : prs), mf P79 h h2 → wkP h2 p' → (nmV ts x = 276647 → ftx ts (x + 2) = true) → (nmV ts x = 923 → sc ts (x + 2) = 1) →
        q = (if nmV ts x = 276647 then sNm p' (tx ts (x + 2)) else if nmV ts x = 923 then sAg p' (some (tv ts (x + 2))) else if nmV ts x = 419 then sOn p' (some (tb ts (x + 2))) else p') → fS ts (x :: l) p = fS ts l q →
        ∃ h', mx_G (d + 7) 261 142 [some (.ref 76), some (.int (nI t)), some (.int 1), some (.int (nI x)), some (.long (nmV ts x)), none, some (.int (nI (x + 2)))] [] h2 = some (some (.int (match fS ts (x :: l) p with | none => 0 | some q => if pnm q = [] then 0 else 1)), h') ∧ mf P79 h h' ∧ ∀ q, fS ts (x :: l) p = some q → wkP h' q := by
      intro h2 p' q m2 W2 g1 g2 hq hf
      obtain ⟨h3, r3, m3, W3⟩ := rm_setAttr (d := d + 4) (TK_mf S m2 tk79) K W2 (u := nmV ts x) (v := x + 2) (by omega) g1 g2
      rw [← hq] at W3
      have m3' := mf_trans m2 (mf_mono w79 m3)
      have T2 := m2.1
      have T3 := m3.1
      have af : mx_G (d + 6) 257 0 [some (.ref 76), some (.int (nI x)), some (.int 1), none] [] h3 = some (some (.int (nx l)), h3) := rm_after (d := d + 4) (TS_mf S.1 m3' tk79) hc
      obtain ⟨h', r', m', g'⟩ := ih q h3 (some (.long (nmV ts x))) none (some (.int (nI (x + 2)))) hc.2.2 hv' W3 m3'
      rw [hf]
      refine ⟨h', ?_, m', g'⟩
      rw [← r']
      simp only [r261_142, r261_143, r261_146, r261_147, r261_148, r261_149, r261_152, r261_153, r261_155, r261_157, r261_160, r261_161, r261_162, r261_163, r261_166, r261_167, mx_isr_ref, mx_isr_null, mx_wt_nil, mx_wt_1, mx_wt_2, mx_wt_3, Option.bind_some, Option.toList_some, Option.toList_none, List.cons_append, List.nil_append, mx_nl_int, mx_nl_ref, mx_nl_null, mx_nl_none, mx_nb0, mx_nb1, mx_fb0, mx_fb1, mx_cat_int, mx_cat_ref, if_true, if_false, not_true_eq_false, not_false_eq_true, T2, T3, r3, af, show ¬ (1 : Int32) = 0 by decide]
    have bad : ∀ h2, mf P79 h h2 → mx_G (d + 7) 261 146 [some (.ref 76), some (.int (nI t)), some (.int 1), some (.int (nI x)), some (.long (nmV ts x)), none, some (.int (nI (x + 2)))] [] h2 = some (some (.int 0), h2) := by
      intro h2 m2
      have T2 := m2.1
      have af : mx_G (d + 6) 257 0 [some (.ref 76), some (.int (nI x)), some (.int 1), none] [] h2 = some (some (.int (nx l)), h2) := rm_after (d := d + 4) (TS_mf S.1 m2 tk79) hc
      have b0 := rm_fill0 (d := d + 6) (h := h2) (t := some (.int (nI t))) (y := none) (l4 := some (.long (nmV ts x))) (l5 := none) (l6 := some (.int (nI (x + 2)))) (x := nx l)
      rw [← b0]
      simp only [r261_146, r261_147, r261_148, r261_149, r261_152, r261_153, r261_155, r261_157, r261_160, r261_161, r261_162, r261_163, r261_166, r261_167, mx_isr_ref, mx_isr_null, mx_wt_nil, mx_wt_1, mx_wt_2, mx_wt_3, Option.bind_some, Option.toList_some, Option.toList_none, List.cons_append, List.nil_append, mx_nl_int, mx_nl_ref, mx_nl_null, mx_nl_none, mx_nb0, mx_nb1, mx_fb0, mx_fb1, mx_cat_int, mx_cat_ref, if_true, if_false, not_true_eq_false, not_false_eq_true, T2, af]
    rw [r261_30, r261_31, if_neg n1]
    rw [show nx (x :: l) = nI x from rfl]
    have z1 : ∀ {a b : List Nat}, nmf ts x = a → a ≠ b → ¬ nmf ts x = b := fun h1 h2 h3 => h2 (h1.symm.trans h3)
    by_cases ci : nmf ts x = w_id ∨ nmf ts x = w_version
    · have k1 : ¬ nmf ts x = w_name := by rcases ci with c | c; exact z1 c (by decide); exact z1 c (by decide)
      have k2 : ¬ nmf ts x = w_age := by rcases ci with c | c; exact z1 c (by decide); exact z1 c (by decide)
      have k3 : ¬ nmf ts x = w_on := by rcases ci with c | c; exact z1 c (by decide); exact z1 c (by decide)
      obtain ⟨h', r, m', g⟩ := good h1 p p m W (fun z => absurd ((nmV_name x).mp z) k1) (fun z => absurd ((nmV_age x).mp z) k2) (by simp only [nmV_name, nmV_age, nmV_on, k1, k2, k3, if_false]) (by rw [fS, if_pos ci])
      refine ⟨h', ?_, m', g⟩
      rw [← r]
      by_cases ci' : nmf ts x = w_id
      · simp only [r261_34, r261_35, r261_38, r261_39, r261_40, r261_43, r261_45, r261_46, r261_47, r261_48, r261_50, r261_52, r261_55, r261_56, mx_isr_ref, mx_isr_null, mx_wt_nil, mx_wt_1, mx_wt_2, mx_wt_3, Option.bind_some, Option.toList_some, Option.toList_none, List.cons_append, List.nil_append, mx_nl_int, mx_nl_ref, mx_nl_null, mx_nl_none, mx_nb0, mx_nb1, mx_fb0, mx_fb1, mx_cat_int, mx_cat_ref, if_true, if_false, not_true_eq_false, not_false_eq_true, T, nm, e2, lg_cmp0, nmV_id, eq_true ci', show ¬ (1 : Int32) = 0 by decide]
      · have ci2 : nmf ts x = w_version := by rcases ci with c | c; exact absurd c ci'; exact c
        simp only [r261_34, r261_35, r261_38, r261_39, r261_40, r261_43, r261_45, r261_46, r261_47, r261_48, r261_50, r261_52, r261_55, r261_56, r261_59, r261_61, r261_64, r261_65, mx_isr_ref, mx_isr_null, mx_wt_nil, mx_wt_1, mx_wt_2, mx_wt_3, Option.bind_some, Option.toList_some, Option.toList_none, List.cons_append, List.nil_append, mx_nl_int, mx_nl_ref, mx_nl_null, mx_nl_none, mx_nb0, mx_nb1, mx_fb0, mx_fb1, mx_cat_int, mx_cat_ref, if_true, if_false, not_true_eq_false, not_false_eq_true, T, nm, e2, lg_cmp0, nmV_id, nmV_ver, eq_false ci', eq_true ci2, show ¬ (1 : Int32) = 0 by decide]
    · have i1 : ¬ nmf ts x = w_id := fun z => ci (Or.inl z)
      have i2 : ¬ nmf ts x = w_version := fun z => ci (Or.inr z)
      by_cases c1 : nmf ts x = w_name
      · have k2 := z1 c1 (b := w_age) (by decide)
        have k3 := z1 c1 (b := w_on) (by decide)
        have k4 := z1 c1 (b := w_mail) (by decide)
        cases zf : ftx ts (x + 2) with
        | true =>
          rw [zf] at ft
          obtain ⟨h', r, m', g⟩ := good h1 p (sNm p (tx ts (x + 2))) m W (fun _ => zf) (fun z => absurd ((nmV_age x).mp z) k2) (by simp only [nmV_name, c1, if_true]) (by rw [fS, if_neg ci, if_pos c1, if_pos zf])
          refine ⟨h', ?_, m', g⟩
          rw [← r]
          simp only [r261_34, r261_35, r261_38, r261_39, r261_40, r261_43, r261_45, r261_46, r261_47, r261_48, r261_50, r261_52, r261_55, r261_56, r261_59, r261_61, r261_64, r261_65, r261_68, r261_70, r261_73, r261_74, r261_77, r261_78, r261_80, r261_83, mx_isr_ref, mx_isr_null, mx_wt_nil, mx_wt_1, mx_wt_2, mx_wt_3, Option.bind_some, Option.toList_some, Option.toList_none, List.cons_append, List.nil_append, mx_nl_int, mx_nl_ref, mx_nl_null, mx_nl_none, mx_nb0, mx_nb1, mx_fb0, mx_fb1, mx_cat_int, mx_cat_ref, if_true, if_false, not_true_eq_false, not_false_eq_true, T, nm, e2, lg_cmp0, nmV_id, nmV_ver, nmV_name, eq_false i1, eq_false i2, eq_true c1, ft, show ¬ (1 : Int32) = 0 by decide]
        | false =>
          rw [zf] at ft
          have e : fS ts (x :: l) p = none := by rw [fS, if_neg ci, if_pos c1, if_neg (by rw [zf]; decide)]
          rw [e]
          refine ⟨h1, ?_, m, fun q hq => by cases hq⟩
          rw [← bad h1 m]
          simp only [r261_34, r261_35, r261_38, r261_39, r261_40, r261_43, r261_45, r261_46, r261_47, r261_48, r261_50, r261_52, r261_55, r261_56, r261_59, r261_61, r261_64, r261_65, r261_68, r261_70, r261_73, r261_74, r261_77, r261_78, r261_80, r261_83, r261_86, r261_88, r261_91, r261_92, r261_95, r261_96, r261_98, r261_101, r261_102, r261_105, r261_107, r261_110, r261_111, r261_114, r261_115, r261_117, r261_120, r261_121, r261_124, r261_126, r261_129, r261_130, r261_133, r261_134, r261_136, r261_139, mx_isr_ref, mx_isr_null, mx_wt_nil, mx_wt_1, mx_wt_2, mx_wt_3, Option.bind_some, Option.toList_some, Option.toList_none, List.cons_append, List.nil_append, mx_nl_int, mx_nl_ref, mx_nl_null, mx_nl_none, mx_nb0, mx_nb1, mx_fb0, mx_fb1, mx_cat_int, mx_cat_ref, if_true, if_false, not_true_eq_false, not_false_eq_true, T, nm, e2, lg_cmp0, nmV_id, nmV_ver, nmV_name, nmV_age, nmV_on, nmV_mail, eq_false i1, eq_false i2, eq_true c1, eq_false k2, eq_false k3, eq_false k4, ft, Bool.false_eq_true, show ¬ (1 : Int32) = 0 by decide]
      · by_cases c2 : nmf ts x = w_age
        · have k3 := z1 c2 (b := w_on) (by decide)
          have k4 := z1 c2 (b := w_mail) (by decide)
          by_cases zf : sc ts (x + 2) = 1
          · rw [zf] at sca
            obtain ⟨h', r, m', g⟩ := good h1 p (sAg p (some (tv ts (x + 2)))) m W (fun z => absurd ((nmV_name x).mp z) c1) (fun _ => zf) (by simp only [nmV_name, nmV_age, eq_false c1, eq_true c2, if_true, if_false]) (by rw [fS, if_neg ci, if_neg c1, if_pos c2, if_pos zf])
            refine ⟨h', ?_, m', g⟩
            rw [← r]
            simp only [r261_34, r261_35, r261_38, r261_39, r261_40, r261_43, r261_45, r261_46, r261_47, r261_48, r261_50, r261_52, r261_55, r261_56, r261_59, r261_61, r261_64, r261_65, r261_68, r261_70, r261_73, r261_74, r261_77, r261_78, r261_80, r261_83, r261_86, r261_88, r261_91, r261_92, r261_95, r261_96, r261_98, r261_101, r261_102, mx_isr_ref, mx_isr_null, mx_wt_nil, mx_wt_1, mx_wt_2, mx_wt_3, Option.bind_some, Option.toList_some, Option.toList_none, List.cons_append, List.nil_append, mx_nl_int, mx_nl_ref, mx_nl_null, mx_nl_none, mx_nb0, mx_nb1, mx_fb0, mx_fb1, mx_cat_int, mx_cat_ref, if_true, if_false, not_true_eq_false, not_false_eq_true, T, nm, e2, lg_cmp0, nmV_id, nmV_ver, nmV_name, nmV_age, eq_false i1, eq_false i2, eq_false c1, eq_true c2, sca, show nI 1 = 1 from rfl, show ¬ (1 : Int32) = 0 by decide]
          · have e3 : ¬ nI (sc ts (x + 2)) = 1 := fun z => zf ((nI_eq (b := 1) (by omega) (by decide)).mp z)
            have e : fS ts (x :: l) p = none := by rw [fS, if_neg ci, if_neg c1, if_pos c2, if_neg zf]
            rw [e]
            refine ⟨h1, ?_, m, fun q hq => by cases hq⟩
            rw [← bad h1 m]
            simp only [r261_34, r261_35, r261_38, r261_39, r261_40, r261_43, r261_45, r261_46, r261_47, r261_48, r261_50, r261_52, r261_55, r261_56, r261_59, r261_61, r261_64, r261_65, r261_68, r261_70, r261_73, r261_74, r261_77, r261_78, r261_80, r261_83, r261_86, r261_88, r261_91, r261_92, r261_95, r261_96, r261_98, r261_101, r261_102, r261_105, r261_107, r261_110, r261_111, r261_114, r261_115, r261_117, r261_120, r261_121, r261_124, r261_126, r261_129, r261_130, r261_133, r261_134, r261_136, r261_139, mx_isr_ref, mx_isr_null, mx_wt_nil, mx_wt_1, mx_wt_2, mx_wt_3, Option.bind_some, Option.toList_some, Option.toList_none, List.cons_append, List.nil_append, mx_nl_int, mx_nl_ref, mx_nl_null, mx_nl_none, mx_nb0, mx_nb1, mx_fb0, mx_fb1, mx_cat_int, mx_cat_ref, if_true, if_false, not_true_eq_false, not_false_eq_true, T, nm, e2, lg_cmp0, nmV_id, nmV_ver, nmV_name, nmV_age, nmV_on, nmV_mail, eq_false i1, eq_false i2, eq_false c1, eq_true c2, eq_false k3, eq_false k4, sca, e3, show ¬ (1 : Int32) = 0 by decide]
        · by_cases c3 : nmf ts x = w_on
          · have k4 := z1 c3 (b := w_mail) (by decide)
            by_cases zf : sc ts (x + 2) = 3
            · rw [zf] at sca
              obtain ⟨h', r, m', g⟩ := good h1 p (sOn p (some (tb ts (x + 2)))) m W (fun z => absurd ((nmV_name x).mp z) c1) (fun z => absurd ((nmV_age x).mp z) c2) (by simp only [nmV_name, nmV_age, nmV_on, eq_false c1, eq_false c2, eq_true c3, if_true, if_false]) (by rw [fS, if_neg ci, if_neg c1, if_neg c2, if_pos c3, if_pos zf])
              refine ⟨h', ?_, m', g⟩
              rw [← r]
              simp only [r261_34, r261_35, r261_38, r261_39, r261_40, r261_43, r261_45, r261_46, r261_47, r261_48, r261_50, r261_52, r261_55, r261_56, r261_59, r261_61, r261_64, r261_65, r261_68, r261_70, r261_73, r261_74, r261_77, r261_78, r261_80, r261_83, r261_86, r261_88, r261_91, r261_92, r261_95, r261_96, r261_98, r261_101, r261_102, r261_105, r261_107, r261_110, r261_111, r261_114, r261_115, r261_117, r261_120, r261_121, mx_isr_ref, mx_isr_null, mx_wt_nil, mx_wt_1, mx_wt_2, mx_wt_3, Option.bind_some, Option.toList_some, Option.toList_none, List.cons_append, List.nil_append, mx_nl_int, mx_nl_ref, mx_nl_null, mx_nl_none, mx_nb0, mx_nb1, mx_fb0, mx_fb1, mx_cat_int, mx_cat_ref, if_true, if_false, not_true_eq_false, not_false_eq_true, T, nm, e2, lg_cmp0, nmV_id, nmV_ver, nmV_name, nmV_age, nmV_on, eq_false i1, eq_false i2, eq_false c1, eq_false c2, eq_true c3, sca, show nI 3 = 3 from rfl, show ¬ (1 : Int32) = 0 by decide]
            · have e3 : ¬ nI (sc ts (x + 2)) = 3 := fun z => zf ((nI_eq (b := 3) (by omega) (by decide)).mp z)
              have e : fS ts (x :: l) p = none := by rw [fS, if_neg ci, if_neg c1, if_neg c2, if_pos c3, if_neg zf]
              rw [e]
              refine ⟨h1, ?_, m, fun q hq => by cases hq⟩
              rw [← bad h1 m]
              simp only [r261_34, r261_35, r261_38, r261_39, r261_40, r261_43, r261_45, r261_46, r261_47, r261_48, r261_50, r261_52, r261_55, r261_56, r261_59, r261_61, r261_64, r261_65, r261_68, r261_70, r261_73, r261_74, r261_77, r261_78, r261_80, r261_83, r261_86, r261_88, r261_91, r261_92, r261_95, r261_96, r261_98, r261_101, r261_102, r261_105, r261_107, r261_110, r261_111, r261_114, r261_115, r261_117, r261_120, r261_121, r261_124, r261_126, r261_129, r261_130, r261_133, r261_134, r261_136, r261_139, mx_isr_ref, mx_isr_null, mx_wt_nil, mx_wt_1, mx_wt_2, mx_wt_3, Option.bind_some, Option.toList_some, Option.toList_none, List.cons_append, List.nil_append, mx_nl_int, mx_nl_ref, mx_nl_null, mx_nl_none, mx_nb0, mx_nb1, mx_fb0, mx_fb1, mx_cat_int, mx_cat_ref, if_true, if_false, not_true_eq_false, not_false_eq_true, T, nm, e2, lg_cmp0, nmV_id, nmV_ver, nmV_name, nmV_age, nmV_on, nmV_mail, eq_false i1, eq_false i2, eq_false c1, eq_false c2, eq_true c3, eq_false k4, sca, e3, show ¬ (1 : Int32) = 0 by decide]
          · by_cases c4 : nmf ts x = w_mail
            · obtain ⟨h2, r2, m2, gh, gw⟩ := rm_fillItems (d := d) S1 K hvx
              have m2' := mf_trans m m2
              have T2 := m2.1
              have e : fS ts (x :: l) p = (iA ts (x + 2)).bind fun x => if x.length ≤ 4 ∧ twn x = false ∧ trs x < 2 then fS ts l (sIt p x) else none := by rw [fS, if_neg ci, if_neg c1, if_neg c2, if_neg c3, if_pos c4]
              have nope : fS ts (x :: l) p = none → mx_G (d + 6) 264 0 [some (.ref 76), some (.int (nI (x + 2))), none, none] [] h1 = some (some (.int 0), h2) → ∃ h', mx_G (d + 7) 261 34 [some (.ref 76), some (.int (nI t)), some (.int 1), some (.int (nI x)), l4, l5, l6] [] h1 = some (some (.int (match fS ts (x :: l) p with | none => 0 | some q => if pnm q = [] then 0 else 1)), h') ∧ mf P79 h h' ∧ ∀ q, fS ts (x :: l) p = some q → wkP h' q := by
                intro en rn
                rw [en]
                refine ⟨h2, ?_, m2', fun q hq => by cases hq⟩
                rw [← bad h2 m2']
                simp only [r261_34, r261_35, r261_38, r261_39, r261_40, r261_43, r261_45, r261_46, r261_47, r261_48, r261_50, r261_52, r261_55, r261_56, r261_59, r261_61, r261_64, r261_65, r261_68, r261_70, r261_73, r261_74, r261_77, r261_78, r261_80, r261_83, r261_86, r261_88, r261_91, r261_92, r261_95, r261_96, r261_98, r261_101, r261_102, r261_105, r261_107, r261_110, r261_111, r261_114, r261_115, r261_117, r261_120, r261_121, r261_124, r261_126, r261_129, r261_130, r261_133, r261_134, r261_136, r261_139, mx_isr_ref, mx_isr_null, mx_wt_nil, mx_wt_1, mx_wt_2, mx_wt_3, Option.bind_some, Option.toList_some, Option.toList_none, List.cons_append, List.nil_append, mx_nl_int, mx_nl_ref, mx_nl_null, mx_nl_none, mx_nb0, mx_nb1, mx_fb0, mx_fb1, mx_cat_int, mx_cat_ref, if_true, if_false, not_true_eq_false, not_false_eq_true, T, T2, nm, e2, lg_cmp0, nmV_id, nmV_ver, nmV_name, nmV_age, nmV_on, nmV_mail, eq_false i1, eq_false i2, eq_false c1, eq_false c2, eq_false c3, eq_true c4, rn, show ¬ (1 : Int32) = 0 by decide]
              cases za : iA ts (x + 2) with
              | none =>
                rw [za] at r2 e
                exact nope e r2
              | some y =>
                rw [za] at r2 e
                have e : fS ts (x :: l) p = if y.length ≤ 4 ∧ twn y = false ∧ trs y < 2 then fS ts l (sIt p y) else none := e
                by_cases cy : y.length ≤ 4 ∧ twn y = false ∧ trs y < 2
                · rw [if_pos cy] at e
                  have r2 : mx_G (d + 6) 264 0 [some (.ref 76), some (.int (nI (x + 2))), none, none] [] h1 = some (some (.int 1), h2) := by rw [r2]; simp only [if_pos cy]
                  have W8 := gw y za cy.1
                  have W2 : wkP h2 (sIt p y) := by
                    refine ⟨⟨fun o ho => ?_, W8.2.2.2⟩, W.2.1, W.2.2.1, W8.1, W8.2.2.1, cy.2.1⟩
                    by_cases c : o = 19
                    · subst c; exact W8.2.1
                    · rw [gh _ (by omega), pe_it (by omega)]
                      exact W.1.1 o ho
                  obtain ⟨h', r, m', g⟩ := good h2 (sIt p y) (sIt p y) m2' W2 (fun z => absurd ((nmV_name x).mp z) c1) (fun z => absurd ((nmV_age x).mp z) c2) (by simp only [nmV_name, nmV_age, nmV_on, c1, c2, c3, if_false]) e
                  refine ⟨h', ?_, m', g⟩
                  rw [← r]
                  simp only [r261_34, r261_35, r261_38, r261_39, r261_40, r261_43, r261_45, r261_46, r261_47, r261_48, r261_50, r261_52, r261_55, r261_56, r261_59, r261_61, r261_64, r261_65, r261_68, r261_70, r261_73, r261_74, r261_77, r261_78, r261_80, r261_83, r261_86, r261_88, r261_91, r261_92, r261_95, r261_96, r261_98, r261_101, r261_102, r261_105, r261_107, r261_110, r261_111, r261_114, r261_115, r261_117, r261_120, r261_121, r261_124, r261_126, r261_129, r261_130, r261_133, r261_134, r261_136, r261_139, mx_isr_ref, mx_isr_null, mx_wt_nil, mx_wt_1, mx_wt_2, mx_wt_3, Option.bind_some, Option.toList_some, Option.toList_none, List.cons_append, List.nil_append, mx_nl_int, mx_nl_ref, mx_nl_null, mx_nl_none, mx_nb0, mx_nb1, mx_fb0, mx_fb1, mx_cat_int, mx_cat_ref, if_true, if_false, not_true_eq_false, not_false_eq_true, T, T2, nm, e2, lg_cmp0, nmV_id, nmV_ver, nmV_name, nmV_age, nmV_on, nmV_mail, eq_false i1, eq_false i2, eq_false c1, eq_false c2, eq_false c3, eq_true c4, r2, show ¬ (1 : Int32) = 0 by decide]
                · rw [if_neg cy] at e
                  exact nope e (by rw [r2]; simp only [if_neg cy])
            · have e : fS ts (x :: l) p = none := by rw [fS, if_neg ci, if_neg c1, if_neg c2, if_neg c3, if_neg c4]
              rw [e]
              refine ⟨h1, ?_, m, fun q hq => by cases hq⟩
              rw [← bad h1 m]
              simp only [r261_34, r261_35, r261_38, r261_39, r261_40, r261_43, r261_45, r261_46, r261_47, r261_48, r261_50, r261_52, r261_55, r261_56, r261_59, r261_61, r261_64, r261_65, r261_68, r261_70, r261_73, r261_74, r261_77, r261_78, r261_80, r261_83, r261_86, r261_88, r261_91, r261_92, r261_95, r261_96, r261_98, r261_101, r261_102, r261_105, r261_107, r261_110, r261_111, r261_114, r261_115, r261_117, r261_120, r261_121, r261_124, r261_126, r261_129, r261_130, r261_133, r261_134, r261_136, r261_139, mx_isr_ref, mx_isr_null, mx_wt_nil, mx_wt_1, mx_wt_2, mx_wt_3, Option.bind_some, Option.toList_some, Option.toList_none, List.cons_append, List.nil_append, mx_nl_int, mx_nl_ref, mx_nl_null, mx_nl_none, mx_nb0, mx_nb1, mx_fb0, mx_fb1, mx_cat_int, mx_cat_ref, if_true, if_false, not_true_eq_false, not_false_eq_true, T, nm, e2, lg_cmp0, nmV_id, nmV_ver, nmV_name, nmV_age, nmV_on, nmV_mail, eq_false i1, eq_false i2, eq_false c1, eq_false c2, eq_false c3, eq_false c4, show ¬ (1 : Int32) = 0 by decide]
theorem rm_fillZ {t : Int32} {l3 l4 l5 l6 : Option Value} : ∀ n k h1, k + n = 80 → 2 ≤ k → mf P79 h h1 → ∃ h', mx_G (d + 1) 261 2 [some (.ref 76), some (.int t), some (.int (nI k)), l3, l4, l5, l6] [] h1 = mx_G (d + 1) 261 22 [some (.ref 76), some (.int t), some (.int (nI 80)), l3, l4, l5, l6] [] h' ∧ mf P79 h h' ∧ ∀ i, mi h' 77 i = if 640 + k ≤ i ∧ i < 720 then 0 else mi h1 77 i := by
  intro n
  induction n with
  | zero =>
    intro k h1 hk h2 m
    have : k = 80 := by omega
    subst this
    refine ⟨h1, ?_, m, fun i => by rw [if_neg (by omega)]⟩
    simp only [r261_2, r261_3, r261_5, mx_isr_ref, mx_isr_null, mx_wt_nil, mx_wt_1, mx_wt_2, mx_wt_3, Option.bind_some, Option.toList_some, Option.toList_none, List.cons_append, List.nil_append, mx_nl_int, mx_nl_ref, mx_nl_null, mx_nl_none, mx_nb0, mx_nb1, mx_fb0, mx_fb1, mx_cat_int, mx_cat_ref, if_true, if_false, not_true_eq_false, not_false_eq_true, show (80 : Int32) ≤ nI 80 by decide]
  | succ n ih =>
    intro k h1 hk h2 m
    have T := m.1
    have e1 : ¬ (80 : Int32) ≤ nI k := nI_ge (b := 80) (by omega) (by decide)
    have s1 := rm_set (d := d) T (s := 8) (o := k) (v := 0) (by omega)
    rw [show nI 8 = 8 from rfl] at s1
    have m1 : mf P79 h (mx_up h1 77 (80 * 8 + k) (.int 0)) := mf_up m (by decide) (P79_t (by omega))
    obtain ⟨h', r, m', g⟩ := ih (k + 1) _ (by omega) (by omega) m1
    refine ⟨h', ?_, m', fun i => ?_⟩
    · rw [← r, r261_2]
      simp only [r261_3, r261_5, r261_8, r261_9, r261_11, r261_12, r261_13, r261_16, r261_19, mx_isr_ref, mx_isr_null, mx_wt_nil, mx_wt_1, mx_wt_2, mx_wt_3, Option.bind_some, Option.toList_some, Option.toList_none, List.cons_append, List.nil_append, mx_nl_int, mx_nl_ref, mx_nl_null, mx_nl_none, mx_nb0, mx_nb1, mx_fb0, mx_fb1, mx_cat_int, mx_cat_ref, if_true, if_false, not_true_eq_false, not_false_eq_true, T, e1, s1, nI_1]
    · rw [g, mi_r T (by omega)]
      by_cases c : 640 + k ≤ i ∧ i < 720
      · rw [if_pos c]
        by_cases c2 : 640 + (k + 1) ≤ i ∧ i < 720
        · rw [if_pos c2]
        · rw [if_neg c2, if_pos (by omega)]
      · rw [if_neg c, if_neg (by omega), if_neg (by omega)]
theorem rm_fill (S : rm_TK h ts) (K : tkOK ts) {t id ver : Nat} (hv : vOk ts t) (ho : tI ts t 123 = true) (h0 : mi h 77 640 = nI id) (h1 : mi h 77 641 = nI ver) :
    ∃ h', mx_G (d + 7) 261 0 [some (.ref 76), some (.int (nI t)), none, none, none, none, none] [] h = some (some (.int (if (fP ts t id ver).isSome = true then 1 else 0)), h') ∧ mf P79 h h' ∧ ∀ p, fP ts t id ver = some p → rcP h' 8 p := by
  have T := S.1.1
  have hl := S.1.2.1
  obtain ⟨hz, rz, mz, gz⟩ := rm_fillZ (d := d + 6) (t := nI t) (l3 := none) (l4 := none) (l5 := none) (l6 := none) 78 2 h rfl (by decide) (mf_rfl T)
  have Tz := mz.1
  have Sz := TK_mf S mz tk79
  have hv2 := hv
  obtain ⟨e, hE, -⟩ := hv2
  have fi := rm_first (d := d + 5) Sz.1 (by omega) hE (Or.inl ho)
  have W : wkP hz (id, ver, [], none, none, []) := by
    refine ⟨⟨fun o ho => ?_, fun k hk => by cases hk⟩, Or.inl rfl, fun v hv => (by cases hv), (show (0 : Nat) ≤ 4 by decide), fun x hx => (by cases hx), rfl⟩
    rw [gz]
    by_cases c0 : o = 0
    · subst c0; rw [if_neg (by omega)]; exact h0
    · by_cases c1 : o = 1
      · subst c1; rw [if_neg (by omega)]; exact h1
      · rw [if_pos (by omega)]
        unfold pe
        rw [if_neg c0, if_neg c1]
        by_cases c2 : o < 15
        · rw [if_pos c2]
          unfold te
          split
          · rfl
          · rfl
        · rw [if_neg c2]
          by_cases c3 : o = 15
          · rw [if_pos c3]; rfl
          · rw [if_neg c3]
            by_cases c4 : o = 16
            · rw [if_pos c4]; rfl
            · rw [if_neg c4]
              by_cases c5 : o = 17
              · rw [if_pos c5]; rfl
              · rw [if_neg c5]
                by_cases c6 : o = 18
                · rw [if_pos c6]; rfl
                · rw [if_neg c6]; rfl
  obtain ⟨h', r, m', g⟩ := rm_fillL (d := d) S K (t := t) (kd ts t) _ hz none none none (kd_chn.1 ho) (fun m hm => ((vOk_obj hv ho).2 m hm).2) W mz
  refine ⟨h', ?_, m', fun p hp => ?_⟩
  · have e1 : (if (fP ts t id ver).isSome = true then (1 : Int32) else 0) = (match fS ts (kd ts t) (id, ver, [], none, none, []) with | none => 0 | some q => if pnm q = [] then 0 else 1) := by
      unfold fP
      cases fS ts (kd ts t) (id, ver, [], none, none, []) with
      | none => rfl
      | some q =>
        by_cases c : pnm q = []
        · simp [c]
        · simp [c]
    rw [e1, ← r]
    have st : mx_G (d + 7) 261 0 [some (.ref 76), some (.int (nI t)), none, none, none, none, none] [] h = mx_G (d + 7) 261 2 [some (.ref 76), some (.int (nI t)), some (.int (nI 2)), none, none, none, none] [] h := by simp only [r261_0, r261_1, mx_isr_ref, mx_isr_null, mx_wt_nil, mx_wt_1, mx_wt_2, mx_wt_3, Option.bind_some, Option.toList_some, Option.toList_none, List.cons_append, List.nil_append, mx_nl_int, mx_nl_ref, mx_nl_null, mx_nl_none, mx_nb0, mx_nb1, mx_fb0, mx_fb1, mx_cat_int, mx_cat_ref, if_true, if_false, not_true_eq_false, not_false_eq_true]; rfl
    rw [st, rz]
    simp only [r261_22, r261_23, r261_24, r261_25, r261_26, r261_29, mx_isr_ref, mx_isr_null, mx_wt_nil, mx_wt_1, mx_wt_2, mx_wt_3, Option.bind_some, Option.toList_some, Option.toList_none, List.cons_append, List.nil_append, mx_nl_int, mx_nl_ref, mx_nl_null, mx_nl_none, mx_nb0, mx_nb1, mx_fb0, mx_fb1, mx_cat_int, mx_cat_ref, if_true, if_false, not_true_eq_false, not_false_eq_true, Tz, fi]
  · unfold fP at hp
    cases z : fS ts (kd ts t) (id, ver, [], none, none, []) with
    | none => rw [z] at hp; cases hp
    | some q =>
      rw [z] at hp
      have hp : (if pnm q = [] then none else some q) = some p := hp
      split at hp
      · cases hp
      · cases hp; exact (g _ z).1
end
