section
variable {d : Nat} {h : mx_H} {ts : List tk}
theorem rm_opL (S : rm_TK h ts) (K : tkOK ts) {out : List stp} {l : List opr} (O : opsR h ts out l) (l40 : 3 * l.length ≤ ts.length + 1) (o1 : out.length ≤ ts.length) {k v : Int32} : ∀ n j p h1, j + n = l.length → rcP h1 8 p → wfP p → p.1 < 2 ^ 20 → p.2.1 < 2 ^ 20 → mf Ppf h h1 →
    ∃ h' x, mx_G (d + 9) 287 34 [some (.ref 76), some (.int k), some (.int v), some (.int 0), some (.int (nI j))] [] h1 = mx_G (d + 9) 287 124 [some (.ref 76), some (.int k), some (.int v), some (.int (Int32.ofInt (aOps ts (l.drop j) p).1)), some (.int x)] [] h' ∧ mf Ppf h h' ∧ ((aOps ts (l.drop j) p).1 = 0 → rcP h' 8 (aOps ts (l.drop j) p).2) := by
  have hl := S.1.2.1
  intro n
  induction n with
  | zero =>
    intro j p h1 hj R W b1 b2 m
    have T := m.1
    have c26 : mi h1 76 26 = nI l.length := (m.2.1 76 26 rfl).trans O.1
    have e1 : nI l.length ≤ nI j := nI_le (by omega) (by omega)
    rw [List.drop_eq_nil_of_le (by omega)]
    refine ⟨h1, nI j, ?_, m, fun _ => R⟩
    simp only [r287_34, r287_36, r287_37, r287_40, mx_isr_ref, mx_isr_null, mx_wt_nil, mx_wt_1, mx_wt_2, mx_wt_3, Option.bind_some, Option.toList_some, Option.toList_none, List.cons_append, List.nil_append, mx_nl_int, mx_nl_ref, mx_nl_null, mx_nl_none, mx_nb0, mx_nb1, mx_fb0, mx_fb1, mx_cat_int, mx_cat_ref, if_true, if_false, not_true_eq_false, not_false_eq_true, T, mr_ty_77, mr_n_77, mr_isI_77, mr_ty_78, mr_n_78, mr_isI_78, mr_ty_79, mr_n_79, mr_isI_79, mr_ty_80, mr_n_80, mr_isI_80, mr_ty_81, mr_n_81, mr_isI_81, mr_ty_82, mr_n_82, mr_isJ_82, mr_ty_83, mr_n_83, mr_isI_83, mr_ty_84, mr_n_84, mr_isI_84, mr_ty_85, mr_n_85, mr_isI_85, mr_ty_86, mr_n_86, mr_isI_86, mr_ty_87, mr_n_87, mr_isI_87, mr_ty_88, mr_n_88, mr_isI_88, mr_ty_89, mr_n_89, mr_isJ_89, mr_ty_90, mr_n_90, mr_isI_90, mr_ty_91, mr_n_91, mr_isI_91, mr_ty_92, mr_n_92, mr_isI_92, mr_ty_93, mr_n_93, mr_isI_93, mr_ty_94, mr_n_94, mr_isI_94, mr_ty_95, mr_n_95, mr_isI_95, mr_ty_96, mr_n_96, mr_isI_96, mr_ty_97, mr_n_97, mr_isI_97, mr_ty_98, mr_n_98, mr_isI_98, mr_ty_99, mr_n_99, mr_isI_99, mr_ty_100, mr_n_100, mr_isI_100, mr_ty_101, mr_n_101, mr_isI_101, mr_isF_1, mr_isF_3, mr_isF_4, mr_isF_10, mr_isF_12, mr_isF_18, mr_isF_19, mr_isF_21, mr_isF_22, mr_isF_23, mr_isF_26, mr_isF_34, mr_isF_37, mr_isF_38, mr_isF_39, mr_T_up, mr_T_upJ, mr_T_f, c26, e1]
    rfl
  | succ n ih =>
    intro j p h1 hj R W b1 b2 m
    have T := m.1
    have S1 := TK_mf S m tkpf
    have hjl : j < l.length := by omega
    have c26 : mi h1 76 26 = nI l.length := (m.2.1 76 26 rfl).trans O.1
    have e1 : ¬ nI l.length ≤ nI j := nI_ge (by omega) (by omega)
    have t1 : (nI j).toNatClampNeg = j := nI_clamp (by omega)
    have t2 : (0 : Int32) ≤ nI j := nI_pos' (by omega)
    have t3 : j < 60 := by omega
    have oj := O.2.2 j hjl
    rw [List.drop_eq_getElem_cons hjl]
    obtain ⟨q, eq⟩ : ∃ q, l[j] = q := ⟨_, rfl⟩
    rw [eq] at oj ⊢
    clear eq
    obtain ⟨q1, c93, ⟨c94, w11, tg⟩, n45, hval⟩ := oj
    have c93 : mi h1 93 j = nI q.1 := (m.2.1 93 j rfl).trans c93
    have c94 : mi h1 94 j = nI q.2.1 := (m.2.1 94 j rfl).trans c94
    have hc : q.1 < 128 := by rcases q1 with z | z | z <;> rw [z] <;> decide
    have key : ∃ h2, mf Ppf h h2 ∧ mx_G (d + 9) 287 34 [some (.ref 76), some (.int k), some (.int v), some (.int 0), some (.int (nI j))] [] h1 = mx_G (d + 9) 287 34 [some (.ref 76), some (.int k), some (.int v), some (.int (Int32.ofInt (aOp ts q p).1)), some (.int (nI (j + 1)))] [] h2 ∧ ((aOp ts q p).1 = 0 → rcP h2 8 (aOp ts q p).2) := by
      unfold aOp
      by_cases w0 : q.2.1 = 0
      · rw [if_pos w0]
        have c45 : q.1 ≠ 45 := fun z => n45 z w0
        obtain ⟨c97, vk⟩ := hval c45
        have c97 : mi h1 97 j = nI q.2.2.2 := (m.2.1 97 j rfl).trans c97
        obtain ⟨h2, r2, m2, G⟩ := rm_performAll (d := d) S1 K hc vk R W b1 b2
        rw [w0, show nI 0 = 0 from rfl] at c94
        refine ⟨h2, mf_trans m m2, ?_, G⟩
        rw [r287_34]
        simp only [r287_36, r287_37, r287_40, r287_43, r287_44, r287_47, r287_48, r287_51, r287_53, r287_54, r287_57, r287_58, r287_59, r287_62, r287_64, r287_65, r287_66, r287_69, r287_71, r287_72, r287_75, r287_78, r287_79, r287_80, r287_83, r287_85, r287_86, r287_87, r287_90, r287_92, r287_93, r287_94, r287_97, r287_99, r287_100, r287_101, r287_104, r287_106, r287_107, r287_108, r287_111, r287_113, r287_114, r287_117, r287_118, r287_121, mx_isr_ref, mx_isr_null, mx_wt_nil, mx_wt_1, mx_wt_2, mx_wt_3, Option.bind_some, Option.toList_some, Option.toList_none, List.cons_append, List.nil_append, mx_nl_int, mx_nl_ref, mx_nl_null, mx_nl_none, mx_nb0, mx_nb1, mx_fb0, mx_fb1, mx_cat_int, mx_cat_ref, if_true, if_false, not_true_eq_false, not_false_eq_true, T, m2.1, mr_ty_77, mr_n_77, mr_isI_77, mr_ty_78, mr_n_78, mr_isI_78, mr_ty_79, mr_n_79, mr_isI_79, mr_ty_80, mr_n_80, mr_isI_80, mr_ty_81, mr_n_81, mr_isI_81, mr_ty_82, mr_n_82, mr_isJ_82, mr_ty_83, mr_n_83, mr_isI_83, mr_ty_84, mr_n_84, mr_isI_84, mr_ty_85, mr_n_85, mr_isI_85, mr_ty_86, mr_n_86, mr_isI_86, mr_ty_87, mr_n_87, mr_isI_87, mr_ty_88, mr_n_88, mr_isI_88, mr_ty_89, mr_n_89, mr_isJ_89, mr_ty_90, mr_n_90, mr_isI_90, mr_ty_91, mr_n_91, mr_isI_91, mr_ty_92, mr_n_92, mr_isI_92, mr_ty_93, mr_n_93, mr_isI_93, mr_ty_94, mr_n_94, mr_isI_94, mr_ty_95, mr_n_95, mr_isI_95, mr_ty_96, mr_n_96, mr_isI_96, mr_ty_97, mr_n_97, mr_isI_97, mr_ty_98, mr_n_98, mr_isI_98, mr_ty_99, mr_n_99, mr_isI_99, mr_ty_100, mr_n_100, mr_isI_100, mr_ty_101, mr_n_101, mr_isI_101, mr_isF_1, mr_isF_3, mr_isF_4, mr_isF_10, mr_isF_12, mr_isF_18, mr_isF_19, mr_isF_21, mr_isF_22, mr_isF_23, mr_isF_26, mr_isF_34, mr_isF_37, mr_isF_38, mr_isF_39, mr_T_up, mr_T_upJ, mr_T_f, c26, e1, t1, t2, t3, c93, c94, c97, r2, nI_1]
      · rw [if_neg w0]
        have n94 : ¬ nI q.2.1 = 0 := fun z => w0 ((nI_eq (b := 0) (by show q.2.1 < _; have : q.2.1 ≤ 11 := w11; omega) (by decide)).mp z)
        obtain ⟨vv, ev⟩ : ∃ vv, mi h1 97 j = nI vv ∧ (q.1 ≠ 45 → vv = q.2.2.2) := by
          by_cases c45 : q.1 = 45
          · obtain ⟨vv, e⟩ := nI_any (mi h1 97 j)
            exact ⟨vv, e, fun z => absurd c45 z⟩
          · exact ⟨q.2.2.2, (m.2.1 97 j rfl).trans (hval c45).1, fun _ => rfl⟩
        have ea : aTg ts q.1 q.2.1 q.2.2.1.2 q.2.2.2 p = aTg ts q.1 q.2.1 q.2.2.1.2 vv p := by
          by_cases c45 : q.1 = 45
          · rw [c45]; exact aTg_45 w11 _ _ _ _
          · rw [ev.2 c45]
        rw [ea]
        have tg' : ∃ low, 9 ≤ q.2.1 → mi h1 95 j = nI low ∧ mi h1 96 j = nI (low + q.2.2.1.1.length) ∧ rowR h1 ts low q.2.2.1.1 ∧ cdV (hd ts) itn true q.2.2.1 := by
          by_cases w9 : 9 ≤ q.2.1
          · obtain ⟨low, a, b, c, e, f, g⟩ := tg w9
            refine ⟨low, fun _ => ⟨(m.2.1 95 j rfl).trans a, (m.2.1 96 j rfl).trans b, ⟨by have c : low + q.2.2.1.1.length ≤ out.length := c; omega, fun i hi => ⟨?_, fun z => g.2 _ ?_ z⟩⟩, f⟩⟩
            · have c : low + q.2.2.1.1.length ≤ out.length := c
              have := O.2.1.2 (low + i) (by omega)
              rw [e i hi] at this
              exact stpR_keep this (m.2.1 _ _ rfl) (m.2.1 _ _ rfl) (m.2.2 _ _ (Or.inr rfl) rfl) (m.2.1 _ _ rfl) (m.2.1 _ _ rfl)
            · unfold sG
              rw [List.getD_eq_getElem?_getD, List.getElem?_eq_getElem hi]
              exact List.getElem_mem hi
          · exact ⟨0, fun z => absurd z w9⟩
        obtain ⟨low, hV⟩ := tg'
        obtain ⟨h2, r2, m2, G⟩ := rm_perform (d := d + 1) S1 K R W b1 b2 (c := q.1) (way := q.2.1) (low := low) (v := vv) (q := q.2.2.1) hc (by omega) w11 (lo := mi h1 95 j) (hi := mi h1 96 j) hV (fun z => by rw [ev.2 z]; exact (hval z).2) (fun z => by rw [ev.2 z]; have := vOk_lt (hval z).2; omega)
        refine ⟨h2, mf_trans m m2, ?_, G⟩
        rw [r287_34]
        simp only [r287_36, r287_37, r287_40, r287_43, r287_44, r287_47, r287_48, r287_51, r287_53, r287_54, r287_57, r287_58, r287_59, r287_62, r287_64, r287_65, r287_66, r287_69, r287_71, r287_72, r287_75, r287_78, r287_79, r287_80, r287_83, r287_85, r287_86, r287_87, r287_90, r287_92, r287_93, r287_94, r287_97, r287_99, r287_100, r287_101, r287_104, r287_106, r287_107, r287_108, r287_111, r287_113, r287_114, r287_117, r287_118, r287_121, mx_isr_ref, mx_isr_null, mx_wt_nil, mx_wt_1, mx_wt_2, mx_wt_3, Option.bind_some, Option.toList_some, Option.toList_none, List.cons_append, List.nil_append, mx_nl_int, mx_nl_ref, mx_nl_null, mx_nl_none, mx_nb0, mx_nb1, mx_fb0, mx_fb1, mx_cat_int, mx_cat_ref, if_true, if_false, not_true_eq_false, not_false_eq_true, T, m2.1, mr_ty_77, mr_n_77, mr_isI_77, mr_ty_78, mr_n_78, mr_isI_78, mr_ty_79, mr_n_79, mr_isI_79, mr_ty_80, mr_n_80, mr_isI_80, mr_ty_81, mr_n_81, mr_isI_81, mr_ty_82, mr_n_82, mr_isJ_82, mr_ty_83, mr_n_83, mr_isI_83, mr_ty_84, mr_n_84, mr_isI_84, mr_ty_85, mr_n_85, mr_isI_85, mr_ty_86, mr_n_86, mr_isI_86, mr_ty_87, mr_n_87, mr_isI_87, mr_ty_88, mr_n_88, mr_isI_88, mr_ty_89, mr_n_89, mr_isJ_89, mr_ty_90, mr_n_90, mr_isI_90, mr_ty_91, mr_n_91, mr_isI_91, mr_ty_92, mr_n_92, mr_isI_92, mr_ty_93, mr_n_93, mr_isI_93, mr_ty_94, mr_n_94, mr_isI_94, mr_ty_95, mr_n_95, mr_isI_95, mr_ty_96, mr_n_96, mr_isI_96, mr_ty_97, mr_n_97, mr_isI_97, mr_ty_98, mr_n_98, mr_isI_98, mr_ty_99, mr_n_99, mr_isI_99, mr_ty_100, mr_n_100, mr_isI_100, mr_ty_101, mr_n_101, mr_isI_101, mr_isF_1, mr_isF_3, mr_isF_4, mr_isF_10, mr_isF_12, mr_isF_18, mr_isF_19, mr_isF_21, mr_isF_22, mr_isF_23, mr_isF_26, mr_isF_34, mr_isF_37, mr_isF_38, mr_isF_39, mr_T_up, mr_T_upJ, mr_T_f, c26, e1, t1, t2, t3, c93, c94, n94, ev.1, r2, nI_1]
    obtain ⟨h2, m2, s2, G⟩ := key
    rw [s2, aOps]
    have eb := aOp_b (ts := ts) q p
    have wq := aOp_wf K q W
    generalize aOp ts q p = u at *
    obtain ⟨ec, p'⟩ := u
    show ∃ h' x, _ = mx_G (d + 9) 287 124 [some (.ref 76), some (.int k), some (.int v), some (.int (Int32.ofInt (if ec = 0 then aOps ts (l.drop (j + 1)) p' else (ec, p)).1)), some (.int x)] [] h' ∧ mf Ppf h h' ∧ ((if ec = 0 then aOps ts (l.drop (j + 1)) p' else (ec, p)).1 = 0 → rcP h' 8 (if ec = 0 then aOps ts (l.drop (j + 1)) p' else (ec, p)).2)
    by_cases z : ec = 0
    · simp only [if_pos z]
      subst z
      exact ih (j + 1) p' h2 (by omega) (G rfl) wq.1 (by rw [show p'.1 = p.1 from wq.2.1]; exact b1) (by rw [show p'.2.1 = p.2.1 from wq.2.2]; exact b2) m2
    · simp only [if_neg z]
      have ne : ¬ Int32.ofInt ec = 0 := fun y => z ((ecB_0 eb).1.1 y)
      have T2 := m2.1
      have c26' : mi h2 76 26 = nI l.length := (m2.2.1 76 26 rfl).trans O.1
      refine ⟨h2, nI (j + 1), ?_, m2, fun y => absurd y z⟩
      by_cases y : nI l.length ≤ nI (j + 1)
      · simp only [r287_34, r287_36, r287_37, r287_40, r287_43, r287_44, mx_isr_ref, mx_isr_null, mx_wt_nil, mx_wt_1, mx_wt_2, mx_wt_3, Option.bind_some, Option.toList_some, Option.toList_none, List.cons_append, List.nil_append, mx_nl_int, mx_nl_ref, mx_nl_null, mx_nl_none, mx_nb0, mx_nb1, mx_fb0, mx_fb1, mx_cat_int, mx_cat_ref, if_true, if_false, not_true_eq_false, not_false_eq_true, T2, mr_ty_77, mr_n_77, mr_isI_77, mr_ty_78, mr_n_78, mr_isI_78, mr_ty_79, mr_n_79, mr_isI_79, mr_ty_80, mr_n_80, mr_isI_80, mr_ty_81, mr_n_81, mr_isI_81, mr_ty_82, mr_n_82, mr_isJ_82, mr_ty_83, mr_n_83, mr_isI_83, mr_ty_84, mr_n_84, mr_isI_84, mr_ty_85, mr_n_85, mr_isI_85, mr_ty_86, mr_n_86, mr_isI_86, mr_ty_87, mr_n_87, mr_isI_87, mr_ty_88, mr_n_88, mr_isI_88, mr_ty_89, mr_n_89, mr_isJ_89, mr_ty_90, mr_n_90, mr_isI_90, mr_ty_91, mr_n_91, mr_isI_91, mr_ty_92, mr_n_92, mr_isI_92, mr_ty_93, mr_n_93, mr_isI_93, mr_ty_94, mr_n_94, mr_isI_94, mr_ty_95, mr_n_95, mr_isI_95, mr_ty_96, mr_n_96, mr_isI_96, mr_ty_97, mr_n_97, mr_isI_97, mr_ty_98, mr_n_98, mr_isI_98, mr_ty_99, mr_n_99, mr_isI_99, mr_ty_100, mr_n_100, mr_isI_100, mr_ty_101, mr_n_101, mr_isI_101, mr_isF_1, mr_isF_3, mr_isF_4, mr_isF_10, mr_isF_12, mr_isF_18, mr_isF_19, mr_isF_21, mr_isF_22, mr_isF_23, mr_isF_26, mr_isF_34, mr_isF_37, mr_isF_38, mr_isF_39, mr_T_up, mr_T_upJ, mr_T_f, c26', y]
      · simp only [r287_34, r287_36, r287_37, r287_40, r287_43, r287_44, mx_isr_ref, mx_isr_null, mx_wt_nil, mx_wt_1, mx_wt_2, mx_wt_3, Option.bind_some, Option.toList_some, Option.toList_none, List.cons_append, List.nil_append, mx_nl_int, mx_nl_ref, mx_nl_null, mx_nl_none, mx_nb0, mx_nb1, mx_fb0, mx_fb1, mx_cat_int, mx_cat_ref, if_true, if_false, not_true_eq_false, not_false_eq_true, T2, mr_ty_77, mr_n_77, mr_isI_77, mr_ty_78, mr_n_78, mr_isI_78, mr_ty_79, mr_n_79, mr_isI_79, mr_ty_80, mr_n_80, mr_isI_80, mr_ty_81, mr_n_81, mr_isI_81, mr_ty_82, mr_n_82, mr_isJ_82, mr_ty_83, mr_n_83, mr_isI_83, mr_ty_84, mr_n_84, mr_isI_84, mr_ty_85, mr_n_85, mr_isI_85, mr_ty_86, mr_n_86, mr_isI_86, mr_ty_87, mr_n_87, mr_isI_87, mr_ty_88, mr_n_88, mr_isI_88, mr_ty_89, mr_n_89, mr_isJ_89, mr_ty_90, mr_n_90, mr_isI_90, mr_ty_91, mr_n_91, mr_isI_91, mr_ty_92, mr_n_92, mr_isI_92, mr_ty_93, mr_n_93, mr_isI_93, mr_ty_94, mr_n_94, mr_isI_94, mr_ty_95, mr_n_95, mr_isI_95, mr_ty_96, mr_n_96, mr_isI_96, mr_ty_97, mr_n_97, mr_isI_97, mr_ty_98, mr_n_98, mr_isI_98, mr_ty_99, mr_n_99, mr_isI_99, mr_ty_100, mr_n_100, mr_isI_100, mr_ty_101, mr_n_101, mr_isI_101, mr_isF_1, mr_isF_3, mr_isF_4, mr_isF_10, mr_isF_12, mr_isF_18, mr_isF_19, mr_isF_21, mr_isF_22, mr_isF_23, mr_isF_26, mr_isF_34, mr_isF_37, mr_isF_38, mr_isF_39, mr_T_up, mr_T_upJ, mr_T_f, c26', y, ne]
end
