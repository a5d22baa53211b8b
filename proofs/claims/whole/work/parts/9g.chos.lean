section
variable {d : Nat} {h : mx_H} {ts : List tk}
theorem set_md2 {α : Type} (a y : α) (r : List α) : ∀ done : List α, (done ++ a :: r).set done.length y = done ++ y :: r := by
  intro done
  induction done with
  | nil => rfl
  | cons x done ih => show x :: (done ++ a :: r).set done.length y = x :: (done ++ y :: r); rw [ih]
theorem xG_mid (a : itf) (r : List itf) : ∀ done : List itf, xG (done ++ a :: r) done.length = a := by
  intro done
  induction done with
  | nil => rfl
  | cons x done ih => exact ih
theorem chM_drop {f : itm → itf} {l : List itm} {bs : List Bool} (hb : bs.length = l.length) {k : Nat} (hk : k < l.length) : chM f (l.drop k) (bs.drop k) = (if bs.getD k false = true then f (iG l k) else (iG l k, false)) :: chM f (l.drop (k + 1)) (bs.drop (k + 1)) := by
  rw [drop_iG hk]
  have e : bs.drop k = bs.getD k false :: bs.drop (k + 1) := by
    rw [List.getD_eq_getElem?_getD, List.getElem?_eq_getElem (by omega)]
    exact List.drop_eq_getElem_cons (by omega)
  rw [e]
  rfl
theorem rm_chL (S : rm_TK h ts) (K : tkOK ts) {l : List itm} {bs : List Bool} (hb : bs.length = l.length) (C : cS h bs) {c part v : Nat} {l4 l5 : Int32} (hc : c < 128) (hp : part < 3) (V : chV ts c part v) : ∀ n k done h1, k + n = l.length → done.length = k → dI h1 (done ++ mrk (l.drop k)) → mf P79 h h1 → (∀ i, i < 659 → mi h1 77 i = mi h 77 i) →
    ∃ h', mx_G (d + 6) 317 180 [some (.ref 76), some (.int (nI c)), some (.int (nI part)), some (.int (nI v)), some (.int l4), some (.int l5), some (.int (nI k))] [] h1 = some (some (.int 0), h') ∧ mf P79 h h' ∧ (∀ i, i < 659 → mi h' 77 i = mi h 77 i) ∧ dI h' (done ++ chM (chF ts c part v) (l.drop k) (bs.drop k)) := by
  intro n
  induction n with
  | zero =>
    intro k done h1 hk hd D m fr
    have T := m.1
    have f19 := rm_f19 (d := d + 5) T (dI_w D)
    have ll : ((done ++ mrk (l.drop k)).map fun x => x.1).length = l.length := by simp only [List.length_map, List.length_append, mrk_len, List.length_drop]; omega
    have d1 := (dI_w D).1
    rw [ll] at f19 d1
    have e1 : nI l.length ≤ nI k := nI_le (by omega) (by omega)
    refine ⟨h1, ?_, m, fr, ?_⟩
    · simp only [r317_180, r317_182, r317_183, r317_185, r317_187, r317_190, r317_218, r317_219, mx_isr_ref, mx_isr_null, mx_wt_nil, mx_wt_1, mx_wt_2, mx_wt_3, Option.bind_some, Option.toList_some, Option.toList_none, List.cons_append, List.nil_append, mx_nl_int, mx_nl_ref, mx_nl_null, mx_nl_none, mx_nb0, mx_nb1, mx_fb0, mx_fb1, mx_cat_int, mx_cat_ref, if_true, if_false, not_true_eq_false, not_false_eq_true, T, f19, e1]
    · rw [List.drop_eq_nil_of_le (by omega)] at D ⊢
      exact D
  | succ n ih =>
    intro k done h1 hk hd D m fr
    have T := m.1
    have S1 := TK_mf S m tk79
    have f19 := rm_f19 (d := d + 5) T (dI_w D)
    have ll : ((done ++ mrk (l.drop k)).map fun x => x.1).length = l.length := by simp only [List.length_map, List.length_append, mrk_len, List.length_drop]; omega
    have d1 := (dI_w D).1
    rw [ll] at f19 d1
    have hkl : k < l.length := by omega
    have e1 : ¬ nI l.length ≤ nI k := nI_ge (by omega) (by omega)
    have t1 : (nI k).toNatClampNeg = k := nI_clamp (by omega)
    have t2 : (0 : Int32) ≤ nI k := nI_pos' (by omega)
    have t3 : k < 5 := by omega
    have ck := cS_mf C m k (by omega)
    rw [chM_drop hb hkl]
    rw [drop_iG hkl] at D
    have D : dI h1 (done ++ (iG l k, false) :: mrk (l.drop (k + 1))) := D
    cases z : bs.getD k false with
    | false =>
      rw [z] at ck
      have ck : mi h1 98 k = 0 := ck
      obtain ⟨h', r, m', f', D'⟩ := ih (k + 1) (done ++ [(iG l k, false)]) h1 (by omega) (by simp only [List.length_append, List.length_cons, List.length_nil]; omega) (by rw [List.append_assoc]; exact D) m fr
      refine ⟨h', ?_, m', f', by rw [List.append_assoc] at D'; exact D'⟩
      rw [← r, r317_180]
      simp only [r317_182, r317_183, r317_185, r317_187, r317_190, r317_193, r317_194, r317_197, r317_199, r317_200, r317_203, r317_204, r317_206, r317_207, r317_208, r317_209, r317_212, r317_215, mx_isr_ref, mx_isr_null, mx_wt_nil, mx_wt_1, mx_wt_2, mx_wt_3, Option.bind_some, Option.toList_some, Option.toList_none, List.cons_append, List.nil_append, mx_nl_int, mx_nl_ref, mx_nl_null, mx_nl_none, mx_nb0, mx_nb1, mx_fb0, mx_fb1, mx_cat_int, mx_cat_ref, if_true, if_false, not_true_eq_false, not_false_eq_true, T, mr_ty_77, mr_n_77, mr_isI_77, mr_ty_78, mr_n_78, mr_isI_78, mr_ty_79, mr_n_79, mr_isI_79, mr_ty_80, mr_n_80, mr_isI_80, mr_ty_81, mr_n_81, mr_isI_81, mr_ty_82, mr_n_82, mr_isJ_82, mr_ty_83, mr_n_83, mr_isI_83, mr_ty_84, mr_n_84, mr_isI_84, mr_ty_85, mr_n_85, mr_isI_85, mr_ty_86, mr_n_86, mr_isI_86, mr_ty_87, mr_n_87, mr_isI_87, mr_ty_88, mr_n_88, mr_isI_88, mr_ty_89, mr_n_89, mr_isJ_89, mr_ty_90, mr_n_90, mr_isI_90, mr_ty_91, mr_n_91, mr_isI_91, mr_ty_92, mr_n_92, mr_isI_92, mr_ty_93, mr_n_93, mr_isI_93, mr_ty_94, mr_n_94, mr_isI_94, mr_ty_95, mr_n_95, mr_isI_95, mr_ty_96, mr_n_96, mr_isI_96, mr_ty_97, mr_n_97, mr_isI_97, mr_ty_98, mr_n_98, mr_isI_98, mr_ty_99, mr_n_99, mr_isI_99, mr_ty_100, mr_n_100, mr_isI_100, mr_ty_101, mr_n_101, mr_isI_101, mr_isF_1, mr_isF_3, mr_isF_4, mr_isF_10, mr_isF_12, mr_isF_18, mr_isF_19, mr_isF_21, mr_isF_22, mr_isF_23, mr_isF_26, mr_isF_34, mr_isF_37, mr_isF_38, mr_isF_39, mr_T_up, mr_T_upJ, mr_T_f, t1, t2, t3, f19, e1, ck, nI_1]
    | true =>
      rw [z] at ck
      have ck : mi h1 98 k = 1 := ck
      have xk : xG (done ++ (iG l k, false) :: mrk (l.drop (k + 1))) k = (iG l k, false) := by rw [← hd]; exact xG_mid _ _ _
      obtain ⟨h2, r2, m2, f2, D2⟩ := rm_change (d := d) S1 K D (k := k) (c := c) (part := part) (v := v) (by simp only [List.length_append, List.length_cons]; omega) (by rw [xk]) hc hp V
      have es : (done ++ (iG l k, false) :: mrk (l.drop (k + 1))).set k (chF ts c part v (iG l k)) = done ++ chF ts c part v (iG l k) :: mrk (l.drop (k + 1)) := by rw [← hd]; exact set_md2 _ _ _ _
      rw [xk] at D2
      rw [es] at D2
      have M := mf_trans m m2
      have T2 := M.1
      obtain ⟨h', r, m', f', D'⟩ := ih (k + 1) (done ++ [chF ts c part v (iG l k)]) h2 (by omega) (by simp only [List.length_append, List.length_cons, List.length_nil]; omega) (by rw [List.append_assoc]; exact D2) M fun i hi => (f2 i hi).trans (fr i hi)
      refine ⟨h', ?_, m', f', by rw [List.append_assoc] at D'; exact D'⟩
      rw [← r, r317_180]
      simp only [r317_182, r317_183, r317_185, r317_187, r317_190, r317_193, r317_194, r317_197, r317_199, r317_200, r317_203, r317_204, r317_206, r317_207, r317_208, r317_209, r317_212, r317_215, mx_isr_ref, mx_isr_null, mx_wt_nil, mx_wt_1, mx_wt_2, mx_wt_3, Option.bind_some, Option.toList_some, Option.toList_none, List.cons_append, List.nil_append, mx_nl_int, mx_nl_ref, mx_nl_null, mx_nl_none, mx_nb0, mx_nb1, mx_fb0, mx_fb1, mx_cat_int, mx_cat_ref, if_true, if_false, not_true_eq_false, not_false_eq_true, T, T2, mr_ty_77, mr_n_77, mr_isI_77, mr_ty_78, mr_n_78, mr_isI_78, mr_ty_79, mr_n_79, mr_isI_79, mr_ty_80, mr_n_80, mr_isI_80, mr_ty_81, mr_n_81, mr_isI_81, mr_ty_82, mr_n_82, mr_isJ_82, mr_ty_83, mr_n_83, mr_isI_83, mr_ty_84, mr_n_84, mr_isI_84, mr_ty_85, mr_n_85, mr_isI_85, mr_ty_86, mr_n_86, mr_isI_86, mr_ty_87, mr_n_87, mr_isI_87, mr_ty_88, mr_n_88, mr_isI_88, mr_ty_89, mr_n_89, mr_isJ_89, mr_ty_90, mr_n_90, mr_isI_90, mr_ty_91, mr_n_91, mr_isI_91, mr_ty_92, mr_n_92, mr_isI_92, mr_ty_93, mr_n_93, mr_isI_93, mr_ty_94, mr_n_94, mr_isI_94, mr_ty_95, mr_n_95, mr_isI_95, mr_ty_96, mr_n_96, mr_isI_96, mr_ty_97, mr_n_97, mr_isI_97, mr_ty_98, mr_n_98, mr_isI_98, mr_ty_99, mr_n_99, mr_isI_99, mr_ty_100, mr_n_100, mr_isI_100, mr_ty_101, mr_n_101, mr_isI_101, mr_isF_1, mr_isF_3, mr_isF_4, mr_isF_10, mr_isF_12, mr_isF_18, mr_isF_19, mr_isF_21, mr_isF_22, mr_isF_23, mr_isF_26, mr_isF_34, mr_isF_37, mr_isF_38, mr_isF_39, mr_T_up, mr_T_upJ, mr_T_f, t1, t2, t3, f19, e1, ck, r2, nI_1, show ¬ (1 : Int32) = 0 by decide]
theorem rm_chA {l : List itm} {bs : List Bool} (hb : bs.length = l.length) (T : mr_T h) (C : cS h bs) (W : wIt8 h l) {c part v : Int32} {l6 : Option Value} : ∀ n k (b : Bool), k + n = l.length →
    mx_G (d + 6) 317 6 [some (.ref 76), some (.int c), some (.int part), some (.int v), some (.int (if b = true then 1 else 0)), some (.int (nI k)), l6] [] h = mx_G (d + 6) 317 47 [some (.ref 76), some (.int c), some (.int part), some (.int v), some (.int (if (b && (bs.drop k).all fun x => !x) = true then 1 else 0)), some (.int (nI l.length)), l6] [] h := by
  have f19 := rm_f19 (d := d + 5) T W
  have h4 := W.1
  intro n
  induction n with
  | zero =>
    intro k b hk
    have : k = l.length := by omega
    subst this
    have e1 : nI l.length ≤ nI l.length := nI_le (by omega) (by omega)
    rw [List.drop_eq_nil_of_le (by omega), List.all_nil, Bool.and_true]
    simp only [r317_6, r317_8, r317_9, r317_11, r317_13, r317_16, mx_isr_ref, mx_isr_null, mx_wt_nil, mx_wt_1, mx_wt_2, mx_wt_3, Option.bind_some, Option.toList_some, Option.toList_none, List.cons_append, List.nil_append, mx_nl_int, mx_nl_ref, mx_nl_null, mx_nl_none, mx_nb0, mx_nb1, mx_fb0, mx_fb1, mx_cat_int, mx_cat_ref, if_true, if_false, not_true_eq_false, not_false_eq_true, T, f19, e1]
  | succ n ih =>
    intro k b hk
    have e1 : ¬ nI l.length ≤ nI k := nI_ge (by omega) (by omega)
    have t1 : (nI k).toNatClampNeg = k := nI_clamp (by omega)
    have t2 : (0 : Int32) ≤ nI k := nI_pos' (by omega)
    have t3 : k < 5 := by omega
    have ck := C k (by omega)
    have e : bs.drop k = bs.getD k false :: bs.drop (k + 1) := by
      rw [List.getD_eq_getElem?_getD, List.getElem?_eq_getElem (by omega)]
      exact List.drop_eq_getElem_cons (by omega)
    rw [e, List.all_cons]
    cases b with
    | false =>
      have hi := ih (k + 1) false (by omega)
      rw [Bool.false_and] at hi ⊢
      rw [← hi, r317_6]
      simp only [r317_8, r317_9, r317_11, r317_13, r317_16, r317_19, r317_21, r317_24, r317_25, r317_28, r317_30, r317_31, r317_34, r317_35, r317_38, r317_39, r317_41, r317_44, mx_isr_ref, mx_isr_null, mx_wt_nil, mx_wt_1, mx_wt_2, mx_wt_3, Option.bind_some, Option.toList_some, Option.toList_none, List.cons_append, List.nil_append, mx_nl_int, mx_nl_ref, mx_nl_null, mx_nl_none, mx_nb0, mx_nb1, mx_fb0, mx_fb1, mx_cat_int, mx_cat_ref, if_true, if_false, not_true_eq_false, not_false_eq_true, T, f19, e1, nI_1, Bool.false_eq_true]
    | true =>
      cases z : bs.getD k false with
      | false =>
        rw [z] at ck
        have ck : mi h 98 k = 0 := ck
        have hi := ih (k + 1) true (by omega)
        rw [Bool.true_and] at hi ⊢
        rw [Bool.not_false, Bool.true_and, ← hi, r317_6]
        simp only [r317_8, r317_9, r317_11, r317_13, r317_16, r317_19, r317_21, r317_24, r317_25, r317_28, r317_30, r317_31, r317_34, r317_35, r317_38, r317_39, r317_41, r317_44, mx_isr_ref, mx_isr_null, mx_wt_nil, mx_wt_1, mx_wt_2, mx_wt_3, Option.bind_some, Option.toList_some, Option.toList_none, List.cons_append, List.nil_append, mx_nl_int, mx_nl_ref, mx_nl_null, mx_nl_none, mx_nb0, mx_nb1, mx_fb0, mx_fb1, mx_cat_int, mx_cat_ref, if_true, if_false, not_true_eq_false, not_false_eq_true, T, mr_ty_77, mr_n_77, mr_isI_77, mr_ty_78, mr_n_78, mr_isI_78, mr_ty_79, mr_n_79, mr_isI_79, mr_ty_80, mr_n_80, mr_isI_80, mr_ty_81, mr_n_81, mr_isI_81, mr_ty_82, mr_n_82, mr_isJ_82, mr_ty_83, mr_n_83, mr_isI_83, mr_ty_84, mr_n_84, mr_isI_84, mr_ty_85, mr_n_85, mr_isI_85, mr_ty_86, mr_n_86, mr_isI_86, mr_ty_87, mr_n_87, mr_isI_87, mr_ty_88, mr_n_88, mr_isI_88, mr_ty_89, mr_n_89, mr_isJ_89, mr_ty_90, mr_n_90, mr_isI_90, mr_ty_91, mr_n_91, mr_isI_91, mr_ty_92, mr_n_92, mr_isI_92, mr_ty_93, mr_n_93, mr_isI_93, mr_ty_94, mr_n_94, mr_isI_94, mr_ty_95, mr_n_95, mr_isI_95, mr_ty_96, mr_n_96, mr_isI_96, mr_ty_97, mr_n_97, mr_isI_97, mr_ty_98, mr_n_98, mr_isI_98, mr_ty_99, mr_n_99, mr_isI_99, mr_ty_100, mr_n_100, mr_isI_100, mr_ty_101, mr_n_101, mr_isI_101, mr_isF_1, mr_isF_3, mr_isF_4, mr_isF_10, mr_isF_12, mr_isF_18, mr_isF_19, mr_isF_21, mr_isF_22, mr_isF_23, mr_isF_26, mr_isF_34, mr_isF_37, mr_isF_38, mr_isF_39, mr_T_up, mr_T_upJ, mr_T_f, t1, t2, t3, ck, f19, e1, nI_1, show ¬ (1 : Int32) = 0 by decide]
      | true =>
        rw [z] at ck
        have ck : mi h 98 k = 1 := ck
        have hi := ih (k + 1) false (by omega)
        rw [Bool.false_and] at hi
        rw [Bool.not_true, Bool.false_and, Bool.and_false, ← hi, r317_6]
        simp only [r317_8, r317_9, r317_11, r317_13, r317_16, r317_19, r317_21, r317_24, r317_25, r317_28, r317_30, r317_31, r317_34, r317_35, r317_38, r317_39, r317_41, r317_44, mx_isr_ref, mx_isr_null, mx_wt_nil, mx_wt_1, mx_wt_2, mx_wt_3, Option.bind_some, Option.toList_some, Option.toList_none, List.cons_append, List.nil_append, mx_nl_int, mx_nl_ref, mx_nl_null, mx_nl_none, mx_nb0, mx_nb1, mx_fb0, mx_fb1, mx_cat_int, mx_cat_ref, if_true, if_false, not_true_eq_false, not_false_eq_true, T, mr_ty_77, mr_n_77, mr_isI_77, mr_ty_78, mr_n_78, mr_isI_78, mr_ty_79, mr_n_79, mr_isI_79, mr_ty_80, mr_n_80, mr_isI_80, mr_ty_81, mr_n_81, mr_isI_81, mr_ty_82, mr_n_82, mr_isJ_82, mr_ty_83, mr_n_83, mr_isI_83, mr_ty_84, mr_n_84, mr_isI_84, mr_ty_85, mr_n_85, mr_isI_85, mr_ty_86, mr_n_86, mr_isI_86, mr_ty_87, mr_n_87, mr_isI_87, mr_ty_88, mr_n_88, mr_isI_88, mr_ty_89, mr_n_89, mr_isJ_89, mr_ty_90, mr_n_90, mr_isI_90, mr_ty_91, mr_n_91, mr_isI_91, mr_ty_92, mr_n_92, mr_isI_92, mr_ty_93, mr_n_93, mr_isI_93, mr_ty_94, mr_n_94, mr_isI_94, mr_ty_95, mr_n_95, mr_isI_95, mr_ty_96, mr_n_96, mr_isI_96, mr_ty_97, mr_n_97, mr_isI_97, mr_ty_98, mr_n_98, mr_isI_98, mr_ty_99, mr_n_99, mr_isI_99, mr_ty_100, mr_n_100, mr_isI_100, mr_ty_101, mr_n_101, mr_isI_101, mr_isF_1, mr_isF_3, mr_isF_4, mr_isF_10, mr_isF_12, mr_isF_18, mr_isF_19, mr_isF_21, mr_isF_22, mr_isF_23, mr_isF_26, mr_isF_34, mr_isF_37, mr_isF_38, mr_isF_39, mr_T_up, mr_T_upJ, mr_T_f, t1, t2, t3, ck, f19, e1, nI_1, show ¬ (1 : Int32) = 0 by decide, Bool.false_eq_true]
end
