section
variable {d : Nat} {h : mx_H} {ts : List tk}
theorem wt5 {a c e : Int32} {b f : Nat} : mx_wt [.int a, .ref b, .int c, .int e, .ref f] ≤ 8 := by simp [mx_wt, Value.category]
/-- which items are chosen -/
def cS (h : mx_H) (bs : List Bool) : Prop := ∀ k, k < bs.length → mi h 98 k = if bs.getD k false = true then 1 else 0
theorem mi98 {h' : mx_H} (m : mf P79 h h') (k : Nat) : mi h' 98 k = mi h 98 k := m.2.1 98 k rfl
theorem cS_mf {h' : mx_H} {bs : List Bool} (C : cS h bs) (m : mf P79 h h') : cS h' bs := fun k hk => (mi98 m k).trans (C k hk)
/-- those that are not chosen -/
def dpd (l : List itm) (bs : List Bool) : List itm := (l.zip bs).filterMap fun x => if x.2 = true then none else some x.1
theorem rm_dpI {l3 : Option Value} {a f : Nat} (ha : a ≤ f) (hf : f < 5) : ∀ n j h1, j + n = 14 → mr_T h1 → mi h1 98 f = 0 →
    ∃ h', mx_G (d + 1) 318 18 [some (.ref 76), some (.int (nI a)), some (.int (nI f)), some (.int (nI j))] [] h1 = mx_G (d + 1) 318 65 [some (.ref 76), some (.int (nI a)), some (.int (nI f)), some (.int (nI 14))] [] h' ∧ mf P77 h1 h' ∧ ∀ i, mi h' 77 i = if 660 + 14 * a + j ≤ i ∧ i < 660 + 14 * a + 14 then mi h1 77 (i + 14 * (f - a)) else mi h1 77 i := by
  intro n
  induction n with
  | zero =>
    intro j h1 hj T c
    have : j = 14 := by omega
    subst this
    refine ⟨h1, ?_, mf_rfl T, fun i => ?_⟩
    · simp only [r318_18, r318_19, r318_21, mx_isr_ref, mx_isr_null, mx_wt_nil, mx_wt_1, mx_wt_2, mx_wt_3, Option.bind_some, Option.toList_some, Option.toList_none, List.cons_append, List.nil_append, mx_nl_int, mx_nl_ref, mx_nl_null, mx_nl_none, mx_nb0, mx_nb1, mx_fb0, mx_fb1, mx_cat_int, mx_cat_ref, if_true, if_false, not_true_eq_false, not_false_eq_true, show (14 : Int32) ≤ nI 14 by decide]
    · rw [if_neg (by omega)]
  | succ n ih =>
    intro j h1 hj T c
    have e1 : ¬ (14 : Int32) ≤ nI j := nI_ge (b := 14) (by omega) (by decide)
    have t1 : (nI f).toNatClampNeg = f := nI_clamp (by omega)
    have t2 : (0 : Int32) ≤ nI f := nI_pos' (by omega)
    have ia := rm_item (d := d) (h := h1) (k := a)
    have jf := rm_item (d := d) (h := h1) (k := f)
    have rf := rm_f (d := d) T (s := 8) (o := 20 + 14 * f + j) (by omega)
    rw [show nI 8 = 8 from rfl] at rf
    have rs := rm_set (d := d) T (s := 8) (o := 20 + 14 * a + j) (v := mi h1 77 (80 * 8 + (20 + 14 * f + j))) (by omega)
    rw [show nI 8 = 8 from rfl] at rs
    have m2 : mf P77 h1 (mx_up h1 77 (80 * 8 + (20 + 14 * a + j)) (.int (mi h1 77 (80 * 8 + (20 + 14 * f + j))))) := mf_up (mf_rfl T) (by decide) (P77_t (by omega))
    have T2 := m2.1
    obtain ⟨h', r, m', g⟩ := ih (j + 1) _ (by omega) T2 ((mi98 (mf_mono w79 m2) f).trans c)
    refine ⟨h', ?_, mf_trans m2 m', fun i => ?_⟩
    · rw [← r, r318_18]
      simp only [r318_19, r318_21, r318_24, r318_25, r318_28, r318_29, r318_30, r318_33, r318_34, r318_36, r318_37, r318_38, r318_41, r318_42, r318_43, r318_44, r318_46, r318_47, r318_48, r318_51, r318_52, r318_53, r318_56, r318_59, r318_62, mx_isr_ref, mx_isr_null, mx_wt_nil, mx_wt_1, mx_wt_2, mx_wt_3, Option.bind_some, Option.toList_some, Option.toList_none, List.cons_append, List.nil_append, mx_nl_int, mx_nl_ref, mx_nl_null, mx_nl_none, mx_nb0, mx_nb1, mx_fb0, mx_fb1, mx_cat_int, mx_cat_ref, if_true, if_false, not_true_eq_false, not_false_eq_true, wt5, T, T2, mr_ty_77, mr_n_77, mr_isI_77, mr_ty_78, mr_n_78, mr_isI_78, mr_ty_79, mr_n_79, mr_isI_79, mr_ty_80, mr_n_80, mr_isI_80, mr_ty_81, mr_n_81, mr_isI_81, mr_ty_82, mr_n_82, mr_isJ_82, mr_ty_83, mr_n_83, mr_isI_83, mr_ty_84, mr_n_84, mr_isI_84, mr_ty_85, mr_n_85, mr_isI_85, mr_ty_86, mr_n_86, mr_isI_86, mr_ty_87, mr_n_87, mr_isI_87, mr_ty_88, mr_n_88, mr_isI_88, mr_ty_89, mr_n_89, mr_isJ_89, mr_ty_90, mr_n_90, mr_isI_90, mr_ty_91, mr_n_91, mr_isI_91, mr_ty_92, mr_n_92, mr_isI_92, mr_ty_93, mr_n_93, mr_isI_93, mr_ty_94, mr_n_94, mr_isI_94, mr_ty_95, mr_n_95, mr_isI_95, mr_ty_96, mr_n_96, mr_isI_96, mr_ty_97, mr_n_97, mr_isI_97, mr_ty_98, mr_n_98, mr_isI_98, mr_ty_99, mr_n_99, mr_isI_99, mr_ty_100, mr_n_100, mr_isI_100, mr_ty_101, mr_n_101, mr_isI_101, mr_isF_1, mr_isF_3, mr_isF_4, mr_isF_10, mr_isF_12, mr_isF_18, mr_isF_19, mr_isF_21, mr_isF_22, mr_isF_23, mr_isF_26, mr_isF_34, mr_isF_37, mr_isF_38, mr_isF_39, mr_T_up, mr_T_upJ, mr_T_f, t1, t2, hf, e1, c, ia, jf, nI_add, rf, rs, nI_1]
    · rw [g, mi_r T (by omega), mi_r T (by omega)]
      by_cases q : 660 + 14 * a + j ≤ i ∧ i < 660 + 14 * a + 14
      · rw [if_pos q]
        by_cases q2 : i = 80 * 8 + (20 + 14 * a + j)
        · rw [if_neg (by omega), if_pos q2]
          congr 1
          omega
        · rw [if_pos (by omega), if_neg (by omega)]
      · rw [if_neg q, if_neg (by omega), if_neg (by omega)]
theorem dpd_drop {l : List itm} {bs : List Bool} (hb : bs.length = l.length) {k : Nat} (hk : k < l.length) : dpd (l.drop k) (bs.drop k) = (if bs.getD k false = true then [] else [iG l k]) ++ dpd (l.drop (k + 1)) (bs.drop (k + 1)) := by
  rw [drop_iG hk]
  have e : bs.drop k = bs.getD k false :: bs.drop (k + 1) := by
    rw [List.getD_eq_getElem?_getD, List.getElem?_eq_getElem (by omega)]
    exact List.drop_eq_getElem_cons (by omega)
  rw [e]
  generalize bs.getD k false = b
  unfold dpd
  rw [List.zip_cons_cons, List.filterMap_cons]
  cases b <;> rfl
theorem rm_dpL {l : List itm} {bs : List Bool} (hb : bs.length = l.length) (h4 : l.length ≤ 4) : ∀ n k done h1 l3, k + n = l.length → mx_nl l3 = true → done.length ≤ k → mr_T h1 → cS h1 bs → mi h1 77 659 = nI l.length → (∀ j, j < done.length → itR h1 8 j (iG done j)) → (∀ j, k ≤ j → j < l.length → itR h1 8 j (iG l j)) →
    ∃ h', mx_G (d + 1) 318 4 [some (.ref 76), some (.int (nI done.length)), some (.int (nI k)), l3] [] h1 = some (none, h') ∧ mf P79 h1 h' ∧ (∀ i, i < 659 → mi h' 77 i = mi h1 77 i) ∧ (∀ i, mi h' 99 i = mi h1 99 i) ∧ mi h' 77 659 = nI (done ++ dpd (l.drop k) (bs.drop k)).length ∧ ∀ j, j < (done ++ dpd (l.drop k) (bs.drop k)).length → itR h' 8 j (iG (done ++ dpd (l.drop k) (bs.drop k)) j) := by
  intro n
  induction n with
  | zero =>
    intro k done h1 l3 hk n3 hd T C c19 I1 I2
    have e1 : nI l.length ≤ nI k := nI_le (by omega) (by omega)
    have f19 := rm_f (d := d) T (s := 8) (o := 19) (by decide)
    rw [show 80 * 8 + 19 = 659 from rfl, c19, show nI 8 = 8 from rfl, show nI 19 = 19 from rfl] at f19
    have s1 := rm_set (d := d) T (s := 8) (o := 19) (v := nI done.length) (by decide)
    rw [show nI 8 = 8 from rfl, show nI 19 = 19 from rfl, show 80 * 8 + 19 = 659 from rfl] at s1
    have m1 : mf P79 h1 (mx_up h1 77 659 (.int (nI done.length))) := mf_up (mf_rfl T) (by decide) (P79_t (by decide))
    rw [List.drop_eq_nil_of_le (by omega), show dpd [] (bs.drop k) = [] from rfl, List.append_nil]
    refine ⟨_, ?_, m1, fun i hi => by rw [mi_r T (by decide), if_neg (by omega)], fun i => by rw [mi_up, if_neg (by omega)], by rw [mi_r T (by decide), if_pos rfl], fun j hj => itR_keep (I1 j hj) fun q hq => by rw [mi_r T (by decide), if_neg (by omega)]⟩
    simp only [r318_4, r318_5, r318_6, r318_8, r318_10, r318_13, r318_88, r318_89, r318_91, r318_93, r318_94, r318_97, mx_isr_ref, mx_isr_null, mx_wt_nil, mx_wt_1, mx_wt_2, mx_wt_3, Option.bind_some, Option.toList_some, Option.toList_none, List.cons_append, List.nil_append, mx_nl_int, mx_nl_ref, mx_nl_null, mx_nl_none, mx_nb0, mx_nb1, mx_fb0, mx_fb1, mx_cat_int, mx_cat_ref, if_true, if_false, not_true_eq_false, not_false_eq_true, T, m1.1, f19, e1, s1]
  | succ n ih =>
    intro k done h1 l3 hk n3 hd T C c19 I1 I2
    have hkl : k < l.length := by omega
    have e1 : ¬ nI l.length ≤ nI k := nI_ge (by omega) (by omega)
    have f19 := rm_f (d := d) T (s := 8) (o := 19) (by decide)
    rw [show 80 * 8 + 19 = 659 from rfl, c19, show nI 8 = 8 from rfl, show nI 19 = 19 from rfl] at f19
    have t1 : (nI k).toNatClampNeg = k := nI_clamp (by omega)
    have t2 : (0 : Int32) ≤ nI k := nI_pos' (by omega)
    have t3 : k < 5 := by omega
    have ck := C k (by omega)
    rw [dpd_drop hb hkl]
    cases z : bs.getD k false with
    | true =>
      rw [z] at ck
      have ck : mi h1 98 k = 1 := ck
      obtain ⟨h', r, m', f', g9, g1, g2⟩ := ih (k + 1) done h1 (some (.int 0)) (by omega) rfl (by omega) T C c19 I1 fun j q1 q2 => I2 j (by omega) q2
      refine ⟨h', ?_, m', f', g9, g1, g2⟩
      rw [← r, r318_4]
      simp only [r318_5, r318_6, r318_8, r318_10, r318_13, r318_16, r318_17, r318_18, r318_19, r318_21, r318_24, r318_25, r318_28, r318_29, r318_30, r318_33, r318_34, r318_36, r318_37, r318_38, r318_41, r318_42, r318_43, r318_44, r318_46, r318_47, r318_48, r318_51, r318_52, r318_53, r318_56, r318_59, r318_62, r318_65, r318_66, r318_69, r318_70, r318_71, r318_74, r318_75, r318_78, r318_79, r318_80, r318_81, r318_82, r318_85, mx_isr_ref, mx_isr_null, mx_wt_nil, mx_wt_1, mx_wt_2, mx_wt_3, Option.bind_some, Option.toList_some, Option.toList_none, List.cons_append, List.nil_append, mx_nl_int, mx_nl_ref, mx_nl_null, mx_nl_none, mx_nb0, mx_nb1, mx_fb0, mx_fb1, mx_cat_int, mx_cat_ref, if_true, if_false, not_true_eq_false, not_false_eq_true, T, mr_ty_77, mr_n_77, mr_isI_77, mr_ty_78, mr_n_78, mr_isI_78, mr_ty_79, mr_n_79, mr_isI_79, mr_ty_80, mr_n_80, mr_isI_80, mr_ty_81, mr_n_81, mr_isI_81, mr_ty_82, mr_n_82, mr_isJ_82, mr_ty_83, mr_n_83, mr_isI_83, mr_ty_84, mr_n_84, mr_isI_84, mr_ty_85, mr_n_85, mr_isI_85, mr_ty_86, mr_n_86, mr_isI_86, mr_ty_87, mr_n_87, mr_isI_87, mr_ty_88, mr_n_88, mr_isI_88, mr_ty_89, mr_n_89, mr_isJ_89, mr_ty_90, mr_n_90, mr_isI_90, mr_ty_91, mr_n_91, mr_isI_91, mr_ty_92, mr_n_92, mr_isI_92, mr_ty_93, mr_n_93, mr_isI_93, mr_ty_94, mr_n_94, mr_isI_94, mr_ty_95, mr_n_95, mr_isI_95, mr_ty_96, mr_n_96, mr_isI_96, mr_ty_97, mr_n_97, mr_isI_97, mr_ty_98, mr_n_98, mr_isI_98, mr_ty_99, mr_n_99, mr_isI_99, mr_ty_100, mr_n_100, mr_isI_100, mr_ty_101, mr_n_101, mr_isI_101, mr_isF_1, mr_isF_3, mr_isF_4, mr_isF_10, mr_isF_12, mr_isF_18, mr_isF_19, mr_isF_21, mr_isF_22, mr_isF_23, mr_isF_26, mr_isF_34, mr_isF_37, mr_isF_38, mr_isF_39, mr_T_up, mr_T_upJ, mr_T_f, t1, t2, t3, f19, e1, ck, n3, nI_1, show ¬ (14 : Int32) ≤ 0 by decide, show ¬ (1 : Int32) = 0 by decide]
    | false =>
      rw [z] at ck
      have ck : mi h1 98 k = 0 := ck
      obtain ⟨h2, r2, m7, g⟩ := rm_dpI (d := d) (l3 := none) (a := done.length) (f := k) (by omega) t3 14 0 h1 rfl T ck
      have m2 := mf_mono w79 m7
      have T2 := m2.1
      have ck2 : mi h2 98 k = 0 := (mi98 m2 k).trans ck
      have h99 : ∀ i, mi h2 99 i = mi h1 99 i := fun i => m7.2.1 99 i rfl
      obtain ⟨h', r, m', f', g9, g1, g2⟩ := ih (k + 1) (done ++ [iG l k]) h2 (some (.int (nI 14))) (by omega) rfl (by simp only [List.length_append, List.length_cons, List.length_nil]; omega) T2 (cS_mf C m2) (by rw [g, if_neg (by omega)]; exact c19)
        (fun j hj q hq => by
          rw [g]
          by_cases e : j < done.length
          · rw [if_neg (by omega), iG_app_l e]
            exact I1 j e q hq
          · have : j = done.length := by simp only [List.length_append, List.length_cons, List.length_nil] at hj; omega
            subst this
            rw [if_pos (by omega), iG_app, ← I2 k (Nat.le_refl _) hkl q hq]
            congr 1
            omega)
        (fun j q1 q2 q hq => by
          rw [g, if_neg (by omega)]
          exact I2 j (by omega) q2 q hq)
      rw [List.append_assoc] at g1 g2
      refine ⟨h', ?_, mf_trans m2 m', fun i hi => ?_, fun i => (g9 i).trans (h99 i), g1, g2⟩
      · rw [← r, List.length_append]
        have s1 : mx_G (d + 1) 318 4 [some (.ref 76), some (.int (nI done.length)), some (.int (nI k)), l3] [] h1 = mx_G (d + 1) 318 18 [some (.ref 76), some (.int (nI done.length)), some (.int (nI k)), some (.int (nI 0))] [] h1 := by
          simp only [r318_4, r318_5, r318_6, r318_8, r318_10, r318_13, r318_16, r318_17, mx_isr_ref, mx_isr_null, mx_wt_nil, mx_wt_1, mx_wt_2, mx_wt_3, Option.bind_some, Option.toList_some, Option.toList_none, List.cons_append, List.nil_append, mx_nl_int, mx_nl_ref, mx_nl_null, mx_nl_none, mx_nb0, mx_nb1, mx_fb0, mx_fb1, mx_cat_int, mx_cat_ref, if_true, if_false, not_true_eq_false, not_false_eq_true, T, f19, e1, n3]
          rfl
        rw [s1, r2]
        simp only [r318_65, r318_66, r318_69, r318_70, r318_71, r318_74, r318_75, r318_78, r318_79, r318_80, r318_81, r318_82, r318_85, mx_isr_ref, mx_isr_null, mx_wt_nil, mx_wt_1, mx_wt_2, mx_wt_3, Option.bind_some, Option.toList_some, Option.toList_none, List.cons_append, List.nil_append, mx_nl_int, mx_nl_ref, mx_nl_null, mx_nl_none, mx_nb0, mx_nb1, mx_fb0, mx_fb1, mx_cat_int, mx_cat_ref, if_true, if_false, not_true_eq_false, not_false_eq_true, T2, mr_ty_77, mr_n_77, mr_isI_77, mr_ty_78, mr_n_78, mr_isI_78, mr_ty_79, mr_n_79, mr_isI_79, mr_ty_80, mr_n_80, mr_isI_80, mr_ty_81, mr_n_81, mr_isI_81, mr_ty_82, mr_n_82, mr_isJ_82, mr_ty_83, mr_n_83, mr_isI_83, mr_ty_84, mr_n_84, mr_isI_84, mr_ty_85, mr_n_85, mr_isI_85, mr_ty_86, mr_n_86, mr_isI_86, mr_ty_87, mr_n_87, mr_isI_87, mr_ty_88, mr_n_88, mr_isI_88, mr_ty_89, mr_n_89, mr_isJ_89, mr_ty_90, mr_n_90, mr_isI_90, mr_ty_91, mr_n_91, mr_isI_91, mr_ty_92, mr_n_92, mr_isI_92, mr_ty_93, mr_n_93, mr_isI_93, mr_ty_94, mr_n_94, mr_isI_94, mr_ty_95, mr_n_95, mr_isI_95, mr_ty_96, mr_n_96, mr_isI_96, mr_ty_97, mr_n_97, mr_isI_97, mr_ty_98, mr_n_98, mr_isI_98, mr_ty_99, mr_n_99, mr_isI_99, mr_ty_100, mr_n_100, mr_isI_100, mr_ty_101, mr_n_101, mr_isI_101, mr_isF_1, mr_isF_3, mr_isF_4, mr_isF_10, mr_isF_12, mr_isF_18, mr_isF_19, mr_isF_21, mr_isF_22, mr_isF_23, mr_isF_26, mr_isF_34, mr_isF_37, mr_isF_38, mr_isF_39, mr_T_up, mr_T_upJ, mr_T_f, t1, t2, t3, ck2, nI_1, List.length_cons, List.length_nil]
      · rw [f' i hi, g, if_neg (by omega)]
theorem rm_drop (T : mr_T h) {l : List itm} {bs : List Bool} (hb : bs.length = l.length) (D : dI h (mrk l)) (C : cS h bs) :
    ∃ h', mx_G (d + 1) 318 0 [some (.ref 76), none, none, none] [] h = some (none, h') ∧ mf P79 h h' ∧ (∀ i, i < 659 → mi h' 77 i = mi h 77 i) ∧ dI h' (mrk (dpd l bs)) := by
  obtain ⟨d1, d2, d3, d4, d5⟩ := D
  rw [mrk_len] at d1 d2 d4
  have sub : (dpd l bs).Sublist l := drop_sub l bs
  obtain ⟨h', r, m, f, g9, g1, g2⟩ := rm_dpL (d := d) hb d1 l.length 0 [] h none (Nat.zero_add _) rfl (Nat.le_refl _) T C d2 (fun j hj => (Nat.not_lt_zero j hj).elim) fun j _ q2 => by
    have := d4 j q2
    rw [xG_mrk] at this
    exact this
  rw [List.nil_append, List.drop_zero, List.drop_zero] at g1 g2
  refine ⟨h', ?_, m, f, ?_, ?_, fun x hx => ?_, fun k hk => ?_, fun k hk => ?_⟩
  · rw [← r]
    simp only [r318_0, r318_1, r318_2, r318_3, mx_isr_ref, mx_isr_null, mx_wt_nil, mx_wt_1, mx_wt_2, mx_wt_3, Option.bind_some, Option.toList_some, Option.toList_none, List.cons_append, List.nil_append, mx_nl_int, mx_nl_ref, mx_nl_null, mx_nl_none, mx_nb0, mx_nb1, mx_fb0, mx_fb1, mx_cat_int, mx_cat_ref, if_true, if_false, not_true_eq_false, not_false_eq_true]
    rfl
  · rw [mrk_len]; exact Nat.le_trans sub.length_le d1
  · rw [mrk_len]; exact g1
  · obtain ⟨y, hy, rfl⟩ := List.mem_map.1 hx
    exact d3 (y, false) (List.mem_map.2 ⟨y, sub.subset hy, rfl⟩)
  · rw [mrk_len] at hk
    rw [xG_mrk]
    exact g2 k hk
  · rw [g9, d5 k hk, xG_mrk, xG_mrk]
end
