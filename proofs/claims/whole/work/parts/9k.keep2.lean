section
variable {d : Nat} {h : mx_H} {ts : List tk}
theorem rm_keep {l : List itf} (D : dI h l) (T : mr_T h) {a b c e f : Option Value} {g : Int32} :
    ∃ h', mx_G (d + 2) 302 150 [some (.ref 76), a, b, c, e, f, some (.int g), none, none] [] h = some (some (.int (if twn (kp l) = true then -401 else 0)), h') ∧ mf P79 h h' ∧ (∀ i, i < 659 → mi h' 77 i = mi h 77 i) ∧ wIt8 h' (kp l) := by
  obtain ⟨d1, d2, d3, d4, d5⟩ := id D
  have A := rm_kpA (d := d + 2) D T (a := a) (b := b) (c := c) (e := e) (f := f) (g := some (.int g)) rfl 5 (Nat.le_refl _)
  have z5 : fxk l 5 = -1 := by unfold fxk fxN; rw [List.drop_eq_nil_of_le (by omega)]; rfl
  rw [z5, show nI 5 + (-1) = 4 by decide] at A
  have s1 : mx_G (d + 2) 302 150 [some (.ref 76), a, b, c, e, f, some (.int g), none, none] [] h = mx_G (d + 2) 302 186 [some (.ref 76), a, b, c, e, f, some (.int g), some (.int (fxk l 0)), some (.int (-1))] [] h := by
    rw [← A]
    simp only [r302_150, r302_151, r302_153, r302_154, mx_isr_ref, mx_isr_null, mx_wt_nil, mx_wt_1, mx_wt_2, mx_wt_3, Option.bind_some, Option.toList_some, Option.toList_none, List.cons_append, List.nil_append, mx_nl_int, mx_nl_ref, mx_nl_null, mx_nl_none, mx_nb0, mx_nb1, mx_fb0, mx_fb1, mx_cat_int, mx_cat_ref, if_true, if_false, not_true_eq_false, not_false_eq_true]
  have key : ∃ h' x, mx_G (d + 2) 302 186 [some (.ref 76), a, b, c, e, f, some (.int g), some (.int (fxk l 0)), some (.int (-1))] [] h = mx_G (d + 2) 302 255 [some (.ref 76), a, b, c, e, f, some (.int g), some (.int (fxk l 0)), some (.int x)] [] h' ∧ mf P79 h h' ∧ (∀ i, i < 660 → mi h' 77 i = mi h 77 i) ∧ (kp l).length = l.length ∧ ∀ j, j < l.length → itR h' 8 j (iG (kp l) j) := by
    have f19 := rm_f (d := d + 1) T (s := 8) (o := 19) (by decide)
    rw [show 80 * 8 + 19 = 659 from rfl, d2, show nI 8 = 8 from rfl, show nI 19 = 19 from rfl] at f19
    have k1 := kp1_L l
    unfold fxk fxN
    rw [List.drop_zero]
    cases z : l.findIdx? fun x => x.2 with
    | none =>
      rw [z] at k1
      have kk : kp l = l.map fun x => x.1 := by unfold kp; rw [k1]; rfl
      refine ⟨h, 0, ?_, mf_rfl T, fun _ _ => rfl, by rw [kk, List.length_map], fun j hj => ?_⟩
      · by_cases q : nI l.length ≤ (0 : Int32)
        · simp only [r302_186, r302_187, r302_189, r302_191, r302_192, r302_194, r302_196, r302_199, r302_202, r302_204, mx_isr_ref, mx_isr_null, mx_wt_nil, mx_wt_1, mx_wt_2, mx_wt_3, Option.bind_some, Option.toList_some, Option.toList_none, List.cons_append, List.nil_append, mx_nl_int, mx_nl_ref, mx_nl_null, mx_nl_none, mx_nb0, mx_nb1, mx_fb0, mx_fb1, mx_cat_int, mx_cat_ref, if_true, if_false, not_true_eq_false, not_false_eq_true, T, f19, q]
        · simp only [r302_186, r302_187, r302_189, r302_191, r302_192, r302_194, r302_196, r302_199, r302_202, r302_204, mx_isr_ref, mx_isr_null, mx_wt_nil, mx_wt_1, mx_wt_2, mx_wt_3, Option.bind_some, Option.toList_some, Option.toList_none, List.cons_append, List.nil_append, mx_nl_int, mx_nl_ref, mx_nl_null, mx_nl_none, mx_nb0, mx_nb1, mx_fb0, mx_fb1, mx_cat_int, mx_cat_ref, if_true, if_false, not_true_eq_false, not_false_eq_true, T, f19, q, show (-1 : Int32) < 0 by decide]
      · rw [kk, xG_1]
        exact d4 j hj
    | some I =>
      rw [z] at k1
      have kk : kp l = kpL I l := by unfold kp; rw [k1]; rfl
      have hI : I < l.length := by
        have := List.findIdx?_eq_some_iff_findIdx_eq.1 z
        omega
      obtain ⟨h', x, r, m, f', R⟩ := rm_kpB (d := d + 1) d1 (I := I) (by omega) (a := a) (b := b) (c := c) (e := e) (f := f) (g := some (.int g)) l.length 0 h (Nat.zero_add _) T d2 fun j hj => by
        rw [if_neg (Nat.not_lt_zero _)]
        exact d4 j hj
      refine ⟨h', x, ?_, m, f', by rw [kk, kpL_len], fun j hj => by rw [kk]; exact R j hj⟩
      show mx_G (d + 2) 302 186 [some (.ref 76), a, b, c, e, f, some (.int g), some (.int (nI (0 + I))), some (.int (-1))] [] h = mx_G (d + 2) 302 255 [some (.ref 76), a, b, c, e, f, some (.int g), some (.int (nI (0 + I))), some (.int x)] [] h'
      rw [Nat.zero_add, ← r]
      simp only [r302_186, r302_187, mx_isr_ref, mx_isr_null, mx_wt_nil, mx_wt_1, mx_wt_2, mx_wt_3, Option.bind_some, Option.toList_some, Option.toList_none, List.cons_append, List.nil_append, mx_nl_int, mx_nl_ref, mx_nl_null, mx_nl_none, mx_nb0, mx_nb1, mx_fb0, mx_fb1, mx_cat_int, mx_cat_ref, if_true, if_false, not_true_eq_false, not_false_eq_true]
      rfl
  obtain ⟨h', x, r, m, f', kl, R⟩ := key
  have W : wIt8 h' (kp l) := by
    refine ⟨by omega, by rw [f' 659 (by decide), kl]; exact d2, fun y hy => ?_, fun k hk => R k (by omega)⟩
    have : y.1 ∈ (kp l).map fun x => x.1 := List.mem_map.2 ⟨y, hy, rfl⟩
    rw [kp_map] at this
    obtain ⟨w, hw, e⟩ := List.mem_map.1 this
    rw [← e]
    exact d3 w hw
  have T' := m.1
  have tw := rm_twice (d := d) T' W
  refine ⟨h', ?_, m, fun i hi => f' i (by omega), W⟩
  rw [s1, r]
  cases z : twn (kp l) with
  | true => rw [z] at tw; simp only [r302_255, r302_256, r302_259, r302_262, r302_265, r302_268, r302_269, mx_isr_ref, mx_isr_null, mx_wt_nil, mx_wt_1, mx_wt_2, mx_wt_3, Option.bind_some, Option.toList_some, Option.toList_none, List.cons_append, List.nil_append, mx_nl_int, mx_nl_ref, mx_nl_null, mx_nl_none, mx_nb0, mx_nb1, mx_fb0, mx_fb1, mx_cat_int, mx_cat_ref, if_true, if_false, not_true_eq_false, not_false_eq_true, T', tw, show ¬ (1 : Int32) = 0 by decide]
  | false => rw [z] at tw; simp only [r302_255, r302_256, r302_259, r302_262, r302_265, r302_268, r302_269, mx_isr_ref, mx_isr_null, mx_wt_nil, mx_wt_1, mx_wt_2, mx_wt_3, Option.bind_some, Option.toList_some, Option.toList_none, List.cons_append, List.nil_append, mx_nl_int, mx_nl_ref, mx_nl_null, mx_nl_none, mx_nb0, mx_nb1, mx_fb0, mx_fb1, mx_cat_int, mx_cat_ref, if_true, if_false, not_true_eq_false, not_false_eq_true, T', tw, Bool.false_eq_true]
/-- nothing is raised -/
theorem rm_rs0 {a b c e f l7 l8 : Option Value} (hf : mx_nl f = true) : ∀ n k h1, k + n = 5 → mr_T h1 →
    ∃ h', mx_G d 302 3 [some (.ref 76), a, b, c, e, f, some (.int (nI k)), l7, l8] [] h1 = mx_G d 302 23 [some (.ref 76), a, b, c, e, f, some (.int (nI 5)), l7, l8] [] h' ∧ mf P79 h1 h' ∧ (∀ i, mi h' 77 i = mi h1 77 i) ∧ ∀ i, mi h' 99 i = if k ≤ i ∧ i < 5 then 0 else mi h1 99 i := by
  intro n
  induction n with
  | zero =>
    intro k h1 hk T
    have : k = 5 := by omega
    subst this
    refine ⟨h1, ?_, mf_rfl T, fun _ => rfl, fun i => by rw [if_neg (by omega)]⟩
    simp only [r302_3, r302_5, r302_6, mx_isr_ref, mx_isr_null, mx_wt_nil, mx_wt_1, mx_wt_2, mx_wt_3, Option.bind_some, Option.toList_some, Option.toList_none, List.cons_append, List.nil_append, mx_nl_int, mx_nl_ref, mx_nl_null, mx_nl_none, mx_nb0, mx_nb1, mx_fb0, mx_fb1, mx_cat_int, mx_cat_ref, if_true, if_false, not_true_eq_false, not_false_eq_true, show (5 : Int32) ≤ nI 5 by decide]
  | succ n ih =>
    intro k h1 hk T
    have e1 : ¬ (5 : Int32) ≤ nI k := nI_ge (b := 5) (by omega) (by decide)
    have t1 : (nI k).toNatClampNeg = k := nI_clamp (by omega)
    have t2 : (0 : Int32) ≤ nI k := nI_pos' (by omega)
    have t3 : k < 5 := by omega
    have m2 := mf_up (P := P79) (a := 99) (k := k) (x := 0) (mf_rfl T) (by decide) rfl
    have l99 : mx_ln h1 99 = 5 := by rw [mr_ln T mr_ty_99]; rfl
    obtain ⟨h', r, m', g7, g9⟩ := ih (k + 1) _ (by omega) m2.1
    refine ⟨h', ?_, mf_trans m2 m', fun i => by rw [g7, mi_up, if_neg (by omega)], fun i => ?_⟩
    · rw [← r, r302_3]
      simp only [r302_5, r302_6, r302_9, r302_10, r302_13, r302_15, r302_16, r302_17, r302_20, mx_isr_ref, mx_isr_null, mx_wt_nil, mx_wt_1, mx_wt_2, mx_wt_3, Option.bind_some, Option.toList_some, Option.toList_none, List.cons_append, List.nil_append, mx_nl_int, mx_nl_ref, mx_nl_null, mx_nl_none, mx_nb0, mx_nb1, mx_fb0, mx_fb1, mx_cat_int, mx_cat_ref, if_true, if_false, not_true_eq_false, not_false_eq_true, T, mr_ty_77, mr_n_77, mr_isI_77, mr_ty_78, mr_n_78, mr_isI_78, mr_ty_79, mr_n_79, mr_isI_79, mr_ty_80, mr_n_80, mr_isI_80, mr_ty_81, mr_n_81, mr_isI_81, mr_ty_82, mr_n_82, mr_isJ_82, mr_ty_83, mr_n_83, mr_isI_83, mr_ty_84, mr_n_84, mr_isI_84, mr_ty_85, mr_n_85, mr_isI_85, mr_ty_86, mr_n_86, mr_isI_86, mr_ty_87, mr_n_87, mr_isI_87, mr_ty_88, mr_n_88, mr_isI_88, mr_ty_89, mr_n_89, mr_isJ_89, mr_ty_90, mr_n_90, mr_isI_90, mr_ty_91, mr_n_91, mr_isI_91, mr_ty_92, mr_n_92, mr_isI_92, mr_ty_93, mr_n_93, mr_isI_93, mr_ty_94, mr_n_94, mr_isI_94, mr_ty_95, mr_n_95, mr_isI_95, mr_ty_96, mr_n_96, mr_isI_96, mr_ty_97, mr_n_97, mr_isI_97, mr_ty_98, mr_n_98, mr_isI_98, mr_ty_99, mr_n_99, mr_isI_99, mr_ty_100, mr_n_100, mr_isI_100, mr_ty_101, mr_n_101, mr_isI_101, mr_isF_1, mr_isF_3, mr_isF_4, mr_isF_10, mr_isF_12, mr_isF_18, mr_isF_19, mr_isF_21, mr_isF_22, mr_isF_23, mr_isF_26, mr_isF_34, mr_isF_37, mr_isF_38, mr_isF_39, mr_T_up, mr_T_upJ, mr_T_f, t1, t2, t3, e1, hf, nI_1]
    · rw [g9, mi_up, l99]
      by_cases q : k ≤ i ∧ i < 5
      · rw [if_pos q]
        by_cases q2 : i = k
        · rw [if_neg (by omega), if_pos ⟨rfl, q2, t3⟩]
        · rw [if_pos (by omega)]
      · rw [if_neg q, if_neg (by omega), if_neg (by omega)]
end
