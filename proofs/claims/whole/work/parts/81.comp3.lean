section
variable {d : Nat} {h : mx_H} {ts : List tk}
theorem i32_nI (x : Int32) : ∃ i, x = nI i := ⟨x.toBitVec.toNat, by
  apply Int32.toBitVec_inj.1
  unfold nI
  show x.toBitVec = BitVec.ofNat 32 x.toBitVec.toNat
  rw [BitVec.ofNat_toNat]
  exact (BitVec.setWidth_eq x.toBitVec).symm⟩
theorem rm_compile (S : rm_TK h ts) {t : Nat} (items : Bool) {out0 : List stp} (O : outR h out0) (ho : out0.length ≤ t) (ht : t ≤ ts.length) :
    ∃ h', mx_G (d + 4) 292 0 [some (.ref 76), some (.int (nI t)), some (.int (if items = true then 1 else 0)), none, none, none, none] [] h = some (some (.int (match cF ts (if items = true then 5 else 6) items t with | some q => nI q.2 | none => -1)), h') ∧ mf Pcp h h' ∧ ∀ q, cF ts (if items = true then 5 else 6) items t = some q → outR h' (out0 ++ q.1.1) := by
  have T := S.1.1
  have hl := S.1.2.1
  obtain ⟨i, ei⟩ := i32_nI (mi h 76 18)
  have m1 : mf Pcp h (mx_up h 76 19 (.int 0)) := mf_f (mf_rfl T) (by decide) rfl
  have T1 := m1.1
  have m2 : mf Pcp h (mx_up (mx_up h 76 19 (.int 0)) 76 21 (.int (if items = true then 1 else 0))) := mf_f m1 (by decide) rfl
  have T2 := m2.1
  have m3 : mf Pcp h (mx_up (mx_up (mx_up h 76 19 (.int 0)) 76 21 (.int (if items = true then 1 else 0))) 76 22 (.int (if items = true then 1 else 0))) := mf_f m2 (by decide) rfl
  have T3 := m3.1
  have m4 : mf Pcp h (mx_up (mx_up (mx_up (mx_up h 76 19 (.int 0)) 76 21 (.int (if items = true then 1 else 0))) 76 22 (.int (if items = true then 1 else 0))) 76 23 (.int 0)) := mf_f m3 (by decide) rfl
  have T4 := m4.1
  have C : cR (mx_up (mx_up (mx_up (mx_up h 76 19 (.int 0)) 76 21 (.int (if items = true then 1 else 0))) 76 22 (.int (if items = true then 1 else 0))) 76 23 (.int 0)) (if items = true then 1 else 0) items false [] out0 i := by
    have rd := fun j => mi_f T3 (k := 23) (by decide) 0 j
    have rd3 := fun j => mi_f T2 (k := 22) (by decide) (if items = true then 1 else 0) j
    have rd2 := fun j => mi_f T1 (k := 21) (by decide) (if items = true then 1 else 0) j
    have rd1 := fun j => mi_f T (k := 19) (by decide) 0 j
    refine ⟨T4, ?_, by split <;> decide, ?_, ?_, ?_, ?_, True.intro, ?_, fun j hj => ?_⟩
    · rw [rd, if_neg (by decide), rd3, if_neg (by decide), rd2, if_pos rfl]; cases items <;> rfl
    · rw [rd, if_neg (by decide), rd3, if_pos rfl]
    · rw [rd, if_pos rfl]; rfl
    · rw [rd, if_neg (by decide), rd3, if_neg (by decide), rd2, if_neg (by decide), rd1, if_neg (by decide), ei]
    · rw [rd, if_neg (by decide), rd3, if_neg (by decide), rd2, if_neg (by decide), rd1, if_pos rfl]; rfl
    · rw [rd, if_neg (by decide), rd3, if_neg (by decide), rd2, if_neg (by decide), rd1, if_neg (by decide)]; exact O.1
    · have o : ∀ (a : Nat), a ≠ 76 → mi (mx_up (mx_up (mx_up (mx_up h 76 19 (.int 0)) 76 21 (.int (if items = true then 1 else 0))) 76 22 (.int (if items = true then 1 else 0))) 76 23 (.int 0)) a j = mi h a j := fun a ha => by rw [mi_o ha, mi_o ha, mi_o ha, mi_o ha]
      exact stpR_keep (O.2 j hj) (o _ (by decide)) (o _ (by decide)) (by rw [ml_upI _ _ _ _ _ _ (by decide), ml_upI _ _ _ _ _ _ (by decide), ml_upI _ _ _ _ _ _ (by decide), ml_upI _ _ _ _ _ _ (by decide)]) (o _ (by decide)) (o _ (by decide))
  have st : mx_G (d + 4) 292 0 [some (.ref 76), some (.int (nI t)), some (.int (if items = true then 1 else 0)), none, none, none, none] [] h = mx_G (d + 4) 292 36 [some (.ref 76), some (.int (nI t)), some (.int (if items = true then 1 else 0)), some (.int (nI t)), some (.int 1), some (.int 1), none] [] (mx_up (mx_up (mx_up (mx_up h 76 19 (.int 0)) 76 21 (.int (if items = true then 1 else 0))) 76 22 (.int (if items = true then 1 else 0))) 76 23 (.int 0)) := by
    cases items with
    | true =>
      simp only [if_true] at T2 T3
      simp only [r292_0, r292_1, r292_2, r292_5, r292_6, r292_7, r292_10, r292_11, r292_14, r292_15, r292_18, r292_19, r292_20, r292_23, r292_24, r292_25, r292_28, r292_29, r292_30, r292_31, r292_33, r292_34, mx_isr_ref, mx_isr_null, mx_wt_nil, mx_wt_1, mx_wt_2, mx_wt_3, Option.bind_some, Option.toList_some, Option.toList_none, List.cons_append, List.nil_append, mx_nl_int, mx_nl_ref, mx_nl_null, mx_nl_none, mx_nb0, mx_nb1, mx_fb0, mx_fb1, mx_cat_int, mx_cat_ref, if_true, if_false, not_true_eq_false, not_false_eq_true, T, T1, T2, T3, mr_ty_77, mr_n_77, mr_isI_77, mr_ty_78, mr_n_78, mr_isI_78, mr_ty_79, mr_n_79, mr_isI_79, mr_ty_80, mr_n_80, mr_isI_80, mr_ty_81, mr_n_81, mr_isI_81, mr_ty_82, mr_n_82, mr_isJ_82, mr_ty_83, mr_n_83, mr_isI_83, mr_ty_84, mr_n_84, mr_isI_84, mr_ty_85, mr_n_85, mr_isI_85, mr_ty_86, mr_n_86, mr_isI_86, mr_ty_87, mr_n_87, mr_isI_87, mr_ty_88, mr_n_88, mr_isI_88, mr_ty_89, mr_n_89, mr_isJ_89, mr_ty_90, mr_n_90, mr_isI_90, mr_ty_91, mr_n_91, mr_isI_91, mr_ty_92, mr_n_92, mr_isI_92, mr_ty_93, mr_n_93, mr_isI_93, mr_ty_94, mr_n_94, mr_isI_94, mr_ty_95, mr_n_95, mr_isI_95, mr_ty_96, mr_n_96, mr_isI_96, mr_ty_97, mr_n_97, mr_isI_97, mr_ty_98, mr_n_98, mr_isI_98, mr_ty_99, mr_n_99, mr_isI_99, mr_ty_100, mr_n_100, mr_isI_100, mr_ty_101, mr_n_101, mr_isI_101, mr_isF_1, mr_isF_3, mr_isF_4, mr_isF_10, mr_isF_12, mr_isF_18, mr_isF_19, mr_isF_21, mr_isF_22, mr_isF_23, mr_isF_26, mr_isF_34, mr_isF_37, mr_isF_38, mr_isF_39, mr_T_up, mr_T_upJ, mr_T_f, show ¬ (1 : Int32) = 0 by decide]
    | false =>
      simp only [Bool.false_eq_true, if_false] at T2 T3
      simp only [r292_0, r292_1, r292_2, r292_5, r292_6, r292_7, r292_10, r292_11, r292_14, r292_15, r292_18, r292_19, r292_20, r292_23, r292_24, r292_25, r292_28, r292_29, r292_30, r292_31, r292_33, r292_34, mx_isr_ref, mx_isr_null, mx_wt_nil, mx_wt_1, mx_wt_2, mx_wt_3, Option.bind_some, Option.toList_some, Option.toList_none, List.cons_append, List.nil_append, mx_nl_int, mx_nl_ref, mx_nl_null, mx_nl_none, mx_nb0, mx_nb1, mx_fb0, mx_fb1, mx_cat_int, mx_cat_ref, if_true, if_false, not_true_eq_false, not_false_eq_true, T, T1, T2, T3, mr_ty_77, mr_n_77, mr_isI_77, mr_ty_78, mr_n_78, mr_isI_78, mr_ty_79, mr_n_79, mr_isI_79, mr_ty_80, mr_n_80, mr_isI_80, mr_ty_81, mr_n_81, mr_isI_81, mr_ty_82, mr_n_82, mr_isJ_82, mr_ty_83, mr_n_83, mr_isI_83, mr_ty_84, mr_n_84, mr_isI_84, mr_ty_85, mr_n_85, mr_isI_85, mr_ty_86, mr_n_86, mr_isI_86, mr_ty_87, mr_n_87, mr_isI_87, mr_ty_88, mr_n_88, mr_isI_88, mr_ty_89, mr_n_89, mr_isJ_89, mr_ty_90, mr_n_90, mr_isI_90, mr_ty_91, mr_n_91, mr_isI_91, mr_ty_92, mr_n_92, mr_isI_92, mr_ty_93, mr_n_93, mr_isI_93, mr_ty_94, mr_n_94, mr_isI_94, mr_ty_95, mr_n_95, mr_isI_95, mr_ty_96, mr_n_96, mr_isI_96, mr_ty_97, mr_n_97, mr_isI_97, mr_ty_98, mr_n_98, mr_isI_98, mr_ty_99, mr_n_99, mr_isI_99, mr_ty_100, mr_n_100, mr_isI_100, mr_ty_101, mr_n_101, mr_isI_101, mr_isF_1, mr_isF_3, mr_isF_4, mr_isF_10, mr_isF_12, mr_isF_18, mr_isF_19, mr_isF_21, mr_isF_22, mr_isF_23, mr_isF_26, mr_isF_34, mr_isF_37, mr_isF_38, mr_isF_39, mr_T_up, mr_T_upJ, mr_T_f, Bool.false_eq_true]
  rw [st]
  have hD : (if items = true then 1 else 0) + (if items = true then 5 else 6) = 6 := by cases items <;> rfl
  cases z : cF ts (if items = true then 5 else 6) items t with
  | none =>
    have := O_no_n (hd := hd ts) (its := itn) (cp_fw (d := d) S (t := nI t) (it := if items = true then 1 else 0) (A := -1) (Q := fun _ => True)) (cp_no S) (by omega) _ _ hD items t [] out0 i (by simpa using ho) ht (fun x s' e => by cases e) z
    obtain ⟨h', r, m', -⟩ := this _ none m4 C
    exact ⟨h', r, m', fun q hq => by cases hq⟩
  | some q =>
    have bd := cO_bd _ _ _ _ z
    have := O_ok_n (hd := hd ts) (its := itn) (cp_fw (d := d) S (t := nI t) (it := if items = true then 1 else 0) (A := nI q.2) (Q := fun h' => outR h' (out0 ++ q.1.1))) _ _ hD items t [] out0 i q (by simpa using ho) ht (fun x s' e => by cases e) z ?_
    · obtain ⟨h', r, m', g⟩ := this _ none m4 C
      exact ⟨h', r, m', fun q' hq => by cases hq; exact g⟩
    · intro i' s' out' _ hr hb h1 l6 m C1
      have T1 := C1.1
      have S1 := TK_mf S m tkcp
      have w1 : mi h1 76 23 = 0 := C1.2.2.2.2.1
      have y := rm_saysF (d := d + 3) S1 (t := q.2) (by omega)
      have j := rm_isF (d := d + 3) S1.1 (t := q.2) (by omega)
      have a1 := bd.2.2.1
      have a2 := bd.2.2.2
      by_cases cl : tI ts q.2 41 = true ∨ tI ts q.2 93 = true
      · have key : ∃ b : Bool, tI ts q.2 93 = b ∧ (b = false → tI ts q.2 41 = true) := ⟨tI ts q.2 93, rfl, fun e => by rcases cl with c | c; exact c; rw [c] at e; cases e⟩
        obtain ⟨b, eb, eb'⟩ := key
        obtain ⟨h2, r2, m2, C2⟩ := rm_close0 (d := d + 1) (b := b) C1 (by omega) hr
        have T2 := C2.1
        obtain ⟨h', r', m', g⟩ := rm_cpE (d := d) (t := nI t) (it := if items = true then 1 else 0) (k := nI q.2) (wt := 0) (l6 := l6) (s' := []) (out' := out0 ++ q.1.1) C2 (by have := red_len true s' out'; rw [hr] at this; simp only [List.length_nil] at this ⊢; omega) rfl
        rw [if_pos rfl] at r'
        refine ⟨h', ?_, mf_trans m (mf_trans m2 m'), g⟩
        rw [← r', r292_36]
        cases b with
        | true =>
          simp only [if_true] at r2
          cases z41 : tI ts q.2 41 with
          | true => simp only [r292_38, r292_41, r292_42, r292_45, r292_48, r292_50, r292_84, r292_85, r292_86, r292_89, r292_92, r292_95, r292_96, r292_97, r292_100, r292_103, r292_147, r292_148, r292_149, r292_151, r292_154, r292_157, r292_158, r292_159, r292_161, r292_164, r292_167, r292_168, r292_169, r292_170, r292_172, r292_175, r292_178, r292_180, r292_182, r292_185, r292_186, r292_187, r292_188, r292_191, r292_192, r292_193, mx_isr_ref, mx_isr_null, mx_wt_nil, mx_wt_1, mx_wt_2, mx_wt_3, Option.bind_some, Option.toList_some, Option.toList_none, List.cons_append, List.nil_append, mx_nl_int, mx_nl_ref, mx_nl_null, mx_nl_none, mx_nb0, mx_nb1, mx_fb0, mx_fb1, mx_cat_int, mx_cat_ref, if_true, if_false, not_true_eq_false, not_false_eq_true, T1, T2, w1, y, j, a1, a2, eb, z41, r2, Bool.false_eq_true, show ¬ (1 : Int32) = 0 by decide]
          | false => simp only [r292_38, r292_41, r292_42, r292_45, r292_48, r292_50, r292_84, r292_85, r292_86, r292_89, r292_92, r292_95, r292_96, r292_97, r292_100, r292_103, r292_147, r292_148, r292_149, r292_151, r292_154, r292_157, r292_158, r292_159, r292_161, r292_164, r292_167, r292_168, r292_169, r292_170, r292_172, r292_175, r292_178, r292_180, r292_182, r292_185, r292_186, r292_187, r292_188, r292_191, r292_192, r292_193, mx_isr_ref, mx_isr_null, mx_wt_nil, mx_wt_1, mx_wt_2, mx_wt_3, Option.bind_some, Option.toList_some, Option.toList_none, List.cons_append, List.nil_append, mx_nl_int, mx_nl_ref, mx_nl_null, mx_nl_none, mx_nb0, mx_nb1, mx_fb0, mx_fb1, mx_cat_int, mx_cat_ref, if_true, if_false, not_true_eq_false, not_false_eq_true, T1, T2, w1, y, j, a1, a2, eb, z41, r2, Bool.false_eq_true, show ¬ (1 : Int32) = 0 by decide]
        | false =>
          simp only [Bool.false_eq_true, if_false] at r2
          simp only [r292_38, r292_41, r292_42, r292_45, r292_48, r292_50, r292_84, r292_85, r292_86, r292_89, r292_92, r292_95, r292_96, r292_97, r292_100, r292_103, r292_147, r292_148, r292_149, r292_151, r292_154, r292_157, r292_158, r292_159, r292_161, r292_164, r292_167, r292_168, r292_169, r292_170, r292_172, r292_175, r292_178, r292_180, r292_182, r292_185, r292_186, r292_187, r292_188, r292_191, r292_192, r292_193, mx_isr_ref, mx_isr_null, mx_wt_nil, mx_wt_1, mx_wt_2, mx_wt_3, Option.bind_some, Option.toList_some, Option.toList_none, List.cons_append, List.nil_append, mx_nl_int, mx_nl_ref, mx_nl_null, mx_nl_none, mx_nb0, mx_nb1, mx_fb0, mx_fb1, mx_cat_int, mx_cat_ref, if_true, if_false, not_true_eq_false, not_false_eq_true, T1, T2, w1, y, j, a1, a2, eb, eb' rfl, r2, Bool.false_eq_true, show ¬ (1 : Int32) = 0 by decide]
      · have n1 : tI ts q.2 41 = false := Bool.eq_false_iff.2 fun z => cl (Or.inl z)
        have n2 : tI ts q.2 93 = false := Bool.eq_false_iff.2 fun z => cl (Or.inr z)
        obtain ⟨h', r', m', g⟩ := rm_cpE (d := d) (t := nI t) (it := if items = true then 1 else 0) (k := nI q.2) (wt := 0) (l6 := l6) C1 (by omega) hr
        rw [if_pos rfl] at r'
        refine ⟨h', ?_, mf_trans m m', g⟩
        rw [← r', r292_36]
        simp only [r292_38, r292_41, r292_42, r292_45, r292_48, r292_50, r292_84, r292_85, r292_86, r292_89, r292_92, r292_95, r292_96, r292_97, r292_100, r292_103, r292_147, r292_148, r292_149, r292_151, r292_154, r292_157, r292_158, r292_159, r292_161, r292_164, r292_196, r292_197, r292_199, mx_isr_ref, mx_isr_null, mx_wt_nil, mx_wt_1, mx_wt_2, mx_wt_3, Option.bind_some, Option.toList_some, Option.toList_none, List.cons_append, List.nil_append, mx_nl_int, mx_nl_ref, mx_nl_null, mx_nl_none, mx_nb0, mx_nb1, mx_fb0, mx_fb1, mx_cat_int, mx_cat_ref, if_true, if_false, not_true_eq_false, not_false_eq_true, T1, w1, y, j, a1, a2, n1, n2, Bool.false_eq_true, show ¬ (1 : Int32) = 0 by decide]
end
