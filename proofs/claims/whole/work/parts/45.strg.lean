section
variable {d : Nat}
/-- l written behind the w that are written -/
def rm_txt : List Nat → Nat → mx_H → mx_H
  | [], _, h => h
  | c :: l, w, h => rm_txt l (w + 1) (mx_up (mx_up h 83 w (.int (nI c))) 76 10 (.int (nI (w + 1))))
theorem rm_txt_buf {bs : List Nat} : ∀ (l : List Nat) (w : Nat) (h : mx_H), rm_buf h bs → rm_buf (rm_txt l w h) bs := by
  intro l
  induction l with
  | nil => intro w h B; exact B
  | cons c l ih =>
    intro w h B
    exact ih _ _ (rm_buf_f (rm_buf_up B _ (by decide) (by decide)) _ (by decide) (by decide))
theorem rm_txt_T : ∀ (l : List Nat) (w : Nat) (h : mx_H), mr_T h → mr_T (rm_txt l w h) := by
  intro l
  induction l with
  | nil => intro w h B; exact B
  | cons c l ih =>
    intro w h B
    exact ih _ _ (mr_T_f (mr_T_up B (by decide) _) (by decide) _)
/-- nothing else is changed -/
theorem rm_txt_mi : ∀ (l : List Nat) (w : Nat) (h : mx_H) (a k : Nat), a ≠ 83 → ¬ (a = 76 ∧ k = 10) → mi (rm_txt l w h) a k = mi h a k := by
  intro l
  induction l with
  | nil => intros; rfl
  | cons c l ih =>
    intro w h a k h1 h2
    unfold rm_txt
    rw [ih _ _ _ _ h1 h2, mi_up, if_neg (fun z => h2 ⟨z.1, z.2.1⟩), mi_up, if_neg (fun z => h1 z.1)]
theorem rm_txt_ml : ∀ (l : List Nat) (w : Nat) (h : mx_H) (a k : Nat), a ≠ 83 → a ≠ 76 → ml (rm_txt l w h) a k = ml h a k := by
  intro l
  induction l with
  | nil => intros; rfl
  | cons c l ih =>
    intro w h a k h1 h2
    unfold rm_txt
    rw [ih _ _ _ _ h1 h2, ml_upI _ _ _ _ _ _ h2, ml_upI _ _ _ _ _ _ h1]
theorem rm_txt_w : ∀ (l : List Nat) (w : Nat) (h : mx_H), mr_T h → mi h 76 10 = nI w → mi (rm_txt l w h) 76 10 = nI (w + l.length) := by
  intro l
  induction l with
  | nil => intro w h _ e; exact e
  | cons c l ih =>
    intro w h T e
    have T' : mr_T (mx_up h 83 w (.int (nI c))) := mr_T_up T (by decide) _
    unfold rm_txt
    rw [ih _ _ (mr_T_f T' (by decide) _) (by rw [mi_up, if_pos ⟨rfl, rfl, by rw [T'.2.1]; decide⟩])]
    simp only [List.length_cons]
    congr 1
    omega
theorem rm_txt_old : ∀ (l : List Nat) (w : Nat) (h : mx_H) (k : Nat), k < w → mi (rm_txt l w h) 83 k = mi h 83 k := by
  intro l
  induction l with
  | nil => intros; rfl
  | cons c l ih =>
    intro w h k hk
    unfold rm_txt
    rw [ih _ _ _ (by omega), mi_up, if_neg (fun z => absurd z.1 (by decide)), mi_up, if_neg (fun z => by omega)]
theorem rm_txt_new : ∀ (l : List Nat) (w : Nat) (h : mx_H) (j : Nat), mr_T h → w + l.length ≤ 130 → j < l.length → mi (rm_txt l w h) 83 (w + j) = nI (l.getD j 0) := by
  intro l
  induction l with
  | nil => intro w h j _ _ hj; cases hj
  | cons c l ih =>
    intro w h j T hw hj
    simp only [List.length_cons] at hw hj
    have T' : mr_T (mx_up h 83 w (.int (nI c))) := mr_T_up T (by decide) _
    unfold rm_txt
    cases j with
    | zero =>
      rw [Nat.add_zero, rm_txt_old _ _ _ _ (by omega), mi_up, if_neg (fun z => absurd z.1 (by decide)), mi_up, if_pos ⟨rfl, rfl, by rw [mr_ln T mr_ty_83, mr_n_83]; omega⟩]
      rfl
    | succ j =>
      rw [show w + (j + 1) = w + 1 + j by omega, ih _ _ _ (mr_T_f T' (by decide) _) (by omega) (by omega)]
      rfl
theorem rm_txt_app (l m : List Nat) : ∀ (w : Nat) (h : mx_H), rm_txt (l ++ m) w h = rm_txt m (w + l.length) (rm_txt l w h) := by
  induction l with
  | nil => intros; rfl
  | cons c l ih =>
    intro w h
    simp only [List.cons_append, rm_txt, List.length_cons]
    rw [ih]
    congr 1
    omega
theorem nar_char : ∀ c, c < 128 → ((nI c).toUInt32 % 65536).toInt32 = nI c ∧ narrow .char (.int (nI c)) = .int (nI c) ∧ (nI c < 32 ↔ c < 32) ∧ (nI c = 34 ↔ c = 34) ∧ (nI c = 92 ↔ c = 92) ∧ (nI c = 47 ↔ c = 47) := by decide +kernel
/-- one letter of a string, or its escape -/
theorem rm_strS {h : mx_H} {bs : List Nat} (B : rm_buf h bs) {p q w c n : Nat} {v3 v4 : Option Value} (hq : q ≤ 122) (hw : mi h 76 10 = nI w) (hwl : w < 130) (hc : c < 128) (hn : n = 1 ∨ n = 2) (h3 : mx_nl v3 = true) :
    mx_G d 247 98 [some (.ref 76), some (.int (nI p)), some (.int (nI q)), some (.int (if n = 2 then 1 else 0)), some (.int (nI c))] [] h = mx_G d 247 17 [some (.ref 76), some (.int (nI p)), some (.int (nI (q + n))), some (.int (if n = 2 then 1 else 0)), some (.int (nI c))] [] (mx_up (mx_up h 83 w (.int (nI c))) 76 10 (.int (nI (w + 1)))) := by
  have hT := B.1
  obtain ⟨c1, c2, -⟩ := nar_char c hc
  have t1 : (nI w).toNatClampNeg = w := nI_clamp (by omega)
  have t2 : (0 : Int32) ≤ nI w := nI_pos' (by omega)
  have T' : mr_T (mx_up h 83 w (.int (nI c))) := mr_T_up hT (by decide) _
  have e1 : mi (mx_up h 83 w (.int (nI c))) 76 10 = nI w := by rw [mi_up, if_neg (fun z => absurd z.1 (by decide))]; exact hw
  have e2 : nI q + 2 = nI (q + 2) := nI_add q 2
  rcases hn with rfl | rfl
  · simp only [r247_98, r247_99, r247_102, r247_103, r247_106, r247_108, r247_109, r247_110, r247_111, r247_112, r247_115, r247_116, r247_117, r247_120, r247_121, r247_124, r247_125, r247_126, r247_127, r247_130, r247_131, r247_132, r247_133, r247_134, mx_isr_ref, mx_isr_null, mx_wt_nil, mx_wt_1, mx_wt_2, mx_wt_3, Option.bind_some, Option.toList_some, Option.toList_none, List.cons_append, List.nil_append, mx_nl_int, mx_nl_ref, mx_nl_null, mx_nl_none, mx_nb0, mx_nb1, mx_cat_int, mx_cat_ref, if_true, if_false, not_true_eq_false, not_false_eq_true, hT, T', hw, e1, mr_ty_77, mr_n_77, mr_isI_77, mr_ty_78, mr_n_78, mr_isI_78, mr_ty_79, mr_n_79, mr_isI_79, mr_ty_80, mr_n_80, mr_isI_80, mr_ty_81, mr_n_81, mr_isI_81, mr_ty_82, mr_n_82, mr_isJ_82, mr_ty_83, mr_n_83, mr_isI_83, mr_ty_84, mr_n_84, mr_isI_84, mr_ty_85, mr_n_85, mr_isI_85, mr_ty_86, mr_n_86, mr_isI_86, mr_ty_87, mr_n_87, mr_isI_87, mr_ty_88, mr_n_88, mr_isI_88, mr_ty_89, mr_n_89, mr_isJ_89, mr_ty_90, mr_n_90, mr_isI_90, mr_ty_91, mr_n_91, mr_isI_91, mr_ty_92, mr_n_92, mr_isI_92, mr_ty_93, mr_n_93, mr_isI_93, mr_ty_94, mr_n_94, mr_isI_94, mr_ty_95, mr_n_95, mr_isI_95, mr_ty_96, mr_n_96, mr_isI_96, mr_ty_97, mr_n_97, mr_isI_97, mr_ty_98, mr_n_98, mr_isI_98, mr_ty_99, mr_n_99, mr_isI_99, mr_ty_100, mr_n_100, mr_isI_100, mr_ty_101, mr_n_101, mr_isI_101, mr_isF_1, mr_isF_3, mr_isF_4, mr_isF_10, mr_isF_12, mr_isF_18, mr_isF_19, mr_isF_21, mr_isF_22, mr_isF_23, mr_isF_26, mr_isF_34, mr_isF_37, mr_isF_38, mr_isF_39, mr_T_up, mr_T_upJ, mr_T_f, t1, t2, hwl, c1, c2, nI_1, show ¬ (1 : Nat) = 2 by decide]
  · simp only [r247_98, r247_99, r247_102, r247_103, r247_106, r247_108, r247_109, r247_110, r247_111, r247_112, r247_115, r247_116, r247_117, r247_120, r247_121, r247_124, r247_125, r247_126, r247_127, r247_130, r247_131, r247_132, r247_133, r247_134, mx_isr_ref, mx_isr_null, mx_wt_nil, mx_wt_1, mx_wt_2, mx_wt_3, Option.bind_some, Option.toList_some, Option.toList_none, List.cons_append, List.nil_append, mx_nl_int, mx_nl_ref, mx_nl_null, mx_nl_none, mx_nb0, mx_nb1, mx_cat_int, mx_cat_ref, if_true, if_false, not_true_eq_false, not_false_eq_true, hT, T', hw, e1, mr_ty_77, mr_n_77, mr_isI_77, mr_ty_78, mr_n_78, mr_isI_78, mr_ty_79, mr_n_79, mr_isI_79, mr_ty_80, mr_n_80, mr_isI_80, mr_ty_81, mr_n_81, mr_isI_81, mr_ty_82, mr_n_82, mr_isJ_82, mr_ty_83, mr_n_83, mr_isI_83, mr_ty_84, mr_n_84, mr_isI_84, mr_ty_85, mr_n_85, mr_isI_85, mr_ty_86, mr_n_86, mr_isI_86, mr_ty_87, mr_n_87, mr_isI_87, mr_ty_88, mr_n_88, mr_isI_88, mr_ty_89, mr_n_89, mr_isJ_89, mr_ty_90, mr_n_90, mr_isI_90, mr_ty_91, mr_n_91, mr_isI_91, mr_ty_92, mr_n_92, mr_isI_92, mr_ty_93, mr_n_93, mr_isI_93, mr_ty_94, mr_n_94, mr_isI_94, mr_ty_95, mr_n_95, mr_isI_95, mr_ty_96, mr_n_96, mr_isI_96, mr_ty_97, mr_n_97, mr_isI_97, mr_ty_98, mr_n_98, mr_isI_98, mr_ty_99, mr_n_99, mr_isI_99, mr_ty_100, mr_n_100, mr_isI_100, mr_ty_101, mr_n_101, mr_isI_101, mr_isF_1, mr_isF_3, mr_isF_4, mr_isF_10, mr_isF_12, mr_isF_18, mr_isF_19, mr_isF_21, mr_isF_22, mr_isF_23, mr_isF_26, mr_isF_34, mr_isF_37, mr_isF_38, mr_isF_39, mr_T_up, mr_T_upJ, mr_T_f, t1, t2, hwl, c1, c2, nI_1, e2, show ¬ (1 : Int32) = 0 by decide]
end
