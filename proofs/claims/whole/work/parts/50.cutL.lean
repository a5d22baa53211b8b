section
variable {d : Nat}
def lx_good (ts : List tk) : Bool := ts.all fun q => decide (q.1 ≠ 4)
theorem lx_good_bad {q : tk} (h : q.1 = 4) (r : List tk) : lx_good (q :: r) = false := by
  unfold lx_good
  rw [List.all_cons, decide_eq_false (fun z => z h), Bool.false_and]
theorem lx_good_ok {q : tk} (h : q.1 ≠ 4) (r : List tk) : lx_good (q :: r) = lx_good r := by
  unfold lx_good
  rw [List.all_cons, decide_eq_true h, Bool.true_and]
theorem rm_cutL {bs : List Nat} : ∀ (n p w : Nat) (ts : List tk) (h : mx_H) (v2 v3 : Option Value), rm_buf h bs → p ≤ bs.length → bs.length - p ≤ n → rm_ts h w ts → mi h 76 10 = nI w → w ≤ p → ts.length ≤ p →
    ∃ (h' : mx_H) (P : Int32) (v2' v3' : Option Value) (k : Nat), mx_G (d + 3) 240 12 [some (.ref 76), some (.int (nI p)), v2, v3] [] h = mx_G (d + 3) 240 193 [some (.ref 76), some (.int P), v2', v3'] [] h' ∧ rm_buf h' bs ∧ rm_fr h h' ∧ mi h' 76 4 = nI k ∧ k ≤ 121 ∧
      (P < 0 ↔ lx_good (lx n (bs.drop p)) = false) ∧ (lx_good (lx n (bs.drop p)) = true → (ts ++ lx n (bs.drop p)).length ≤ 120 ∧ ∃ w', w' ≤ 120 ∧ rm_ts h' w' (ts ++ lx n (bs.drop p))) := by
  intro n
  induction n with
  | zero =>
    intro p w ts h v2 v3 B hp hn S hw hwp htp
    have e : p = bs.length := by omega
    have hb := B.2.1
    have e1 : ¬ nI p < 0 := nI_pos (by omega)
    have e2 : nI bs.length ≤ nI p := nI_le (by omega) (by omega)
    refine ⟨h, nI p, v2, v3, ts.length, ?_, B, rm_fr_rfl h, S.1, by omega, ?_, fun _ => ?_⟩
    · simp only [r240_12, r240_13, r240_16, r240_17, r240_18, r240_21, mx_isr_ref, mx_isr_null, mx_wt_nil, mx_wt_1, mx_wt_2, mx_wt_3, Option.bind_some, Option.toList_some, Option.toList_none, List.cons_append, List.nil_append, mx_nl_int, mx_nl_ref, mx_nl_null, mx_nl_none, mx_nb0, mx_nb1, mx_cat_int, mx_cat_ref, if_true, if_false, not_true_eq_false, not_false_eq_true, B.1, B.2.2.1, e1, e2]
    · simp [lx, lx_good, e1]
    · simp only [lx, List.append_nil]
      exact ⟨by omega, w, by omega, S⟩
  | succ n ih =>
    intro p w ts h v2 v3 B hp hn S hw hwp htp
    have hb := B.2.1
    have e1 : ¬ nI p < 0 := nI_pos (by omega)
    by_cases hl : p < bs.length
    · have e2 : ¬ nI bs.length ≤ nI p := nI_ge hl (by omega)
      have hdp : bs.drop p = bs.getD p 0 :: bs.drop (p + 1) := by
        rw [List.drop_eq_getElem_cons hl, List.getD_eq_getElem?_getD, List.getElem?_eq_getElem hl]
        rfl
      have head : mx_G (d + 3) 240 12 [some (.ref 76), some (.int (nI p)), v2, v3] [] h = mx_G (d + 3) 240 24 [some (.ref 76), some (.int (nI p)), v2, v3] [] h := by
        rw [r240_12]
        simp only [r240_13, r240_16, r240_17, r240_18, r240_21, mx_isr_ref, mx_isr_null, mx_wt_nil, mx_wt_1, mx_wt_2, mx_wt_3, Option.bind_some, Option.toList_some, Option.toList_none, List.cons_append, List.nil_append, mx_nl_int, mx_nl_ref, mx_nl_null, mx_nl_none, mx_nb0, mx_nb1, mx_cat_int, mx_cat_ref, if_true, if_false, not_true_eq_false, not_false_eq_true, B.1, B.2.2.1, e1, e2]
      rw [head, hdp, lx]
      by_cases h32 : bs.getD p 0 = 32
      · rw [if_pos h32]
        have e32 : (nI (bs.getD p 0) = 32) = True := eq_true (by rw [h32]; rfl)
        have step : mx_G (d + 3) 240 24 [some (.ref 76), some (.int (nI p)), v2, v3] [] h = mx_G (d + 3) 240 12 [some (.ref 76), some (.int (nI (p + 1))), some (.int (nI (bs.getD p 0))), v3] [] h := by
          simp only [r240_24, r240_25, r240_26, r240_29, r240_30, r240_31, r240_33, r240_36, r240_39, r240_190, mx_isr_ref, mx_isr_null, mx_wt_nil, mx_wt_1, mx_wt_2, mx_wt_3, Option.bind_some, Option.toList_some, Option.toList_none, List.cons_append, List.nil_append, mx_nl_int, mx_nl_ref, mx_nl_null, mx_nl_none, mx_nb0, mx_nb1, mx_cat_int, mx_cat_ref, if_true, if_false, not_true_eq_false, not_false_eq_true, B.1, rm_look B (show p < 2 ^ 30 by omega), e32, nI_1]
        rw [step]
        exact ih (p + 1) w ts h _ v3 B (by omega) (by omega) S hw (by omega) (by omega)
      · rw [if_neg h32]
        obtain ⟨h1, P, x2, x3, hrun, B1, F1, hc⟩ := rm_tok (d := d) (v2 := v2) (v3 := v3) B hl h32 S hw hwp htp
        rw [hrun]
        rcases hc with ⟨c1, c2, c3⟩ | ⟨c1, p', w', c2, c3, c4, c5, c6, c7, c8⟩
        · subst c2
          refine ⟨h1, -1, some (.int x2), some (.int x3), ts.length + 1, ?_, B1, F1, c3, by omega, ?_, fun hg => ?_⟩
          · simp only [r240_12, r240_13, r240_16, r240_17, r240_18, r240_21, mx_isr_ref, mx_isr_null, mx_wt_nil, mx_wt_1, mx_wt_2, mx_wt_3, Option.bind_some, Option.toList_some, Option.toList_none, List.cons_append, List.nil_append, mx_nl_int, mx_nl_ref, mx_nl_null, mx_nl_none, mx_nb0, mx_nb1, mx_cat_int, mx_cat_ref, if_true, if_false, not_true_eq_false, not_false_eq_true, show (-1 : Int32) < 0 by decide]
          · exact ⟨fun _ => lx_good_bad c1 _, fun _ => by decide⟩
          · rw [lx_good_bad c1] at hg
            cases hg
        · subst c2
          obtain ⟨h2, P2, y2, y3, k, i1, i2, i3, i4, i5, i6, i7⟩ := ih p' w' (ts ++ [(lx_one (bs.getD p 0) (bs.drop (p + 1))).1]) h1 (some (.int x2)) (some (.int x3)) B1 c4 (by omega) c8 c6 c7 (by simp; omega)
          rw [c5] at i6 i7
          refine ⟨h2, P2, y2, y3, k, i1, i2, rm_fr_trans F1 i3, i4, i5, ?_, fun hg => ?_⟩
          · rw [i6, lx_good_ok c1]
          · have hg' : lx_good (lx n (lx_one (bs.getD p 0) (bs.drop (p + 1))).2) = true := by
              rw [lx_good_ok c1] at hg
              exact hg
            obtain ⟨j1, w2, j2, j3⟩ := i7 hg'
            rw [List.append_assoc, List.singleton_append] at j1 j3
            exact ⟨j1, w2, j2, j3⟩
    · have e : p = bs.length := by omega
      have e2 : nI bs.length ≤ nI p := nI_le (by omega) (by omega)
      have hnil : bs.drop p = [] := List.drop_eq_nil_of_le (by omega)
      refine ⟨h, nI p, v2, v3, ts.length, ?_, B, rm_fr_rfl h, S.1, by omega, ?_, fun _ => ?_⟩
      · simp only [r240_12, r240_13, r240_16, r240_17, r240_18, r240_21, mx_isr_ref, mx_isr_null, mx_wt_nil, mx_wt_1, mx_wt_2, mx_wt_3, Option.bind_some, Option.toList_some, Option.toList_none, List.cons_append, List.nil_append, mx_nl_int, mx_nl_ref, mx_nl_null, mx_nl_none, mx_nb0, mx_nb1, mx_cat_int, mx_cat_ref, if_true, if_false, not_true_eq_false, not_false_eq_true, B.1, B.2.2.1, e1, e2]
      · simp [hnil, lx, lx_good, e1]
      · simp only [hnil, lx, List.append_nil]
        exact ⟨by omega, w, by omega, S⟩
/-- behind the last token some kinds are put out -/
theorem rm_cutZ {tn : Nat} (htn : tn ≤ 121) {P : Int32} {v3 : Option Value} : ∀ (m t : Nat) (h : mx_H), mr_T h → mi h 76 4 = nI tn → tn ≤ t → t + m = tn + 4 →
    ∃ (h' : mx_H) (x : Int32), mx_G d 240 203 [some (.ref 76), some (.int P), some (.int (nI t)), v3] [] h = mx_G d 240 233 [some (.ref 76), some (.int P), some (.int x), v3] [] h' ∧ mr_T h' ∧ (∀ a k, a ≠ 79 → mi h' a k = mi h a k) ∧ (∀ a k, a ≠ 79 → ml h' a k = ml h a k) ∧ ∀ k, k < tn → mi h' 79 k = mi h 79 k := by
  intro m
  induction m with
  | zero =>
    intro t h T ht h1 h2
    have e : t = tn + 4 := by omega
    subst e
    refine ⟨h, nI (tn + 4), ?_, T, fun _ _ _ => rfl, fun _ _ _ => rfl, fun _ _ => rfl⟩
    have e4 : nI tn + 4 = nI (tn + 4) := nI_add tn 4
    simp only [r240_203, r240_204, r240_205, r240_208, r240_209, r240_210, r240_213, r240_214, r240_217, r240_220, r240_221, r240_224, r240_225, r240_226, r240_227, r240_230, mx_isr_ref, mx_isr_null, mx_wt_nil, mx_wt_1, mx_wt_2, mx_wt_3, Option.bind_some, Option.toList_some, Option.toList_none, List.cons_append, List.nil_append, mx_nl_int, mx_nl_ref, mx_nl_null, mx_nl_none, mx_nb0, mx_nb1, mx_cat_int, mx_cat_ref, if_true, if_false, not_true_eq_false, not_false_eq_true, T, ht, e4, Int32.le_refl]
  | succ m ih =>
    intro t h T ht h1 h2
    have e4 : nI tn + 4 = nI (tn + 4) := nI_add tn 4
    have e1 : ¬ nI (tn + 4) ≤ nI t := nI_ge (by omega) (by omega)
    have e2 : ¬ (130 : Int32) ≤ nI t := nI_ge (b := 130) (by omega) (by decide)
    have t1 : (nI t).toNatClampNeg = t := nI_clamp (by omega)
    have t2 : (0 : Int32) ≤ nI t := nI_pos' (by omega)
    have t3 : t < 130 := by omega
    have T' : mr_T (mx_up h 79 t (.int 0)) := mr_T_up T (by decide) _
    obtain ⟨h', x, i1, i2, i3, i4, i5⟩ := ih (t + 1) _ T' (by rw [mi_up, if_neg (fun z => absurd z.1 (by decide))]; exact ht) (by omega) (by omega)
    refine ⟨h', x, ?_, i2, fun a k ha => ?_, fun a k ha => ?_, fun k hk => ?_⟩
    · rw [r240_203]
      simp only [r240_204, r240_205, r240_208, r240_209, r240_210, r240_213, r240_214, r240_217, r240_220, r240_221, r240_224, r240_225, r240_226, r240_227, r240_230, mx_isr_ref, mx_isr_null, mx_wt_nil, mx_wt_1, mx_wt_2, mx_wt_3, Option.bind_some, Option.toList_some, Option.toList_none, List.cons_append, List.nil_append, mx_nl_int, mx_nl_ref, mx_nl_null, mx_nl_none, mx_nb0, mx_nb1, mx_cat_int, mx_cat_ref, if_true, if_false, not_true_eq_false, not_false_eq_true, T, ht, e4, e1, e2, mr_ty_77, mr_n_77, mr_isI_77, mr_ty_78, mr_n_78, mr_isI_78, mr_ty_79, mr_n_79, mr_isI_79, mr_ty_80, mr_n_80, mr_isI_80, mr_ty_81, mr_n_81, mr_isI_81, mr_ty_82, mr_n_82, mr_isJ_82, mr_ty_83, mr_n_83, mr_isI_83, mr_ty_84, mr_n_84, mr_isI_84, mr_ty_85, mr_n_85, mr_isI_85, mr_ty_86, mr_n_86, mr_isI_86, mr_ty_87, mr_n_87, mr_isI_87, mr_ty_88, mr_n_88, mr_isI_88, mr_ty_89, mr_n_89, mr_isJ_89, mr_ty_90, mr_n_90, mr_isI_90, mr_ty_91, mr_n_91, mr_isI_91, mr_ty_92, mr_n_92, mr_isI_92, mr_ty_93, mr_n_93, mr_isI_93, mr_ty_94, mr_n_94, mr_isI_94, mr_ty_95, mr_n_95, mr_isI_95, mr_ty_96, mr_n_96, mr_isI_96, mr_ty_97, mr_n_97, mr_isI_97, mr_ty_98, mr_n_98, mr_isI_98, mr_ty_99, mr_n_99, mr_isI_99, mr_ty_100, mr_n_100, mr_isI_100, mr_ty_101, mr_n_101, mr_isI_101, mr_isF_1, mr_isF_3, mr_isF_4, mr_isF_10, mr_isF_12, mr_isF_18, mr_isF_19, mr_isF_21, mr_isF_22, mr_isF_23, mr_isF_26, mr_isF_34, mr_isF_37, mr_isF_38, mr_isF_39, mr_T_up, mr_T_upJ, mr_T_f, t1, t2, t3, nI_1]
      exact i1
    · rw [i3 a k ha, mi_up, if_neg (fun z => ha z.1)]
    · rw [i4 a k ha, ml_upI _ _ _ _ _ _ ha]
    · rw [i5 k hk, mi_up, if_neg (fun z => by omega)]
/-- the tokens of the model, when all is cut -/
def rm_TS (h : mx_H) (ts : List tk) : Prop := mr_T h ∧ ts.length ≤ 120 ∧ rm_ts h 120 ts
theorem rm_cut {h : mx_H} {bs : List Nat} (B : rm_buf h bs) : ∃ h', mx_G (d + 3) 240 0 [some (.ref 76), none, none, none] [] h = some (some (.int (if lx_good (lx bs.length bs) = true then 1 else 0)), h') ∧ mr_T h' ∧ mi h' 76 3 = 0 ∧ rm_fr h h' ∧ (lx_good (lx bs.length bs) = true → rm_TS h' (lx bs.length bs)) := by
  have hT := B.1
  have B1 : rm_buf (mx_up (mx_up h 76 4 (.int 0)) 76 10 (.int 0)) bs := rm_buf_f (rm_buf_f B _ (by decide) (by decide)) _ (by decide) (by decide)
  have F1 : rm_fr h (mx_up (mx_up h 76 4 (.int 0)) 76 10 (.int 0)) := rm_fr_trans (rm_fr_up (by simp)) (rm_fr_up (by simp))
  have T4 : mr_T (mx_up h 76 4 (.int 0)) := mr_T_f hT (by decide) _
  have w1 : mi (mx_up (mx_up h 76 4 (.int 0)) 76 10 (.int 0)) 76 10 = nI 0 := by rw [mi_up, if_pos ⟨rfl, rfl, by rw [T4.2.1]; decide⟩]; rfl
  have t1 : mi (mx_up (mx_up h 76 4 (.int 0)) 76 10 (.int 0)) 76 4 = nI 0 := by rw [mi_up, if_neg (fun z => absurd z.2.1 (by decide)), mi_up, if_pos ⟨rfl, rfl, by rw [hT.2.1]; decide⟩]; rfl
  obtain ⟨h2, P, v2, v3, k, i1, i2, i3, i4, i5, i6, i7⟩ := rm_cutL (d := d) bs.length 0 0 [] _ none none B1 (by omega) (by omega) ⟨t1, fun t ht => by cases ht⟩ w1 (by omega) (by simp)
  rw [List.drop_zero] at i6 i7
  have T3 : mr_T (mx_up h2 76 3 (.int 0)) := mr_T_f i2.1 (by decide) _
  obtain ⟨h3, x, j1, j2, j3, j4, j5⟩ := rm_cutZ (d := d + 3) (tn := k) i5 (P := P) (v3 := v3) 4 k (mx_up h2 76 3 (.int 0)) T3 (by rw [mi_up, if_neg (fun z => absurd z.2.1 (by decide))]; exact i4) (Nat.le_refl _) rfl
  have head : mx_G (d + 3) 240 0 [some (.ref 76), none, none, none] [] h = mx_G (d + 3) 240 12 [some (.ref 76), some (.int (nI 0)), none, none] [] (mx_up (mx_up h 76 4 (.int 0)) 76 10 (.int 0)) := by
    simp only [r240_0, r240_1, r240_2, r240_5, r240_6, r240_7, r240_10, r240_11, mx_isr_ref, mx_isr_null, mx_wt_nil, mx_wt_1, mx_wt_2, mx_wt_3, Option.bind_some, Option.toList_some, Option.toList_none, List.cons_append, List.nil_append, mx_nl_int, mx_nl_ref, mx_nl_null, mx_nl_none, mx_nb0, mx_nb1, mx_cat_int, mx_cat_ref, if_true, if_false, not_true_eq_false, not_false_eq_true, hT, T4, nI_0]
  have mid : mx_G (d + 3) 240 193 [some (.ref 76), some (.int P), v2, v3] [] h2 = mx_G (d + 3) 240 203 [some (.ref 76), some (.int P), some (.int (nI k)), v3] [] (mx_up h2 76 3 (.int 0)) := by
    have e : mi (mx_up h2 76 3 (.int 0)) 76 4 = nI k := by rw [mi_up, if_neg (fun z => absurd z.2.1 (by decide))]; exact i4
    simp only [r240_193, r240_194, r240_195, r240_198, r240_199, r240_202, mx_isr_ref, mx_isr_null, mx_wt_nil, mx_wt_1, mx_wt_2, mx_wt_3, Option.bind_some, Option.toList_some, Option.toList_none, List.cons_append, List.nil_append, mx_nl_int, mx_nl_ref, mx_nl_null, mx_nl_none, mx_nb0, mx_nb1, mx_cat_int, mx_cat_ref, if_true, if_false, not_true_eq_false, not_false_eq_true, i2.1, T3, e]
  have F3 : rm_fr h2 h3 := by
    refine ⟨fun a q n1 n2 n3 n4 n5 n6 => ?_, fun q => ?_⟩
    · rw [j3 a q n1, mi_up, if_neg (fun z => n6 ⟨z.1, Or.inl z.2.1⟩)]
    · rw [j4 _ _ (by decide), ml_upI _ _ _ _ _ _ (by decide)]
  refine ⟨h3, ?_, j2, ?_, rm_fr_trans F1 (rm_fr_trans i3 F3), fun hg => ?_⟩
  · rw [head, i1, mid, j1]
    by_cases hg : lx_good (lx bs.length bs) = true
    · have hP : ¬ P < 0 := fun z => by rw [i6.mp z] at hg; cases hg
      simp only [r240_233, r240_234, r240_237, r240_238, r240_241, r240_242, mx_isr_ref, mx_isr_null, mx_wt_nil, mx_wt_1, mx_wt_2, mx_wt_3, Option.bind_some, Option.toList_some, Option.toList_none, List.cons_append, List.nil_append, mx_nl_int, mx_nl_ref, mx_nl_null, mx_nl_none, mx_nb0, mx_nb1, mx_cat_int, mx_cat_ref, if_true, if_false, not_true_eq_false, not_false_eq_true, hP, hg]
    · have hg' : lx_good (lx bs.length bs) = false := by simpa using hg
      have hP : P < 0 := i6.mpr hg'
      simp only [r240_233, r240_234, r240_237, r240_238, r240_241, r240_242, mx_isr_ref, mx_isr_null, mx_wt_nil, mx_wt_1, mx_wt_2, mx_wt_3, Option.bind_some, Option.toList_some, Option.toList_none, List.cons_append, List.nil_append, mx_nl_int, mx_nl_ref, mx_nl_null, mx_nl_none, mx_nb0, mx_nb1, mx_cat_int, mx_cat_ref, if_true, if_false, not_true_eq_false, not_false_eq_true, hP, hg', Bool.false_eq_true]
  · rw [j3 _ _ (by decide), mi_up, if_pos ⟨rfl, rfl, by rw [i2.1.2.1]; decide⟩]
  · obtain ⟨l1, w', l2, l3⟩ := i7 hg
    rw [List.nil_append] at l1 l3
    have hk : k = (lx bs.length bs).length := (nI_eq (by omega) (by omega)).mp (i4.symm.trans l3.1)
    refine ⟨j2, l1, ?_, fun t ht => ?_⟩
    · rw [j3 _ _ (by decide), mi_up, if_neg (fun z => absurd z.2.1 (by decide))]
      exact l3.1
    · refine rm_tk_keep (l3.2 t ht) ?_ ?_ ?_ ?_ ?_ l2
      · rw [j5 t (by omega), mi_up, if_neg (fun z => absurd z.1 (by decide))]
      · rw [j3 _ _ (by decide), mi_up, if_neg (fun z => absurd z.1 (by decide))]
      · rw [j3 _ _ (by decide), mi_up, if_neg (fun z => absurd z.1 (by decide))]
      · rw [j4 _ _ (by decide), ml_upI _ _ _ _ _ _ (by decide)]
      · intro j _
        rw [j3 _ _ (by decide), mi_up, if_neg (fun z => absurd z.1 (by decide))]
end
