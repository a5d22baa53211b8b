section
variable {d : Nat} {h : mx_H}
theorem dgs_len : ∀ f n, (dgs f n).length ≤ f + 1 := by
  intro f
  induction f with
  | zero => intro n; exact Nat.le_refl _
  | succ f ih =>
    intro n
    rw [dgs]
    split
    · simp
    · rw [List.length_append, List.length_singleton]; have := ih (n / 10); omega
theorem wI_len (v : Int) : (wI v).length ≤ 12 := by
  unfold wI
  split
  · rw [List.length_cons]; have := dgs_len 10 (-v).toNat; omega
  · have := dgs_len 10 v.toNat; omega
theorem wT_len (l : List Nat) : (wT l).length ≤ 2 * l.length + 2 := by
  show ([34] ++ l.flatMap esc ++ [34]).length ≤ _
  have := fm_len l
  simp only [List.length_append, List.length_cons, List.length_nil]
  omega
theorem wB_len (b : Bool) : (wB b).length ≤ 5 := by cases b <;> decide
theorem wIt_len {x : itm} (hx : x.1.length ≤ 12) : (wIt x).length ≤ 42 := by
  unfold wIt
  have := wT_len x.1
  have e : (wN w_v).length = 4 := by decide
  simp only [List.length_append, List.length_cons, List.length_nil]
  cases x.2 with
  | none => simp only [List.length_nil]; omega
  | some b =>
    have := wB_len b
    have e2 : (wN w_p).length = 4 := by decide
    simp only [List.length_append, List.length_cons, List.length_nil]
    omega
theorem wIs_len : ∀ l : List itm, (∀ x ∈ l, x.1.length ≤ 12) → (wIs l).length ≤ 43 * l.length := by
  intro l
  induction l with
  | nil => intro _; exact Nat.le_refl _
  | cons x l ih =>
    intro hx
    have i := ih fun y hy => hx y (List.mem_cons_of_mem _ hy)
    have w := wIt_len (hx x (List.mem_cons_self ..))
    cases l with
    | nil => rw [wIs]; simp only [List.length_cons, List.length_nil]; omega
    | cons y l =>
      rw [wIs]
      simp only [List.length_append, List.length_cons, List.length_nil] at i ⊢
      omega
theorem itsP_len (l : List itm) (hx : ∀ x ∈ l, x.1.length ≤ 12) : ∀ n k, k + n = l.length → (itsP l k n).length ≤ 43 * n := by
  intro n
  induction n with
  | zero => intro k _; exact Nat.le_refl _
  | succ n ih =>
    intro k hk
    have := ih (k + 1) (by omega)
    have w := wIt_len (hx _ (iG_mem (l := l) (k := k) (by omega)))
    rw [itsP, List.length_append]
    unfold itP
    simp only [List.length_append, List.length_cons, List.length_nil]
    omega
def wEd (l : List itm) : List Nat := (if l = [] then [] else [93]) ++ [125]
/-- what is written, piece by piece -/
theorem wP_parts (p : prs) : wP p = ([123] ++ wN w_id ++ wI p.1 ++ [44] ++ wN w_version) ++ (wI p.2.1 ++ [44] ++ wN w_name ++ wT (pnm p)) ++ wAg (pag p) ++ wOn (pon p) ++ wMl (pit p) ++ itsP (pit p) 0 (pit p).length ++ wEd (pit p) := by
  unfold wP wMl wEd
  by_cases c : pit p = []
  · rw [if_pos c, if_pos c, if_pos c, c]
    simp only [List.length_nil, itsP, List.append_nil, List.append_assoc]
    cases pag p <;> cases pon p <;> simp only [wAg, wOn, List.nil_append, List.append_assoc]
  · have := itsP_wIs (pit p) (pit p).length 0 (Nat.zero_add _) (List.length_pos_iff.2 c)
    rw [if_neg c, if_neg c, if_neg c, this, if_pos rfl, List.drop_zero]
    cases pag p <;> cases pon p <;> simp only [wAg, wOn, List.nil_append, List.append_assoc]
theorem wP_len {p : prs} (W : wfP p) : (wP p).length < 1000 := by
  rw [wP_parts]
  have i1 := wI_len p.1
  have i2 := wI_len p.2.1
  have i3 := wT_len (pnm p)
  have n12 := W.1.2.1
  have i4 := itsP_len (pit p) (fun x hx => (W.2.2.2.1 x hx).2.1) (pit p).length 0 (Nat.zero_add _)
  have h4 := W.2.2.1
  have e1 : (wN w_id).length = 5 := by decide
  have e2 : (wN w_version).length = 10 := by decide
  have e3 : (wN w_name).length = 7 := by decide
  have e4 : (wN w_age).length = 6 := by decide
  have e5 : (wN w_on).length = 5 := by decide
  have e6 : (wN w_mail).length = 7 := by decide
  have a : (wAg (pag p)).length ≤ 20 := by
    unfold wAg
    cases pag p with
    | none => exact Nat.zero_le _
    | some v => have := wI_len v; simp only [List.length_append, List.length_cons, List.length_nil]; omega
  have b : (wOn (pon p)).length ≤ 20 := by
    unfold wOn
    cases pon p with
    | none => exact Nat.zero_le _
    | some v => have := wB_len v; simp only [List.length_append, List.length_cons, List.length_nil]; omega
  have c : (wMl (pit p)).length ≤ 10 := by
    unfold wMl
    split
    · exact Nat.zero_le _
    · simp only [List.length_append, List.length_cons, List.length_nil]; omega
  have c2 : (wEd (pit p)).length ≤ 2 := by
    unfold wEd
    split <;> simp
  simp only [List.length_append, List.length_cons, List.length_nil]
  omega
theorem rm_write (T : mr_T h) {s : Nat} {p : prs} (R : rcP h s p) (W : wfP p) (hs : s ≤ 8) (b1 : p.1 < 2 ^ 20) (b2 : p.2.1 < 2 ^ 20) (wn : Int32) : ∃ h', mx_G (d + 4) 331 0 [some (.ref 76), some (.int (nI s)), some (.int wn), none] [] h = some (none, h') ∧ wS h h' wn (wP p) := by
  have h4 := W.2.2.1
  have tot := wP_len W
  rw [wP_parts] at tot ⊢
  simp only [List.length_append] at tot
  have m1 : mf Pw h (mx_up h 76 38 (.int wn)) := mf_f (mf_rfl T) (by decide) rfl
  have T1 := m1.1
  have m2 : mf Pw h (mx_up (mx_up h 76 38 (.int wn)) 76 37 (.int 0)) := mf_f m1 (by decide) rfl
  have T2 := m2.1
  have m3 : mf Pw h (mx_up (mx_up (mx_up h 76 38 (.int wn)) 76 37 (.int 0)) 76 39 (.int 0)) := mf_f m2 (by decide) rfl
  have T3 := m3.1
  have S0 : wS h (mx_up (mx_up (mx_up h 76 38 (.int wn)) 76 37 (.int 0)) 76 39 (.int 0)) wn [] := by
    refine ⟨m3, by rw [mi_f T2 (by decide), if_neg (by decide), mi_f T1 (by decide), if_pos rfl]; rfl, by rw [mi_f T2 (by decide), if_neg (by decide), mi_f T1 (by decide), if_neg (by decide), mi_f T (by decide), if_pos rfl], ?_, by decide⟩
    rw [mi_f T2 (by decide), if_pos rfl]
    unfold lv
    rw [if_neg (by rintro ⟨a, b⟩; simp at b; omega)]
  obtain ⟨hA, rA, SA⟩ := wp_A (d := d) R W hs b1 _ _ S0 (by simp only [List.length_append, List.length_nil]; omega)
  rw [List.nil_append] at SA
  obtain ⟨hB, rB, SB⟩ := wp_B (d := d) R W hs b2 _ _ SA (by simp only [List.length_append]; omega)
  obtain ⟨hC, rC, SC⟩ := wp_C (d := d) R W hs _ _ SB (by simp only [List.length_append]; omega)
  obtain ⟨hD, rD, SD⟩ := wp_D (d := d) R hs _ _ SC (by simp only [List.length_append]; omega)
  obtain ⟨hE, rE, SE⟩ := wp_E (d := d) R W hs _ _ SD (by simp only [List.length_append]; omega)
  have TE := SE.1.1
  obtain ⟨hF, rF, SF⟩ := wr_its (d := d) R W hs (pit p).length 0 _ _ (Nat.zero_add _) SE (by simp only [List.length_append]; omega)
  have TF := SF.1.1
  have f := rm_f (d := d + 3) TF (s := s) (o := 19) (by omega)
  rw [(rc_mf R SF.1 fun _ => rfl).1 19 (by decide), show nI 19 = 19 from rfl, show pe p 19 = nI (pit p).length from rfl] at f
  have pre : mx_G (d + 4) 331 0 [some (.ref 76), some (.int (nI s)), some (.int wn), none] [] h = mx_G (d + 4) 331 211 [some (.ref 76), some (.int (nI s)), some (.int wn), some (.int (nI (pit p).length))] [] hF := by
    have a : mx_G (d + 4) 331 0 [some (.ref 76), some (.int (nI s)), some (.int wn), none] [] h = mx_G (d + 4) 331 15 [some (.ref 76), some (.int (nI s)), some (.int wn), none] [] (mx_up (mx_up (mx_up h 76 38 (.int wn)) 76 37 (.int 0)) 76 39 (.int 0)) := by
      simp only [r331_0, r331_1, r331_2, r331_5, r331_6, r331_7, r331_10, r331_11, r331_12, mx_isr_ref, mx_isr_null, mx_wt_nil, mx_wt_1, mx_wt_2, mx_wt_3, Option.bind_some, Option.toList_some, Option.toList_none, List.cons_append, List.nil_append, mx_nl_int, mx_nl_ref, mx_nl_null, mx_nl_none, mx_nb0, mx_nb1, mx_fb0, mx_fb1, mx_cat_int, mx_cat_ref, if_true, if_false, not_true_eq_false, not_false_eq_true, T, T1, T2, mr_ty_77, mr_n_77, mr_isI_77, mr_ty_78, mr_n_78, mr_isI_78, mr_ty_79, mr_n_79, mr_isI_79, mr_ty_80, mr_n_80, mr_isI_80, mr_ty_81, mr_n_81, mr_isI_81, mr_ty_82, mr_n_82, mr_isJ_82, mr_ty_83, mr_n_83, mr_isI_83, mr_ty_84, mr_n_84, mr_isI_84, mr_ty_85, mr_n_85, mr_isI_85, mr_ty_86, mr_n_86, mr_isI_86, mr_ty_87, mr_n_87, mr_isI_87, mr_ty_88, mr_n_88, mr_isI_88, mr_ty_89, mr_n_89, mr_isJ_89, mr_ty_90, mr_n_90, mr_isI_90, mr_ty_91, mr_n_91, mr_isI_91, mr_ty_92, mr_n_92, mr_isI_92, mr_ty_93, mr_n_93, mr_isI_93, mr_ty_94, mr_n_94, mr_isI_94, mr_ty_95, mr_n_95, mr_isI_95, mr_ty_96, mr_n_96, mr_isI_96, mr_ty_97, mr_n_97, mr_isI_97, mr_ty_98, mr_n_98, mr_isI_98, mr_ty_99, mr_n_99, mr_isI_99, mr_ty_100, mr_n_100, mr_isI_100, mr_ty_101, mr_n_101, mr_isI_101, mr_isF_1, mr_isF_3, mr_isF_4, mr_isF_10, mr_isF_12, mr_isF_18, mr_isF_19, mr_isF_21, mr_isF_22, mr_isF_23, mr_isF_26, mr_isF_34, mr_isF_37, mr_isF_38, mr_isF_39, mr_T_up, mr_T_upJ, mr_T_f]
    have b : mx_G (d + 4) 331 186 [some (.ref 76), some (.int (nI s)), some (.int wn), none] [] hE = mx_G (d + 4) 331 188 [some (.ref 76), some (.int (nI s)), some (.int wn), some (.int (nI 0))] [] hE := by
      simp only [r331_186, r331_187, mx_isr_ref, mx_isr_null, mx_wt_nil, mx_wt_1, mx_wt_2, mx_wt_3, Option.bind_some, Option.toList_some, Option.toList_none, List.cons_append, List.nil_append, mx_nl_int, mx_nl_ref, mx_nl_null, mx_nl_none, mx_nb0, mx_nb1, mx_fb0, mx_fb1, mx_cat_int, mx_cat_ref, if_true, if_false, not_true_eq_false, not_false_eq_true]
      rfl
    rw [a, rA, rB, rC, rD, rE, b, rF]
  rw [pre]
  by_cases c : pit p = []
  · have e : nI (pit p).length ≤ 0 := by rw [c]; decide
    have we : wEd (pit p) = [125] := by unfold wEd; rw [if_pos c]; rfl
    rw [we] at tot ⊢
    obtain ⟨h', r', S'⟩ := wr_out (d := d + 3) (c := 125) hF _ SF (by simp only [List.length_append]; omega)
    rw [show nI 125 = 125 from rfl] at r'
    refine ⟨h', ?_, ?_⟩
    · simp only [r331_211, r331_212, r331_213, r331_215, r331_218, r331_221, r331_222, r331_224, r331_227, r331_228, r331_230, r331_233, mx_isr_ref, mx_isr_null, mx_wt_nil, mx_wt_1, mx_wt_2, mx_wt_3, Option.bind_some, Option.toList_some, Option.toList_none, List.cons_append, List.nil_append, mx_nl_int, mx_nl_ref, mx_nl_null, mx_nl_none, mx_nb0, mx_nb1, mx_fb0, mx_fb1, mx_cat_int, mx_cat_ref, if_true, if_false, not_true_eq_false, not_false_eq_true, TF, f, e, r']
    · exact S'
  · have e : ¬ nI (pit p).length ≤ 0 := nI_nle (List.length_pos_iff.2 c) (by omega)
    have we : wEd (pit p) = [93] ++ [125] := by unfold wEd; rw [if_neg c]
    rw [we] at tot ⊢
    simp only [List.length_append] at tot
    obtain ⟨hG, rG, SG⟩ := wr_out (d := d + 3) (c := 93) hF _ SF (by simp only [List.length_append]; omega)
    have TG := SG.1.1
    obtain ⟨h', r', S'⟩ := wr_out (d := d + 3) (c := 125) hG _ SG (by simp only [List.length_append]; omega)
    rw [show nI 93 = 93 from rfl] at rG
    rw [show nI 125 = 125 from rfl] at r'
    refine ⟨h', ?_, ?_⟩
    · simp only [r331_211, r331_212, r331_213, r331_215, r331_218, r331_221, r331_222, r331_224, r331_227, r331_228, r331_230, r331_233, mx_isr_ref, mx_isr_null, mx_wt_nil, mx_wt_1, mx_wt_2, mx_wt_3, Option.bind_some, Option.toList_some, Option.toList_none, List.cons_append, List.nil_append, mx_nl_int, mx_nl_ref, mx_nl_null, mx_nl_none, mx_nb0, mx_nb1, mx_fb0, mx_fb1, mx_cat_int, mx_cat_ref, if_true, if_false, not_true_eq_false, not_false_eq_true, TF, TG, f, e, rG, r']
    · rw [← List.append_assoc]; exact S'
theorem rm_length {bs : List Nat} {sl : slt} {s : sto} (M : mSt h sl s) (B : rm_buf h bs) (id : Int32) : ∃ h', mx_G (d + 5) 330 0 [some (.ref 76), some (.int id), none] [] h = some (some (.int (Int32.ofInt (s_length s id.toInt))), h') ∧ mSt h' sl s ∧ rm_buf h' bs := by
  have T := M.1
  unfold s_length
  rcases rm_find (d := d + 3) M id with ⟨k, p, hk, zk, po, rs⟩ | ⟨po, rs⟩
  · rw [po]
    have Ek := M.2.2.1 k hk
    rw [zk] at Ek
    have n1 : (0 : Int32) ≤ nI k := nI_pos' (by omega)
    obtain ⟨h', r, S⟩ := rm_write (d := d) T Ek.1 Ek.2.1 (by omega) Ek.2.2.2.1 Ek.2.2.2.2 (-1)
    have T' := S.1.1
    refine ⟨h', ?_, mSt_mf M S.1 stw, ?_⟩
    · simp only [r330_0, r330_1, r330_2, r330_5, r330_6, r330_7, r330_10, r330_13, r330_14, r330_15, r330_16, r330_17, r330_20, r330_21, r330_24, mx_isr_ref, mx_isr_null, mx_wt_nil, mx_wt_1, mx_wt_2, mx_wt_3, Option.bind_some, Option.toList_some, Option.toList_none, List.cons_append, List.nil_append, mx_nl_int, mx_nl_ref, mx_nl_null, mx_nl_none, mx_nb0, mx_nb1, mx_fb0, mx_fb1, mx_cat_int, mx_cat_ref, if_true, if_false, not_true_eq_false, not_false_eq_true, T, T', rs, n1, r, S.2.1]
      rw [oI_nat]
    · exact ⟨T', B.2.1, by rw [S.1.2.1 76 3 rfl]; exact B.2.2.1, fun k hk => by rw [S.1.2.1 78 k rfl]; exact B.2.2.2 k hk⟩
  · rw [po]
    refine ⟨h, ?_, M, B⟩
    simp only [r330_0, r330_1, r330_2, r330_5, r330_6, r330_7, r330_10, r330_13, r330_14, r330_15, r330_16, r330_17, r330_20, r330_21, r330_24, mx_isr_ref, mx_isr_null, mx_wt_nil, mx_wt_1, mx_wt_2, mx_wt_3, Option.bind_some, Option.toList_some, Option.toList_none, List.cons_append, List.nil_append, mx_nl_int, mx_nl_ref, mx_nl_null, mx_nl_none, mx_nb0, mx_nb1, mx_fb0, mx_fb1, mx_cat_int, mx_cat_ref, if_true, if_false, not_true_eq_false, not_false_eq_true, T, rs, show ¬ (0 : Int32) ≤ -1 by decide]
    rfl
theorem rm_letter {bs : List Nat} {sl : slt} {s : sto} (M : mSt h sl s) (B : rm_buf h bs) (id k : Int32) : ∃ h', mx_G (d + 5) 338 0 [some (.ref 76), some (.int id), some (.int k), none] [] h = some (some (.int (Int32.ofInt (s_letter s id.toInt k.toInt))), h') ∧ mSt h' sl s ∧ rm_buf h' bs := by
  have T := M.1
  unfold s_letter
  rcases rm_find (d := d + 3) M id with ⟨j, p, hk, zk, po, rs⟩ | ⟨po, rs⟩
  · rw [po]
    have Ek := M.2.2.1 j hk
    rw [zk] at Ek
    have n1 : (0 : Int32) ≤ nI j := nI_pos' (by omega)
    obtain ⟨h', r, S⟩ := rm_write (d := d) T Ek.1 Ek.2.1 (by omega) Ek.2.2.2.1 Ek.2.2.2.2 k
    have T' := S.1.1
    refine ⟨h', ?_, mSt_mf M S.1 stw, ?_⟩
    · simp only [r338_0, r338_1, r338_2, r338_5, r338_6, r338_7, r338_10, r338_11, r338_12, r338_13, r338_14, r338_15, r338_18, r338_19, r338_22, mx_isr_ref, mx_isr_null, mx_wt_nil, mx_wt_1, mx_wt_2, mx_wt_3, Option.bind_some, Option.toList_some, Option.toList_none, List.cons_append, List.nil_append, mx_nl_int, mx_nl_ref, mx_nl_null, mx_nl_none, mx_nb0, mx_nb1, mx_fb0, mx_fb1, mx_cat_int, mx_cat_ref, if_true, if_false, not_true_eq_false, not_false_eq_true, T, T', rs, n1, r, S.2.2.2.1]
      congr 3
      unfold lv
      by_cases c : k.toInt < 0
      · rw [if_neg (by omega), if_pos c]; rfl
      · rw [if_neg c]
        by_cases c2 : k.toInt < ((wP p).length : Int)
        · rw [if_pos (by omega), oI_nat]
        · rw [if_neg (by omega), List.getD_eq_getElem?_getD, List.getElem?_eq_none (by omega)]; rfl
    · exact ⟨T', B.2.1, by rw [S.1.2.1 76 3 rfl]; exact B.2.2.1, fun k hk => by rw [S.1.2.1 78 k rfl]; exact B.2.2.2 k hk⟩
  · rw [po]
    refine ⟨h, ?_, M, B⟩
    simp only [r338_0, r338_1, r338_2, r338_5, r338_6, r338_7, r338_10, r338_11, r338_12, r338_13, r338_14, r338_15, r338_18, r338_19, r338_22, mx_isr_ref, mx_isr_null, mx_wt_nil, mx_wt_1, mx_wt_2, mx_wt_3, Option.bind_some, Option.toList_some, Option.toList_none, List.cons_append, List.nil_append, mx_nl_int, mx_nl_ref, mx_nl_null, mx_nl_none, mx_nb0, mx_nb1, mx_fb0, mx_fb1, mx_cat_int, mx_cat_ref, if_true, if_false, not_true_eq_false, not_false_eq_true, T, rs, show ¬ (0 : Int32) ≤ -1 by decide]
    rfl
end
