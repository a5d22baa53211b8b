section
variable {d : Nat} {h : mx_H} {ts : List tk}
theorem rm_hasValue (T : mr_T h) {s k : Nat} {p : prs} (R : rcP h s p) (W : wfP p) (hs : s ≤ 8) (hk : k ≤ 4) : mx_G (d + 1) 324 0 [some (.ref 76), some (.int (nI s)), some (.int (nI k))] [] h = some (some (.int (if (srV p k).isSome = true then 1 else 0)), h) := by
  have f15 := rm_f (d := d) T (s := s) (o := 15) (by omega)
  rw [R.1 15 (by decide), show nI 15 = 15 from rfl, show pe p 15 = (if (pag p).isSome = true then 1 else 0) from rfl] at f15
  have f17 := rm_f (d := d) T (s := s) (o := 17) (by omega)
  rw [R.1 17 (by decide), show nI 17 = 17 from rfl, show pe p 17 = (if (pon p).isSome = true then 1 else 0) from rfl] at f17
  have f19 := rm_f (d := d) T (s := s) (o := 19) (by omega)
  rw [R.1 19 (by decide), show nI 19 = 19 from rfl, show pe p 19 = nI (pit p).length from rfl] at f19
  have h4 := W.2.2.1
  have : k = 0 ∨ k = 1 ∨ k = 2 ∨ k = 3 ∨ k = 4 := by omega
  rcases this with e | e | e | e | e <;> subst e
  · simp only [r324_0, r324_1, r324_2, r324_5, r324_6, r324_7, r324_10, r324_11, r324_12, r324_14, r324_17, r324_18, r324_21, r324_22, r324_23, r324_26, r324_27, r324_28, r324_30, r324_33, r324_34, r324_37, r324_38, r324_39, r324_42, r324_43, r324_44, r324_46, r324_49, r324_52, r324_53, r324_56, r324_57, mx_isr_ref, mx_isr_null, mx_wt_nil, mx_wt_1, mx_wt_2, mx_wt_3, Option.bind_some, Option.toList_some, Option.toList_none, List.cons_append, List.nil_append, mx_nl_int, mx_nl_ref, mx_nl_null, mx_nl_none, mx_nb0, mx_nb1, mx_fb0, mx_fb1, mx_cat_int, mx_cat_ref, if_true, if_false, not_true_eq_false, not_false_eq_true, show nI 0 < 2 by decide]; rfl
  · simp only [r324_0, r324_1, r324_2, r324_5, r324_6, r324_7, r324_10, r324_11, r324_12, r324_14, r324_17, r324_18, r324_21, r324_22, r324_23, r324_26, r324_27, r324_28, r324_30, r324_33, r324_34, r324_37, r324_38, r324_39, r324_42, r324_43, r324_44, r324_46, r324_49, r324_52, r324_53, r324_56, r324_57, mx_isr_ref, mx_isr_null, mx_wt_nil, mx_wt_1, mx_wt_2, mx_wt_3, Option.bind_some, Option.toList_some, Option.toList_none, List.cons_append, List.nil_append, mx_nl_int, mx_nl_ref, mx_nl_null, mx_nl_none, mx_nb0, mx_nb1, mx_fb0, mx_fb1, mx_cat_int, mx_cat_ref, if_true, if_false, not_true_eq_false, not_false_eq_true, show nI 1 < 2 by decide]; rfl
  · cases z : pag p with
    | none =>
      have : (srV p 2).isSome = false := by unfold srV; simp [z]
      rw [z] at f15
      simp only [r324_0, r324_1, r324_2, r324_5, r324_6, r324_7, r324_10, r324_11, r324_12, r324_14, r324_17, r324_18, r324_21, r324_22, r324_23, r324_26, r324_27, r324_28, r324_30, r324_33, r324_34, r324_37, r324_38, r324_39, r324_42, r324_43, r324_44, r324_46, r324_49, r324_52, r324_53, r324_56, r324_57, mx_isr_ref, mx_isr_null, mx_wt_nil, mx_wt_1, mx_wt_2, mx_wt_3, Option.bind_some, Option.toList_some, Option.toList_none, List.cons_append, List.nil_append, mx_nl_int, mx_nl_ref, mx_nl_null, mx_nl_none, mx_nb0, mx_nb1, mx_fb0, mx_fb1, mx_cat_int, mx_cat_ref, if_true, if_false, not_true_eq_false, not_false_eq_true, T, f15, this, Option.isSome_none, Bool.false_eq_true, show ¬ nI 2 < 2 by decide, show nI 2 = 2 by decide, show ¬ (2 : Int32) = 3 by decide, show ¬ (2 : Int32) = 4 by decide, show ¬ (0 : Int32) = 1 by decide, show ¬ (2 : Int32) < 2 by decide]
    | some v =>
      have : (srV p 2).isSome = true := by unfold srV; simp [z]
      rw [z] at f15
      simp only [r324_0, r324_1, r324_2, r324_5, r324_6, r324_7, r324_10, r324_11, r324_12, r324_14, r324_17, r324_18, r324_21, r324_22, r324_23, r324_26, r324_27, r324_28, r324_30, r324_33, r324_34, r324_37, r324_38, r324_39, r324_42, r324_43, r324_44, r324_46, r324_49, r324_52, r324_53, r324_56, r324_57, mx_isr_ref, mx_isr_null, mx_wt_nil, mx_wt_1, mx_wt_2, mx_wt_3, Option.bind_some, Option.toList_some, Option.toList_none, List.cons_append, List.nil_append, mx_nl_int, mx_nl_ref, mx_nl_null, mx_nl_none, mx_nb0, mx_nb1, mx_fb0, mx_fb1, mx_cat_int, mx_cat_ref, if_true, if_false, not_true_eq_false, not_false_eq_true, T, f15, this, Option.isSome_some, show ¬ (2 : Int32) < 2 by decide, show nI 2 = 2 by decide]
  · cases z : pon p with
    | none =>
      have : (srV p 3).isSome = false := by unfold srV; simp [z]
      rw [z] at f17
      simp only [r324_0, r324_1, r324_2, r324_5, r324_6, r324_7, r324_10, r324_11, r324_12, r324_14, r324_17, r324_18, r324_21, r324_22, r324_23, r324_26, r324_27, r324_28, r324_30, r324_33, r324_34, r324_37, r324_38, r324_39, r324_42, r324_43, r324_44, r324_46, r324_49, r324_52, r324_53, r324_56, r324_57, mx_isr_ref, mx_isr_null, mx_wt_nil, mx_wt_1, mx_wt_2, mx_wt_3, Option.bind_some, Option.toList_some, Option.toList_none, List.cons_append, List.nil_append, mx_nl_int, mx_nl_ref, mx_nl_null, mx_nl_none, mx_nb0, mx_nb1, mx_fb0, mx_fb1, mx_cat_int, mx_cat_ref, if_true, if_false, not_true_eq_false, not_false_eq_true, T, f17, this, Option.isSome_none, Bool.false_eq_true, show nI 3 = 3 by decide, show ¬ (3 : Int32) < 2 by decide, show ¬ (3 : Int32) = 2 by decide, show ¬ (3 : Int32) = 4 by decide, show ¬ (0 : Int32) = 1 by decide]
    | some v =>
      have : (srV p 3).isSome = true := by unfold srV; simp [z]
      rw [z] at f17
      simp only [r324_0, r324_1, r324_2, r324_5, r324_6, r324_7, r324_10, r324_11, r324_12, r324_14, r324_17, r324_18, r324_21, r324_22, r324_23, r324_26, r324_27, r324_28, r324_30, r324_33, r324_34, r324_37, r324_38, r324_39, r324_42, r324_43, r324_44, r324_46, r324_49, r324_52, r324_53, r324_56, r324_57, mx_isr_ref, mx_isr_null, mx_wt_nil, mx_wt_1, mx_wt_2, mx_wt_3, Option.bind_some, Option.toList_some, Option.toList_none, List.cons_append, List.nil_append, mx_nl_int, mx_nl_ref, mx_nl_null, mx_nl_none, mx_nb0, mx_nb1, mx_fb0, mx_fb1, mx_cat_int, mx_cat_ref, if_true, if_false, not_true_eq_false, not_false_eq_true, T, f17, this, Option.isSome_some, show nI 3 = 3 by decide, show ¬ (3 : Int32) < 2 by decide, show ¬ (3 : Int32) = 2 by decide]
  · cases z : pit p with
    | nil =>
      have : (srV p 4).isSome = false := by unfold srV; simp [z]
      rw [z] at f19
      simp only [r324_0, r324_1, r324_2, r324_5, r324_6, r324_7, r324_10, r324_11, r324_12, r324_14, r324_17, r324_18, r324_21, r324_22, r324_23, r324_26, r324_27, r324_28, r324_30, r324_33, r324_34, r324_37, r324_38, r324_39, r324_42, r324_43, r324_44, r324_46, r324_49, r324_52, r324_53, r324_56, r324_57, mx_isr_ref, mx_isr_null, mx_wt_nil, mx_wt_1, mx_wt_2, mx_wt_3, Option.bind_some, Option.toList_some, Option.toList_none, List.cons_append, List.nil_append, mx_nl_int, mx_nl_ref, mx_nl_null, mx_nl_none, mx_nb0, mx_nb1, mx_fb0, mx_fb1, mx_cat_int, mx_cat_ref, if_true, if_false, not_true_eq_false, not_false_eq_true, T, f19, this, List.length_nil, Bool.false_eq_true, show nI 0 ≤ 0 by decide, show nI 4 = 4 by decide, show ¬ (4 : Int32) < 2 by decide, show ¬ (4 : Int32) = 2 by decide, show ¬ (4 : Int32) = 3 by decide]
    | cons x l =>
      have : (srV p 4).isSome = true := by
        unfold srV
        simp only [show ¬ (4 : Nat) = 0 by decide, show ¬ (4 : Nat) = 1 by decide, show ¬ (4 : Nat) = 2 by decide, show ¬ (4 : Nat) = 3 by decide, if_false, z]
        cases (x :: l).find? (fun y => y.2 == some true) <;> rfl
      have n1 : ¬ nI (pit p).length ≤ 0 := nI_nle (by rw [z]; simp) (by omega)
      simp only [r324_0, r324_1, r324_2, r324_5, r324_6, r324_7, r324_10, r324_11, r324_12, r324_14, r324_17, r324_18, r324_21, r324_22, r324_23, r324_26, r324_27, r324_28, r324_30, r324_33, r324_34, r324_37, r324_38, r324_39, r324_42, r324_43, r324_44, r324_46, r324_49, r324_52, r324_53, r324_56, r324_57, mx_isr_ref, mx_isr_null, mx_wt_nil, mx_wt_1, mx_wt_2, mx_wt_3, Option.bind_some, Option.toList_some, Option.toList_none, List.cons_append, List.nil_append, mx_nl_int, mx_nl_ref, mx_nl_null, mx_nl_none, mx_nb0, mx_nb1, mx_fb0, mx_fb1, mx_cat_int, mx_cat_ref, if_true, if_false, not_true_eq_false, not_false_eq_true, T, f19, this, n1, show nI 4 = 4 by decide, show ¬ (4 : Int32) < 2 by decide, show ¬ (4 : Int32) = 2 by decide, show ¬ (4 : Int32) = 3 by decide]
/-- the item that sorting looks at -/
def pmj (l : List itm) : Nat → Nat → Nat
  | _, 0 => 0
  | j, n + 1 => if (iG l j).2 = some true then j else pmj l (j + 1) n
theorem pmj_lt (l : List itm) : ∀ n j, j + n = l.length → 0 < l.length → pmj l j n < l.length := by
  intro n
  induction n with
  | zero => intro j _ h; exact h
  | succ n ih =>
    intro j hj h
    rw [pmj]
    split
    · omega
    · exact ih (j + 1) (by omega) h
theorem pmj_find (l : List itm) : ∀ n j, j + n = l.length → (match (l.drop j).find? (fun y => y.2 == some true) with | some y => iG l (pmj l j n) = y | none => pmj l j n = 0) := by
  intro n
  induction n with
  | zero =>
    intro j hj
    rw [List.drop_eq_nil_iff.2 (by omega)]
    rfl
  | succ n ih =>
    intro j hj
    have jl : j < l.length := by omega
    have g : iG l j = l[j] := by unfold iG; rw [List.getD_eq_getElem?_getD, List.getElem?_eq_getElem jl]; rfl
    rw [List.drop_eq_getElem_cons jl, List.find?_cons, pmj, g]
    by_cases c : l[j].2 = some true
    · rw [if_pos c, show (l[j].2 == some true) = true from beq_iff_eq.2 c]
      exact g
    · rw [if_neg c, show (l[j].2 == some true) = false from beq_eq_false_iff_ne.2 c]
      exact ih (j + 1) (by omega)
theorem srV_4 {p : prs} (hp : pit p ≠ []) : srV p 4 = some ((iG (pit p) (pmj (pit p) 0 (pit p).length)).1, 0) := by
  have f := pmj_find (pit p) (pit p).length 0 (Nat.zero_add _)
  rw [List.drop_zero] at f
  unfold srV
  simp only [show ¬ (4 : Nat) = 0 by decide, show ¬ (4 : Nat) = 1 by decide, show ¬ (4 : Nat) = 2 by decide, show ¬ (4 : Nat) = 3 by decide, if_false]
  cases z : pit p with
  | nil => exact absurd z hp
  | cons x l =>
    rw [z] at f
    cases y : (x :: l).find? (fun y => y.2 == some true) with
    | some w => rw [y] at f; simp only at f ⊢; rw [f]
    | none => rw [y] at f; simp only at f ⊢; rw [f]; rfl
theorem rm_txtL (T : mr_T h) {s k : Nat} {p : prs} (R : rcP h s p) (W : wfP p) (hs : s ≤ 8) : ∀ j, j ≤ (pit p).length → mx_G (d + 1) 326 13 [some (.ref 76), some (.int (nI s)), some (.int (nI k)), some (.int (nI (pmj (pit p) j ((pit p).length - j)))), some (.int (nI j - 1))] [] h = mx_G (d + 1) 326 49 [some (.ref 76), some (.int (nI s)), some (.int (nI k)), some (.int (nI (pmj (pit p) 0 (pit p).length))), some (.int (-1))] [] h := by
  have h4 := W.2.2.1
  intro j
  induction j with
  | zero =>
    intro _
    rw [show nI 0 - 1 = -1 by decide, Nat.sub_zero]
    simp only [r326_13, r326_15, mx_isr_ref, mx_isr_null, mx_wt_nil, mx_wt_1, mx_wt_2, mx_wt_3, Option.bind_some, Option.toList_some, Option.toList_none, List.cons_append, List.nil_append, mx_nl_int, mx_nl_ref, mx_nl_null, mx_nl_none, mx_nb0, mx_nb1, mx_fb0, mx_fb1, mx_cat_int, mx_cat_ref, if_true, if_false, not_true_eq_false, not_false_eq_true, show (-1 : Int32) < 0 by decide]
  | succ j ih =>
    intro hj
    have hi := ih (by omega)
    rw [show (pit p).length - j = (pit p).length - (j + 1) + 1 by omega, pmj] at hi
    have e0 : nI (j + 1) - 1 = nI j := nI_pred j
    have n1 : ¬ nI j < 0 := nI_pos (by omega)
    have e3 : nI j + (-1) = nI j - 1 := by rw [Int32.sub_eq_add_neg]
    have im := rm_item (d := d) (h := h) (k := j)
    have e2 : nI (20 + 14 * j) + 13 = nI (20 + 14 * j + 13) := nI_add _ 13
    have fp := rm_f (d := d) T (s := s) (o := 20 + 14 * j + 13) (by omega)
    have rp : mi h 77 (80 * s + (20 + 14 * j + 13)) = nI (pB (iG (pit p) j).2) := by
      have := R.2 j (by omega) 13 (by decide)
      rw [show 80 * s + (20 + 14 * j + 13) = 80 * s + 20 + 14 * j + 13 by omega, this]
      rfl
    rw [rp] at fp
    rw [e0, r326_13]
    by_cases c : (iG (pit p) j).2 = some true
    · rw [if_pos c] at hi
      rw [← hi]
      have e : nI (pB (iG (pit p) j).2) = 1 := by rw [c]; rfl
      simp only [r326_15, r326_18, r326_19, r326_20, r326_21, r326_23, r326_26, r326_28, r326_29, r326_32, r326_33, r326_36, r326_38, r326_41, r326_42, r326_43, r326_46, mx_isr_ref, mx_isr_null, mx_wt_nil, mx_wt_1, mx_wt_2, mx_wt_3, Option.bind_some, Option.toList_some, Option.toList_none, List.cons_append, List.nil_append, mx_nl_int, mx_nl_ref, mx_nl_null, mx_nl_none, mx_nb0, mx_nb1, mx_fb0, mx_fb1, mx_cat_int, mx_cat_ref, if_true, if_false, not_true_eq_false, not_false_eq_true, T, n1, im, e2, fp, eq_true e, e3]
    · rw [if_neg c] at hi
      rw [← hi]
      have e : ¬ nI (pB (iG (pit p) j).2) = 1 := by
        cases z : (iG (pit p) j).2 with
        | none => decide
        | some b => cases b with | true => exact absurd z c | false => decide
      simp only [r326_15, r326_18, r326_19, r326_20, r326_21, r326_23, r326_26, r326_28, r326_29, r326_32, r326_33, r326_36, r326_38, r326_41, r326_42, r326_43, r326_46, mx_isr_ref, mx_isr_null, mx_wt_nil, mx_wt_1, mx_wt_2, mx_wt_3, Option.bind_some, Option.toList_some, Option.toList_none, List.cons_append, List.nil_append, mx_nl_int, mx_nl_ref, mx_nl_null, mx_nl_none, mx_nb0, mx_nb1, mx_fb0, mx_fb1, mx_cat_int, mx_cat_ref, if_true, if_false, not_true_eq_false, not_false_eq_true, T, n1, im, e2, fp, e, e3]
theorem rm_textOf (T : mr_T h) {s k : Nat} {p : prs} (R : rcP h s p) (W : wfP p) (hs : s ≤ 8) (hk : k ≤ 4) : mx_G (d + 1) 326 0 [some (.ref 76), some (.int (nI s)), some (.int (nI k)), none, none] [] h = some (some (.int (nI (if k = 1 then 2 else 20 + 14 * pmj (pit p) 0 (pit p).length))), h) := by
  have h4 := W.2.2.1
  have f19 := rm_f (d := d) T (s := s) (o := 19) (by omega)
  rw [R.1 19 (by decide), show nI 19 = 19 from rfl, show pe p 19 = nI (pit p).length from rfl] at f19
  have L := rm_txtL (d := d) (k := k) T R W hs (pit p).length (Nat.le_refl _)
  rw [Nat.sub_self, show pmj (pit p) (pit p).length 0 = 0 from rfl] at L
  have st : mx_G (d + 1) 326 0 [some (.ref 76), some (.int (nI s)), some (.int (nI k)), none, none] [] h = mx_G (d + 1) 326 13 [some (.ref 76), some (.int (nI s)), some (.int (nI k)), some (.int (nI 0)), some (.int (nI (pit p).length - 1))] [] h := by
    simp only [r326_0, r326_1, r326_2, r326_3, r326_4, r326_6, r326_9, r326_10, r326_11, mx_isr_ref, mx_isr_null, mx_wt_nil, mx_wt_1, mx_wt_2, mx_wt_3, Option.bind_some, Option.toList_some, Option.toList_none, List.cons_append, List.nil_append, mx_nl_int, mx_nl_ref, mx_nl_null, mx_nl_none, mx_nb0, mx_nb1, mx_fb0, mx_fb1, mx_cat_int, mx_cat_ref, if_true, if_false, not_true_eq_false, not_false_eq_true, T, f19]
    rfl
  rw [st, L]
  have im := rm_item (d := d) (h := h) (k := pmj (pit p) 0 (pit p).length)
  by_cases c : k = 1
  · have e : nI k = 1 := by rw [c]; rfl
    rw [if_pos c]
    simp only [r326_49, r326_50, r326_51, r326_54, r326_55, r326_58, r326_59, r326_60, r326_63, mx_isr_ref, mx_isr_null, mx_wt_nil, mx_wt_1, mx_wt_2, mx_wt_3, Option.bind_some, Option.toList_some, Option.toList_none, List.cons_append, List.nil_append, mx_nl_int, mx_nl_ref, mx_nl_null, mx_nl_none, mx_nb0, mx_nb1, mx_fb0, mx_fb1, mx_cat_int, mx_cat_ref, if_true, if_false, not_true_eq_false, not_false_eq_true, eq_true e]
    rfl
  · have e : ¬ nI k = 1 := fun z => c ((nI_eq (b := 1) (by omega) (by decide)).mp z)
    rw [if_neg c]
    simp only [r326_49, r326_50, r326_51, r326_54, r326_55, r326_58, r326_59, r326_60, r326_63, mx_isr_ref, mx_isr_null, mx_wt_nil, mx_wt_1, mx_wt_2, mx_wt_3, Option.bind_some, Option.toList_some, Option.toList_none, List.cons_append, List.nil_append, mx_nl_int, mx_nl_ref, mx_nl_null, mx_nl_none, mx_nb0, mx_nb1, mx_fb0, mx_fb1, mx_cat_int, mx_cat_ref, if_true, if_false, not_true_eq_false, not_false_eq_true, T, e, im]
theorem rm_cbL (T : mr_T h) {a b k o1 o2 : Nat} {l m : List Nat} (R : txR h a o1 l) (Q : txR h b o2 m) (hk : k ≤ 4) : ∀ (sa sb : List Nat) (j : Nat) (l7 : Option Value), (al (decide (k = 1)) l).drop j = sa → (al (decide (k = 1)) m).drop j = sb → j ≤ l.length → j ≤ m.length →
    ∃ x, mx_G (d + 2) 325 29 [some (.ref 76), some (.int (nI a)), some (.int (nI b)), some (.int (nI k)), some (.int (nI o1)), some (.int (nI o2)), some (.int (nI j)), l7] [] h = some (some (.int x), h) ∧ sgE x (cmpL sa sb) := by
  have l12 := R.1
  have m12 := Q.1
  have rb := R.2.2.1
  have qb := Q.2.2.1
  have fl := rm_f (d := d + 1) T (s := a) (o := o1) (by omega)
  have rd := R.2.2.2 0 (by decide)
  rw [Nat.add_zero] at rd
  rw [rd, show te l 0 = nI l.length from rfl] at fl
  have fm := rm_f (d := d + 1) T (s := b) (o := o2) (by omega)
  have qd := Q.2.2.2 0 (by decide)
  rw [Nat.add_zero] at qd
  rw [qd, show te m 0 = nI m.length from rfl] at fm
  intro sa
  induction sa with
  | nil =>
    intro sb j l7 hsa hsb hj hj'
    have k1 : l.length ≤ j := by have := List.drop_eq_nil_iff.1 hsa; rw [al_len] at this; exact this
    have e1 : nI l.length ≤ nI j := nI_le (by omega) (by omega)
    have sl : sb.length = m.length - j := by rw [← hsb, List.length_drop, al_len]
    refine ⟨nI l.length - nI m.length, ?_, ?_⟩
    · simp only [r325_29, r325_31, r325_32, r325_33, r325_35, r325_38, r325_108, r325_109, r325_110, r325_112, r325_115, r325_116, r325_117, r325_119, r325_122, r325_123, mx_isr_ref, mx_isr_null, mx_wt_nil, mx_wt_1, mx_wt_2, mx_wt_3, Option.bind_some, Option.toList_some, Option.toList_none, List.cons_append, List.nil_append, mx_nl_int, mx_nl_ref, mx_nl_null, mx_nl_none, mx_nb0, mx_nb1, mx_fb0, mx_fb1, mx_cat_int, mx_cat_ref, if_true, if_false, not_true_eq_false, not_false_eq_true, T, fl, fm, e1]
    · apply sgE_int <;> rw [nI_subI (by omega) (by omega)]
      · cases sb with
        | nil => simp only [List.length_nil] at sl; rw [cmpL]; omega
        | cons c sb => simp only [List.length_cons] at sl; rw [cmpL]; omega
      · cases sb with
        | nil => simp only [List.length_nil] at sl; rw [cmpL]; omega
        | cons c sb => simp only [List.length_cons] at sl; rw [cmpL]; omega
  | cons c sa ih =>
    intro sb j l7 hsa hsb hj hj'
    obtain ⟨d1, d2, d3⟩ := dropC hsa
    rw [al_len] at d2
    have e1 : ¬ nI l.length ≤ nI j := nI_ge d2 (by omega)
    cases sb with
    | nil =>
      have k1 : m.length ≤ j := by have := List.drop_eq_nil_iff.1 hsb; rw [al_len] at this; exact this
      have e2 : nI m.length ≤ nI j := nI_le (by omega) (by omega)
      refine ⟨nI l.length - nI m.length, ?_, ?_⟩
      · simp only [r325_29, r325_31, r325_32, r325_33, r325_35, r325_38, r325_41, r325_43, r325_44, r325_45, r325_47, r325_50, r325_108, r325_109, r325_110, r325_112, r325_115, r325_116, r325_117, r325_119, r325_122, r325_123, mx_isr_ref, mx_isr_null, mx_wt_nil, mx_wt_1, mx_wt_2, mx_wt_3, Option.bind_some, Option.toList_some, Option.toList_none, List.cons_append, List.nil_append, mx_nl_int, mx_nl_ref, mx_nl_null, mx_nl_none, mx_nb0, mx_nb1, mx_fb0, mx_fb1, mx_cat_int, mx_cat_ref, if_true, if_false, not_true_eq_false, not_false_eq_true, T, fl, fm, e1, e2]
      · apply sgE_int <;> rw [nI_subI (by omega) (by omega), cmpL] <;> omega
    | cons c' sb =>
      obtain ⟨d1', d2', d3'⟩ := dropC hsb
      rw [al_len] at d2'
      have e2 : ¬ nI m.length ≤ nI j := nI_ge d2' (by omega)
      have e0 : (al (decide (k = 1)) l).getD j 0 = c := by rw [List.getD_eq_getElem?_getD, d3]; rfl
      have e0' : (al (decide (k = 1)) m).getD j 0 = c' := by rw [List.getD_eq_getElem?_getD, d3']; rfl
      have hc : c < 128 := al_lt R.2.1 c (List.mem_of_getElem? d3)
      have hc' : c' < 128 := al_lt Q.2.1 c' (List.mem_of_getElem? d3')
      have a1 := rm_at (d := d) T R (k := j) (by omega) (decide (k = 1))
      have a2 := rm_at (d := d) T Q (k := j) (by omega) (decide (k = 1))
      rw [e0] at a1
      rw [e0'] at a2
      have sg : (nI c - nI c').toInt = (c : Int) - c' := nI_subI (by omega) (by omega)
      have ev : mx_G (d + 2) 325 29 [some (.ref 76), some (.int (nI a)), some (.int (nI b)), some (.int (nI k)), some (.int (nI o1)), some (.int (nI o2)), some (.int (nI j)), l7] [] h = mx_G (d + 2) 325 94 [some (.ref 76), some (.int (nI a)), some (.int (nI b)), some (.int (nI k)), some (.int (nI o1)), some (.int (nI o2)), some (.int (nI j)), some (.int (nI c - nI c'))] [] h := by
        by_cases ck : k = 1
        · have ek : nI k = 1 := by rw [ck]; rfl
          rw [decide_eq_true ck] at a1 a2
          simp only [if_true] at a1 a2
          simp only [r325_29, r325_31, r325_32, r325_33, r325_35, r325_38, r325_41, r325_43, r325_44, r325_45, r325_47, r325_50, r325_53, r325_54, r325_55, r325_57, r325_59, r325_60, r325_61, r325_64, r325_65, r325_68, r325_69, r325_72, r325_73, r325_74, r325_76, r325_78, r325_79, r325_80, r325_83, r325_84, r325_87, r325_88, r325_91, r325_92, mx_isr_ref, mx_isr_null, mx_wt_nil, mx_wt_1, mx_wt_2, mx_wt_3, Option.bind_some, Option.toList_some, Option.toList_none, List.cons_append, List.nil_append, mx_nl_int, mx_nl_ref, mx_nl_null, mx_nl_none, mx_nb0, mx_nb1, mx_fb0, mx_fb1, mx_cat_int, mx_cat_ref, if_true, if_false, not_true_eq_false, not_false_eq_true, T, fl, fm, e1, e2, eq_true ek, a1, a2]
        · have ek : ¬ nI k = 1 := fun z => ck ((nI_eq (b := 1) (by omega) (by decide)).mp z)
          rw [decide_eq_false ck] at a1 a2
          simp only [Bool.false_eq_true, if_false] at a1 a2
          simp only [r325_29, r325_31, r325_32, r325_33, r325_35, r325_38, r325_41, r325_43, r325_44, r325_45, r325_47, r325_50, r325_53, r325_54, r325_55, r325_57, r325_59, r325_60, r325_61, r325_64, r325_65, r325_68, r325_69, r325_72, r325_73, r325_74, r325_76, r325_78, r325_79, r325_80, r325_83, r325_84, r325_87, r325_88, r325_91, r325_92, mx_isr_ref, mx_isr_null, mx_wt_nil, mx_wt_1, mx_wt_2, mx_wt_3, Option.bind_some, Option.toList_some, Option.toList_none, List.cons_append, List.nil_append, mx_nl_int, mx_nl_ref, mx_nl_null, mx_nl_none, mx_nb0, mx_nb1, mx_fb0, mx_fb1, mx_cat_int, mx_cat_ref, if_true, if_false, not_true_eq_false, not_false_eq_true, T, fl, fm, e1, e2, ek, a1, a2]
      by_cases e : c = c'
      · subst e
        have z : nI c - nI c = 0 := Int32.toInt_inj.1 (by rw [sg]; simp)
        obtain ⟨x, r, g⟩ := ih sb (j + 1) (some (.int 0)) d1 d1' (by omega) (by omega)
        refine ⟨x, ?_, ?_⟩
        · rw [← r, ev]
          simp only [r325_94, r325_96, r325_99, r325_101, r325_102, r325_105, mx_isr_ref, mx_isr_null, mx_wt_nil, mx_wt_1, mx_wt_2, mx_wt_3, Option.bind_some, Option.toList_some, Option.toList_none, List.cons_append, List.nil_append, mx_nl_int, mx_nl_ref, mx_nl_null, mx_nl_none, mx_nb0, mx_nb1, mx_fb0, mx_fb1, mx_cat_int, mx_cat_ref, if_true, if_false, not_true_eq_false, not_false_eq_true, z, nI_1]
        · rw [cmpL, if_neg (by omega), if_neg (by omega)]; exact g
      · have z : ¬ nI c - nI c' = 0 := fun y => by
          have := congrArg Int32.toInt y
          rw [sg] at this
          have : (0 : Int32).toInt = 0 := by decide
          omega
        refine ⟨nI c - nI c', ?_, ?_⟩
        · rw [ev]
          simp only [r325_94, r325_96, r325_99, r325_101, r325_102, r325_105, mx_isr_ref, mx_isr_null, mx_wt_nil, mx_wt_1, mx_wt_2, mx_wt_3, Option.bind_some, Option.toList_some, Option.toList_none, List.cons_append, List.nil_append, mx_nl_int, mx_nl_ref, mx_nl_null, mx_nl_none, mx_nb0, mx_nb1, mx_fb0, mx_fb1, mx_cat_int, mx_cat_ref, if_true, if_false, not_true_eq_false, not_false_eq_true, z]
        · apply sgE_int <;> rw [sg, cmpL]
          · by_cases y : c < c'
            · rw [if_pos y]; omega
            · rw [if_neg y, if_pos (by omega)]; omega
          · by_cases y : c < c'
            · rw [if_pos y]; omega
            · rw [if_neg y, if_pos (by omega)]; omega
theorem cb_int {a b k : Nat} {v w : Int32} {x y : Int} (hv : v.toInt = x) (hw : w.toInt = y) : ∃ z, mx_G d 325 200 [some (.ref 76), some (.int (nI a)), some (.int (nI b)), some (.int (nI k)), some (.int v), some (.int w), none, none] [] h = some (some (.int z), h) ∧ sgE z (cmpI x y) := by
  unfold cmpI
  by_cases c1 : x < y
  · have e : ¬ w ≤ v := by rw [Int32.le_iff_toInt_le]; omega
    rw [if_pos c1]
    exact ⟨-1, by simp only [r325_200, r325_202, r325_204, r325_207, r325_208, r325_211, r325_213, r325_215, r325_218, r325_219, r325_222, r325_223, mx_isr_ref, mx_isr_null, mx_wt_nil, mx_wt_1, mx_wt_2, mx_wt_3, Option.bind_some, Option.toList_some, Option.toList_none, List.cons_append, List.nil_append, mx_nl_int, mx_nl_ref, mx_nl_null, mx_nl_none, mx_nb0, mx_nb1, mx_fb0, mx_fb1, mx_cat_int, mx_cat_ref, if_true, if_false, not_true_eq_false, not_false_eq_true, e], sgE_int (by decide) (by decide)⟩
  · have e : w ≤ v := by rw [Int32.le_iff_toInt_le]; omega
    rw [if_neg c1]
    by_cases c2 : y < x
    · have e2 : ¬ v ≤ w := by rw [Int32.le_iff_toInt_le]; omega
      rw [if_pos c2]
      exact ⟨1, by simp only [r325_200, r325_202, r325_204, r325_207, r325_208, r325_211, r325_213, r325_215, r325_218, r325_219, r325_222, r325_223, mx_isr_ref, mx_isr_null, mx_wt_nil, mx_wt_1, mx_wt_2, mx_wt_3, Option.bind_some, Option.toList_some, Option.toList_none, List.cons_append, List.nil_append, mx_nl_int, mx_nl_ref, mx_nl_null, mx_nl_none, mx_nb0, mx_nb1, mx_fb0, mx_fb1, mx_cat_int, mx_cat_ref, if_true, if_false, not_true_eq_false, not_false_eq_true, e, e2], sgE_int (by decide) (by decide)⟩
    · have e2 : v ≤ w := by rw [Int32.le_iff_toInt_le]; omega
      rw [if_neg c2]
      exact ⟨0, by simp only [r325_200, r325_202, r325_204, r325_207, r325_208, r325_211, r325_213, r325_215, r325_218, r325_219, r325_222, r325_223, mx_isr_ref, mx_isr_null, mx_wt_nil, mx_wt_1, mx_wt_2, mx_wt_3, Option.bind_some, Option.toList_some, Option.toList_none, List.cons_append, List.nil_append, mx_nl_int, mx_nl_ref, mx_nl_null, mx_nl_none, mx_nb0, mx_nb1, mx_fb0, mx_fb1, mx_cat_int, mx_cat_ref, if_true, if_false, not_true_eq_false, not_false_eq_true, e, e2], sgE_int (by decide) (by decide)⟩
theorem rm_compareBy (T : mr_T h) {a b k : Nat} {p q : prs} (R : rcP h a p) (W : wfP p) (ha : a ≤ 8) (Q : rcP h b q) (Wq : wfP q) (hb : b ≤ 8) (hk : k ≤ 4) (b1 : p.1 < 2 ^ 20) (b2 : q.1 < 2 ^ 20) {x y : List Nat × Int} (hx : srV p k = some x) (hy : srV q k = some y) :
    ∃ z, mx_G (d + 2) 325 0 [some (.ref 76), some (.int (nI a)), some (.int (nI b)), some (.int (nI k)), none, none, none, none] [] h = some (some (.int z), h) ∧ sgE z (srC x y) := by
  have t1 := rm_textOf (d := d) (k := k) T R W ha hk
  have t2 := rm_textOf (d := d) (k := k) T Q Wq hb hk
  have txt : ∀ {o1 o2 : Nat} {l m : List Nat}, k = 1 ∨ k = 4 → txR h a o1 l → txR h b o2 m → o1 = (if k = 1 then 2 else 20 + 14 * pmj (pit p) 0 (pit p).length) → o2 = (if k = 1 then 2 else 20 + 14 * pmj (pit q) 0 (pit q).length) → x = (al (decide (k = 1)) l, 0) → y = (al (decide (k = 1)) m, 0) → ∃ z, mx_G (d + 2) 325 0 [some (.ref 76), some (.int (nI a)), some (.int (nI b)), some (.int (nI k)), none, none, none, none] [] h = some (some (.int z), h) ∧ sgE z (srC x y) := by
    intro o1 o2 l m kk R1 Q1 e1 e2 ex ey
    rw [← e1] at t1
    rw [← e2] at t2
    obtain ⟨z, r, g⟩ := rm_cbL (d := d) T R1 Q1 hk _ _ 0 none rfl rfl (Nat.zero_le _) (Nat.zero_le _)
    refine ⟨z, ?_, ?_⟩
    · rw [← r]
      rcases kk with e | e
      · subst e
        simp only [r325_0, r325_1, r325_2, r325_5, r325_6, r325_7, r325_10, r325_11, r325_12, r325_13, r325_16, r325_18, r325_19, r325_20, r325_21, r325_24, r325_26, r325_27, mx_isr_ref, mx_isr_null, mx_wt_nil, mx_wt_1, mx_wt_2, mx_wt_3, Option.bind_some, Option.toList_some, Option.toList_none, List.cons_append, List.nil_append, mx_nl_int, mx_nl_ref, mx_nl_null, mx_nl_none, mx_nb0, mx_nb1, mx_fb0, mx_fb1, mx_cat_int, mx_cat_ref, if_true, if_false, not_true_eq_false, not_false_eq_true, T, t1, t2, eq_true (show nI 1 = 1 by decide)]
        rfl
      · subst e
        simp only [r325_0, r325_1, r325_2, r325_5, r325_6, r325_7, r325_10, r325_11, r325_12, r325_13, r325_16, r325_18, r325_19, r325_20, r325_21, r325_24, r325_26, r325_27, mx_isr_ref, mx_isr_null, mx_wt_nil, mx_wt_1, mx_wt_2, mx_wt_3, Option.bind_some, Option.toList_some, Option.toList_none, List.cons_append, List.nil_append, mx_nl_int, mx_nl_ref, mx_nl_null, mx_nl_none, mx_nb0, mx_nb1, mx_fb0, mx_fb1, mx_cat_int, mx_cat_ref, if_true, if_false, not_true_eq_false, not_false_eq_true, T, t1, t2, eq_false (show ¬ nI 4 = 1 by decide), eq_true (show nI 4 = 4 by decide)]
        rfl
    · rw [ex, ey]
      unfold srC
      simp only [List.drop_zero] at g
      by_cases c : cmpL (al (decide (k = 1)) l) (al (decide (k = 1)) m) = 0
      · rw [if_neg (fun z => z c)]
        rw [c] at g
        exact g
      · rw [if_pos c]; exact g
  have num : ∀ {u v : Int}, x = ([], u) → y = ([], v) → srC x y = cmpI u v := by
    intro u v e1 e2
    rw [e1, e2]
    unfold srC
    rw [if_neg (fun z => z rfl)]
  have : k = 0 ∨ k = 1 ∨ k = 2 ∨ k = 3 ∨ k = 4 := by omega
  rcases this with e | e | e | e | e <;> subst e
  · have ex : x = ([], (p.1 : Int)) := by cases hx; rfl
    have ey : y = ([], (q.1 : Int)) := by cases hy; rfl
    rw [num ex ey]
    have f1 := rm_f (d := d + 1) T (s := a) (o := 0) (by omega)
    rw [R.1 0 (by decide), show nI 0 = 0 from rfl, show pe p 0 = nI p.1 from rfl] at f1
    have f2 := rm_f (d := d + 1) T (s := b) (o := 0) (by omega)
    rw [Q.1 0 (by decide), show nI 0 = 0 from rfl, show pe q 0 = nI q.1 from rfl] at f2
    obtain ⟨z, r, g⟩ := cb_int (d := d + 2) (h := h) (a := a) (b := b) (k := 0) (nI_toInt (n := p.1) (by omega)) (nI_toInt (n := q.1) (by omega))
    refine ⟨z, ?_, g⟩
    rw [← r]
    simp only [r325_0, r325_1, r325_2, r325_5, r325_6, r325_7, r325_124, r325_125, r325_128, r325_129, r325_130, r325_131, r325_134, r325_137, r325_138, r325_139, r325_142, r325_143, r325_144, r325_146, r325_149, r325_152, r325_153, r325_154, r325_156, r325_159, r325_160, r325_162, r325_163, r325_166, r325_167, r325_168, r325_169, r325_172, r325_175, r325_176, r325_177, r325_180, r325_181, r325_182, r325_184, r325_187, r325_190, r325_191, r325_192, r325_194, r325_197, r325_198, mx_isr_ref, mx_isr_null, mx_wt_nil, mx_wt_1, mx_wt_2, mx_wt_3, Option.bind_some, Option.toList_some, Option.toList_none, List.cons_append, List.nil_append, mx_nl_int, mx_nl_ref, mx_nl_null, mx_nl_none, mx_nb0, mx_nb1, mx_fb0, mx_fb1, mx_cat_int, mx_cat_ref, if_true, if_false, not_true_eq_false, not_false_eq_true, T, f1, f2, show nI 0 = 0 by decide, show ¬ (0 : Int32) = 1 by decide, show ¬ (0 : Int32) = 4 by decide]
  · exact txt (Or.inl rfl) (txR_nm R W ha) (txR_nm Q Wq hb) rfl rfl (by cases hx; rfl) (by cases hy; rfl)
  · cases zp : pag p with
    | none => unfold srV at hx; rw [zp] at hx; cases hx
    | some u =>
      cases zq : pag q with
      | none => unfold srV at hy; rw [zq] at hy; cases hy
      | some v =>
        have ex : x = ([], u) := by unfold srV at hx; rw [zp] at hx; cases hx; rfl
        have ey : y = ([], v) := by unfold srV at hy; rw [zq] at hy; cases hy; rfl
        rw [num ex ey]
        have f1 := rm_f (d := d + 1) T (s := a) (o := 16) (by omega)
        rw [R.1 16 (by decide), show nI 16 = 16 from rfl, show pe p 16 = (match pag p with | none => 0 | some v => Int32.ofInt v) from rfl, zp] at f1
        have f2 := rm_f (d := d + 1) T (s := b) (o := 16) (by omega)
        rw [Q.1 16 (by decide), show nI 16 = 16 from rfl, show pe q 16 = (match pag q with | none => 0 | some v => Int32.ofInt v) from rfl, zq] at f2
        obtain ⟨z, r, g⟩ := cb_int (d := d + 2) (h := h) (a := a) (b := b) (k := 2) (i32_toInt (W.2.1 u zp)) (i32_toInt (Wq.2.1 v zq))
        refine ⟨z, ?_, g⟩
        rw [← r]
        simp only [r325_0, r325_1, r325_2, r325_5, r325_6, r325_7, r325_124, r325_125, r325_128, r325_129, r325_130, r325_131, r325_134, r325_137, r325_138, r325_139, r325_142, r325_143, r325_144, r325_146, r325_149, r325_152, r325_153, r325_154, r325_156, r325_159, r325_160, r325_162, r325_163, r325_166, r325_167, r325_168, r325_169, r325_172, r325_175, r325_176, r325_177, r325_180, r325_181, r325_182, r325_184, r325_187, r325_190, r325_191, r325_192, r325_194, r325_197, r325_198, mx_isr_ref, mx_isr_null, mx_wt_nil, mx_wt_1, mx_wt_2, mx_wt_3, Option.bind_some, Option.toList_some, Option.toList_none, List.cons_append, List.nil_append, mx_nl_int, mx_nl_ref, mx_nl_null, mx_nl_none, mx_nb0, mx_nb1, mx_fb0, mx_fb1, mx_cat_int, mx_cat_ref, if_true, if_false, not_true_eq_false, not_false_eq_true, T, f1, f2, show nI 2 = 2 by decide, show ¬ (2 : Int32) = 1 by decide, show ¬ (2 : Int32) = 4 by decide, show ¬ (2 : Int32) = 0 by decide]
  · cases zp : pon p with
    | none => unfold srV at hx; rw [zp] at hx; cases hx
    | some u =>
      cases zq : pon q with
      | none => unfold srV at hy; rw [zq] at hy; cases hy
      | some v =>
        have ex : x = ([], if u = true then 1 else 0) := by unfold srV at hx; rw [zp] at hx; cases hx; rfl
        have ey : y = ([], if v = true then 1 else 0) := by unfold srV at hy; rw [zq] at hy; cases hy; rfl
        rw [num ex ey]
        have f1 := rm_f (d := d + 1) T (s := a) (o := 18) (by omega)
        rw [R.1 18 (by decide), show nI 18 = 18 from rfl, show pe p 18 = nI (pB (pon p)) from rfl, zp] at f1
        have f2 := rm_f (d := d + 1) T (s := b) (o := 18) (by omega)
        rw [Q.1 18 (by decide), show nI 18 = 18 from rfl, show pe q 18 = nI (pB (pon q)) from rfl, zq] at f2
        have sh : cmpI (if u = true then 1 else 0) (if v = true then 1 else 0) = cmpI (-(nI (pB (some u)))).toInt (-(nI (pB (some v)))).toInt := by cases u <;> cases v <;> decide
        rw [sh]
        obtain ⟨z, r, g⟩ := cb_int (d := d + 2) (h := h) (a := a) (b := b) (k := 3) (v := -(nI (pB (some u)))) (w := -(nI (pB (some v)))) rfl rfl
        refine ⟨z, ?_, g⟩
        rw [← r]
        simp only [r325_0, r325_1, r325_2, r325_5, r325_6, r325_7, r325_124, r325_125, r325_128, r325_129, r325_130, r325_131, r325_134, r325_137, r325_138, r325_139, r325_142, r325_143, r325_144, r325_146, r325_149, r325_152, r325_153, r325_154, r325_156, r325_159, r325_160, r325_162, r325_163, r325_166, r325_167, r325_168, r325_169, r325_172, r325_175, r325_176, r325_177, r325_180, r325_181, r325_182, r325_184, r325_187, r325_190, r325_191, r325_192, r325_194, r325_197, r325_198, mx_isr_ref, mx_isr_null, mx_wt_nil, mx_wt_1, mx_wt_2, mx_wt_3, Option.bind_some, Option.toList_some, Option.toList_none, List.cons_append, List.nil_append, mx_nl_int, mx_nl_ref, mx_nl_null, mx_nl_none, mx_nb0, mx_nb1, mx_fb0, mx_fb1, mx_cat_int, mx_cat_ref, if_true, if_false, not_true_eq_false, not_false_eq_true, T, f1, f2, show nI 3 = 3 by decide, show ¬ (3 : Int32) = 1 by decide, show ¬ (3 : Int32) = 4 by decide, show ¬ (3 : Int32) = 0 by decide, show ¬ (3 : Int32) = 2 by decide]
  · have np : pit p ≠ [] := fun z => by unfold srV at hx; rw [z] at hx; cases hx
    have nq : pit q ≠ [] := fun z => by unfold srV at hy; rw [z] at hy; cases hy
    rw [srV_4 np] at hx
    rw [srV_4 nq] at hy
    exact txt (Or.inr rfl) (txR_it R W ha (pmj_lt _ _ _ (Nat.zero_add _) (List.length_pos_iff.2 np))) (txR_it Q Wq hb (pmj_lt _ _ _ (Nat.zero_add _) (List.length_pos_iff.2 nq))) rfl rfl (by cases hx; rfl) (by cases hy; rfl)
theorem rm_before (T : mr_T h) {a b k : Nat} {p q : prs} (R : rcP h a p) (W : wfP p) (ha : a ≤ 8) (Q : rcP h b q) (Wq : wfP q) (hb : b ≤ 8) (hk : k ≤ 4) (b1 : p.1 < 2 ^ 20) (b2 : q.1 < 2 ^ 20) (dn : Bool) :
    mx_G (d + 3) 323 0 [some (.ref 76), some (.int (nI a)), some (.int (nI b)), some (.int (nI k)), some (.int (if dn = true then 1 else 0)), none, none, none] [] h = some (some (.int (if bef k dn p q = true then 1 else 0)), h) := by
  have v1 := rm_hasValue (d := d + 1) (k := k) T R W ha hk
  have v2 := rm_hasValue (d := d + 1) (k := k) T Q Wq hb hk
  have f1 := rm_f (d := d + 2) T (s := a) (o := 0) (by omega)
  rw [R.1 0 (by decide), show nI 0 = 0 from rfl, show pe p 0 = nI p.1 from rfl] at f1
  have f2 := rm_f (d := d + 2) T (s := b) (o := 0) (by omega)
  rw [Q.1 0 (by decide), show nI 0 = 0 from rfl, show pe q 0 = nI q.1 from rfl] at f2
  have tie : ∀ (l5 l6 : Int32), mx_G (d + 3) 323 59 [some (.ref 76), some (.int (nI a)), some (.int (nI b)), some (.int (nI k)), some (.int (if dn = true then 1 else 0)), some (.int l5), some (.int l6), some (.int 0)] [] h = some (some (.int (if p.1 < q.1 then 1 else 0)), h) := by
    intro l5 l6
    by_cases c : p.1 < q.1
    · have e : ¬ nI q.1 ≤ nI p.1 := nI_ge c (by omega)
      rw [if_pos c]
      simp only [r323_59, r323_60, r323_61, r323_62, r323_65, r323_66, r323_67, r323_68, r323_71, r323_74, r323_75, r323_78, r323_79, r323_82, r323_84, r323_87, r323_88, r323_91, r323_92, r323_94, r323_97, r323_98, r323_101, r323_102, mx_isr_ref, mx_isr_null, mx_wt_nil, mx_wt_1, mx_wt_2, mx_wt_3, Option.bind_some, Option.toList_some, Option.toList_none, List.cons_append, List.nil_append, mx_nl_int, mx_nl_ref, mx_nl_null, mx_nl_none, mx_nb0, mx_nb1, mx_fb0, mx_fb1, mx_cat_int, mx_cat_ref, if_true, if_false, not_true_eq_false, not_false_eq_true, T, f1, f2, e]
    · have e : nI q.1 ≤ nI p.1 := nI_le (by omega) (by omega)
      rw [if_neg c]
      simp only [r323_59, r323_60, r323_61, r323_62, r323_65, r323_66, r323_67, r323_68, r323_71, r323_74, r323_75, r323_78, r323_79, r323_82, r323_84, r323_87, r323_88, r323_91, r323_92, r323_94, r323_97, r323_98, r323_101, r323_102, mx_isr_ref, mx_isr_null, mx_wt_nil, mx_wt_1, mx_wt_2, mx_wt_3, Option.bind_some, Option.toList_some, Option.toList_none, List.cons_append, List.nil_append, mx_nl_int, mx_nl_ref, mx_nl_null, mx_nl_none, mx_nb0, mx_nb1, mx_fb0, mx_fb1, mx_cat_int, mx_cat_ref, if_true, if_false, not_true_eq_false, not_false_eq_true, T, f1, f2, e]
  unfold bef srO
  cases zx : srV p k with
  | none =>
    rw [zx] at v1
    cases zy : srV q k with
    | none =>
      rw [zy] at v2
      have tt := tie 0 0
      simp only [if_true]
      by_cases c : p.1 < q.1
      · rw [if_pos c] at tt
        rw [decide_eq_true c, if_pos rfl, ← tt]
        simp only [r323_0, r323_1, r323_2, r323_3, r323_6, r323_8, r323_9, r323_10, r323_11, r323_14, r323_16, r323_18, r323_20, r323_23, r323_25, r323_27, r323_30, r323_31, r323_34, r323_35, r323_36, r323_38, r323_41, r323_42, r323_43, r323_44, r323_45, r323_48, r323_51, r323_52, r323_54, r323_56, mx_isr_ref, mx_isr_null, mx_wt_nil, mx_wt_1, mx_wt_2, mx_wt_3, Option.bind_some, Option.toList_some, Option.toList_none, List.cons_append, List.nil_append, mx_nl_int, mx_nl_ref, mx_nl_null, mx_nl_none, mx_nb0, mx_nb1, mx_fb0, mx_fb1, mx_cat_int, mx_cat_ref, if_true, if_false, not_true_eq_false, not_false_eq_true, T, v1, v2, Option.isSome_none, Bool.false_eq_true]
      · rw [if_neg c] at tt
        rw [decide_eq_false c]
        simp only [Bool.false_eq_true, if_false]
        rw [← tt]
        simp only [r323_0, r323_1, r323_2, r323_3, r323_6, r323_8, r323_9, r323_10, r323_11, r323_14, r323_16, r323_18, r323_20, r323_23, r323_25, r323_27, r323_30, r323_31, r323_34, r323_35, r323_36, r323_38, r323_41, r323_42, r323_43, r323_44, r323_45, r323_48, r323_51, r323_52, r323_54, r323_56, mx_isr_ref, mx_isr_null, mx_wt_nil, mx_wt_1, mx_wt_2, mx_wt_3, Option.bind_some, Option.toList_some, Option.toList_none, List.cons_append, List.nil_append, mx_nl_int, mx_nl_ref, mx_nl_null, mx_nl_none, mx_nb0, mx_nb1, mx_fb0, mx_fb1, mx_cat_int, mx_cat_ref, if_true, if_false, not_true_eq_false, not_false_eq_true, T, v1, v2, Option.isSome_none, Bool.false_eq_true]
    | some y =>
      rw [zy] at v2
      cases dn with
      | true => simp only [r323_0, r323_1, r323_2, r323_3, r323_6, r323_8, r323_9, r323_10, r323_11, r323_14, r323_16, r323_18, r323_20, r323_23, r323_25, r323_27, r323_30, r323_31, r323_34, r323_35, mx_isr_ref, mx_isr_null, mx_wt_nil, mx_wt_1, mx_wt_2, mx_wt_3, Option.bind_some, Option.toList_some, Option.toList_none, List.cons_append, List.nil_append, mx_nl_int, mx_nl_ref, mx_nl_null, mx_nl_none, mx_nb0, mx_nb1, mx_fb0, mx_fb1, mx_cat_int, mx_cat_ref, if_true, if_false, not_true_eq_false, not_false_eq_true, T, v1, v2, Option.isSome_none, Option.isSome_some, Bool.false_eq_true, show ¬ (0 : Int32) = 1 by decide]; rfl
      | false => simp only [r323_0, r323_1, r323_2, r323_3, r323_6, r323_8, r323_9, r323_10, r323_11, r323_14, r323_16, r323_18, r323_20, r323_23, r323_25, r323_27, r323_30, r323_31, r323_34, r323_35, mx_isr_ref, mx_isr_null, mx_wt_nil, mx_wt_1, mx_wt_2, mx_wt_3, Option.bind_some, Option.toList_some, Option.toList_none, List.cons_append, List.nil_append, mx_nl_int, mx_nl_ref, mx_nl_null, mx_nl_none, mx_nb0, mx_nb1, mx_fb0, mx_fb1, mx_cat_int, mx_cat_ref, if_true, if_false, not_true_eq_false, not_false_eq_true, T, v1, v2, Option.isSome_none, Option.isSome_some, Bool.false_eq_true, show ¬ (0 : Int32) = 1 by decide]; rfl
  | some x =>
    rw [zx] at v1
    cases zy : srV q k with
    | none =>
      rw [zy] at v2
      cases dn with
      | true => simp only [r323_0, r323_1, r323_2, r323_3, r323_6, r323_8, r323_9, r323_10, r323_11, r323_14, r323_16, r323_18, r323_20, r323_23, r323_25, r323_27, r323_30, r323_31, r323_34, r323_35, mx_isr_ref, mx_isr_null, mx_wt_nil, mx_wt_1, mx_wt_2, mx_wt_3, Option.bind_some, Option.toList_some, Option.toList_none, List.cons_append, List.nil_append, mx_nl_int, mx_nl_ref, mx_nl_null, mx_nl_none, mx_nb0, mx_nb1, mx_fb0, mx_fb1, mx_cat_int, mx_cat_ref, if_true, if_false, not_true_eq_false, not_false_eq_true, T, v1, v2, Option.isSome_none, Option.isSome_some, Bool.false_eq_true, show ¬ (1 : Int32) = 0 by decide]; rfl
      | false => simp only [r323_0, r323_1, r323_2, r323_3, r323_6, r323_8, r323_9, r323_10, r323_11, r323_14, r323_16, r323_18, r323_20, r323_23, r323_25, r323_27, r323_30, r323_31, r323_34, r323_35, mx_isr_ref, mx_isr_null, mx_wt_nil, mx_wt_1, mx_wt_2, mx_wt_3, Option.bind_some, Option.toList_some, Option.toList_none, List.cons_append, List.nil_append, mx_nl_int, mx_nl_ref, mx_nl_null, mx_nl_none, mx_nb0, mx_nb1, mx_fb0, mx_fb1, mx_cat_int, mx_cat_ref, if_true, if_false, not_true_eq_false, not_false_eq_true, T, v1, v2, Option.isSome_none, Option.isSome_some, Bool.false_eq_true, show ¬ (1 : Int32) = 0 by decide]; rfl
    | some y =>
      rw [zy] at v2
      obtain ⟨z, r, g⟩ := rm_compareBy (d := d) T R W ha Q Wq hb hk b1 b2 zx zy
      have st : mx_G (d + 3) 323 0 [some (.ref 76), some (.int (nI a)), some (.int (nI b)), some (.int (nI k)), some (.int (if dn = true then 1 else 0)), none, none, none] [] h = mx_G (d + 3) 323 54 [some (.ref 76), some (.int (nI a)), some (.int (nI b)), some (.int (nI k)), some (.int (if dn = true then 1 else 0)), some (.int 1), some (.int 1), some (.int z)] [] h := by
        simp only [r323_0, r323_1, r323_2, r323_3, r323_6, r323_8, r323_9, r323_10, r323_11, r323_14, r323_16, r323_18, r323_20, r323_23, r323_25, r323_27, r323_30, r323_31, r323_34, r323_35, r323_36, r323_38, r323_41, r323_42, r323_43, r323_44, r323_45, r323_48, r323_51, r323_52, mx_isr_ref, mx_isr_null, mx_wt_nil, mx_wt_1, mx_wt_2, mx_wt_3, Option.bind_some, Option.toList_some, Option.toList_none, List.cons_append, List.nil_append, mx_nl_int, mx_nl_ref, mx_nl_null, mx_nl_none, mx_nb0, mx_nb1, mx_fb0, mx_fb1, mx_cat_int, mx_cat_ref, if_true, if_false, not_true_eq_false, not_false_eq_true, T, v1, v2, r, Option.isSome_some, show ¬ (1 : Int32) = 0 by decide]
      rw [st]
      simp only
      by_cases c0 : srC x y = 0
      · have z0 := g.1.2 c0
        have tt := tie 1 1
        rw [if_pos c0]
        by_cases c : p.1 < q.1
        · rw [if_pos c] at tt
          rw [decide_eq_true c, if_pos rfl, ← tt]
          simp only [r323_54, r323_56, mx_isr_ref, mx_isr_null, mx_wt_nil, mx_wt_1, mx_wt_2, mx_wt_3, Option.bind_some, Option.toList_some, Option.toList_none, List.cons_append, List.nil_append, mx_nl_int, mx_nl_ref, mx_nl_null, mx_nl_none, mx_nb0, mx_nb1, mx_fb0, mx_fb1, mx_cat_int, mx_cat_ref, if_true, if_false, not_true_eq_false, not_false_eq_true, z0]
        · rw [if_neg c] at tt
          rw [decide_eq_false c]
          simp only [Bool.false_eq_true, if_false]
          rw [← tt]
          simp only [r323_54, r323_56, mx_isr_ref, mx_isr_null, mx_wt_nil, mx_wt_1, mx_wt_2, mx_wt_3, Option.bind_some, Option.toList_some, Option.toList_none, List.cons_append, List.nil_append, mx_nl_int, mx_nl_ref, mx_nl_null, mx_nl_none, mx_nb0, mx_nb1, mx_fb0, mx_fb1, mx_cat_int, mx_cat_ref, if_true, if_false, not_true_eq_false, not_false_eq_true, z0]
      · have z0 : ¬ z = 0 := fun y => c0 (g.1.1 y)
        rw [if_neg c0]
        by_cases c1 : srC x y < 0
        · have z1 : ¬ 0 ≤ z := fun w => by have := g.2.2.2.1.1 w; omega
          rw [decide_eq_true c1]
          cases dn with
          | true => simp only [r323_54, r323_56, r323_82, r323_84, r323_87, r323_88, r323_91, r323_92, r323_94, r323_97, r323_98, r323_101, r323_102, mx_isr_ref, mx_isr_null, mx_wt_nil, mx_wt_1, mx_wt_2, mx_wt_3, Option.bind_some, Option.toList_some, Option.toList_none, List.cons_append, List.nil_append, mx_nl_int, mx_nl_ref, mx_nl_null, mx_nl_none, mx_nb0, mx_nb1, mx_fb0, mx_fb1, mx_cat_int, mx_cat_ref, if_true, if_false, not_true_eq_false, not_false_eq_true, z0, z1]; rfl
          | false => simp only [r323_54, r323_56, r323_82, r323_84, r323_87, r323_88, r323_91, r323_92, r323_94, r323_97, r323_98, r323_101, r323_102, mx_isr_ref, mx_isr_null, mx_wt_nil, mx_wt_1, mx_wt_2, mx_wt_3, Option.bind_some, Option.toList_some, Option.toList_none, List.cons_append, List.nil_append, mx_nl_int, mx_nl_ref, mx_nl_null, mx_nl_none, mx_nb0, mx_nb1, mx_fb0, mx_fb1, mx_cat_int, mx_cat_ref, if_true, if_false, not_true_eq_false, not_false_eq_true, z0, z1, Bool.false_eq_true, show ¬ (1 : Int32) = 0 by decide]; rfl
        · have z1 : 0 ≤ z := g.2.2.2.1.2 (by omega)
          rw [decide_eq_false c1]
          cases dn with
          | true => simp only [r323_54, r323_56, r323_82, r323_84, r323_87, r323_88, r323_91, r323_92, r323_94, r323_97, r323_98, r323_101, r323_102, mx_isr_ref, mx_isr_null, mx_wt_nil, mx_wt_1, mx_wt_2, mx_wt_3, Option.bind_some, Option.toList_some, Option.toList_none, List.cons_append, List.nil_append, mx_nl_int, mx_nl_ref, mx_nl_null, mx_nl_none, mx_nb0, mx_nb1, mx_fb0, mx_fb1, mx_cat_int, mx_cat_ref, if_true, if_false, not_true_eq_false, not_false_eq_true, z0, z1, show ¬ (0 : Int32) = 1 by decide]; rfl
          | false => simp only [r323_54, r323_56, r323_82, r323_84, r323_87, r323_88, r323_91, r323_92, r323_94, r323_97, r323_98, r323_101, r323_102, mx_isr_ref, mx_isr_null, mx_wt_nil, mx_wt_1, mx_wt_2, mx_wt_3, Option.bind_some, Option.toList_some, Option.toList_none, List.cons_append, List.nil_append, mx_nl_int, mx_nl_ref, mx_nl_null, mx_nl_none, mx_nb0, mx_nb1, mx_fb0, mx_fb1, mx_cat_int, mx_cat_ref, if_true, if_false, not_true_eq_false, not_false_eq_true, z0, z1, Bool.false_eq_true]; rfl
end
