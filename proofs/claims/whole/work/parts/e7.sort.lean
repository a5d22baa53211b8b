/-! Sorting: Person.sortValue, comesBefore. -/
def kyA (k : Nat) : Nat := [0, 2, 3, 4, 5].getD k 0
def iFst (r : List itm) : Option (Nat × Int × List Nat) := match r.find? (fun y => y.2 == some true) with | some y => some (2, 0, y.1) | none => r.head?.map fun x => (2, 0, x.1)
def sVO (p : prs) (k : Nat) : Option (Nat × Int × List Nat) := if k < 4 then owP p (kyA k + 1) else iFst (pit p)
theorem sVO_srV {p : prs} {k : Nat} (hk : k < 5) (hn : pnm p ≠ []) : srV p k = (sVO p k).map fun t => (t.2.2, t.2.1) := by
  have : k = 0 ∨ k = 1 ∨ k = 2 ∨ k = 3 ∨ k = 4 := by omega
  rcases this with rfl | rfl | rfl | rfl | rfl
  · rfl
  · show some ((pnm p).map sml, 0) = (nmO ((pnm p).map sml)).map _
    unfold nmO
    rw [if_neg (by simpa using hn)]
    rfl
  · show (pag p).map _ = (agO (pag p)).map _
    cases pag p <;> rfl
  · show (pon p).map _ = (vB (pon p)).map _
    cases pon p <;> rfl
  · unfold srV sVO iFst
    rw [if_neg (by decide), if_neg (by decide), if_neg (by decide), if_neg (by decide), if_neg (by decide)]
    cases e : pit p with
    | nil => rfl
    | cons x l =>
      show (match (x :: l).find? (fun y => y.2 == some true) with | some y => some (y.1, (0 : Int)) | none => some (x.1, 0)) = _
      cases (x :: l).find? (fun y => y.2 == some true) with
      | none => rfl
      | some y => rfl
section
variable {d : Nat} {h : mx_H} {M : List Nat} {p l A cp : Nat} {es : List Nat} {q : prs} {it : Value} {i : Option Nat}
theorem find_drop {r : List itm} {j : Nat} (hj : j < r.length) (f : itm → Bool) : (r.drop j).find? f = if f (iG r j) = true then some (iG r j) else (r.drop (j + 1)).find? f := by
  rw [iG_drop hj, List.find?_cons]
  cases f (iG r j) <;> rfl
theorem js_sortL (P : MPs M h p l A cp es q it i) : ∀ n j, n + j = (pit q).length → ∃ a, mx_G (d + 4) 204 13 [some (.ref p), some (.int 5), some (.int (nI j))] [] h = some (some a, h) ∧ OV M h a (match ((pit q).drop j).find? (fun y => y.2 == some true) with | some y => some (2, 0, y.1) | none => (pit q).head?.map fun x => (2, 0, x.1)) := by
  obtain ⟨C, L, I, -, hn, hb⟩ := P
  obtain ⟨tp, lp, p6, -⟩ := PC_f C
  have hr : (pit q).length ≤ 1000 := by have := L.2.2.1; have := L.2.2.2.1; have := I.1; omega
  have sz := jl_size (d := d + 3) L
  have em := jl_empty (d := d + 3) L
  rw [I.1] at sz
  intro n
  induction n with
  | zero =>
    intro j hj
    have : j = (pit q).length := by omega
    subst this
    rw [List.drop_length]
    show ∃ a, _ ∧ OV M h a ((pit q).head?.map fun x => (2, 0, x.1))
    cases e : pit q with
    | nil =>
      have ee : es = [] := List.eq_nil_of_length_eq_zero (by rw [I.1, e]; rfl)
      rw [if_pos ee] at em
      rw [e] at sz
      refine ⟨.null, ?_, rfl⟩
      simp only [g204_13, g204_14, g204_15, g204_18, g204_21, g204_62, g204_63, g204_66, g204_69, g204_72, g204_73, g204_76, g204_77, g204_80, g204_81, g204_84n, g204_84, g204_87, g204_90, mx_isr_ref, mx_isr_null, mx_wt_nil, mx_wt_1, mx_wt_2, mx_wt_3, Option.bind_some, Option.toList_some, Option.toList_none, List.cons_append, List.nil_append, mx_nl_int, mx_nl_ref, mx_nl_null, mx_nl_none, mx_nb0, mx_nb1, mx_fb0, mx_fb1, mx_cat_int, mx_cat_ref, if_true, if_false, not_true_eq_false, not_false_eq_true, mx_wt_4, mx_w4_0, mx_w9_0, mx_w9_1, mx_kn_int, mx_kn_ref, mx_kn_null, Nat.reduceLT, ofn, n10, tp, lp, p6, (AL_f L).1, sz, em, show nI ([] : List itm).length ≤ nI ([] : List itm).length from nI_le (Nat.le_refl _) (by decide)]
    | cons x r =>
      have ee : ¬ es = [] := fun z => by have := I.1; rw [z, e] at this; cases this
      rw [if_neg ee] at em
      have h0 : 0 < (pit q).length := by rw [e]; simp
      have G1 := jl_get (d := d + 1) L (show 0 < es.length by rw [I.1]; exact h0)
      have ij := I.2 0 h0
      have ex : iG (pit q) 0 = x := by rw [e]; rfl
      rw [ex] at ij
      obtain ⟨c, g, ic⟩ := ij
      obtain ⟨a1, a2, t, l', x0, x1, -, -, o1, o2⟩ := IC_f ic
      refine ⟨a1, ?_, o1⟩
      rw [← e]
      rw [show nI 0 = 0 from rfl] at G1
      simp only [g204_13, g204_14, g204_15, g204_18, g204_21, g204_62, g204_63, g204_66, g204_69, g204_72, g204_73, g204_76, g204_77, g204_80, g204_81, g204_84n, g204_84, g204_87, g204_90, mx_isr_ref, mx_isr_null, mx_wt_nil, mx_wt_1, mx_wt_2, mx_wt_3, Option.bind_some, Option.toList_some, Option.toList_none, List.cons_append, List.nil_append, mx_nl_int, mx_nl_ref, mx_nl_null, mx_nl_none, mx_nb0, mx_nb1, mx_fb0, mx_fb1, mx_cat_int, mx_cat_ref, if_true, if_false, not_true_eq_false, not_false_eq_true, mx_wt_4, mx_w4_0, mx_w9_0, mx_w9_1, mx_kn_int, mx_kn_ref, mx_kn_null, Nat.reduceLT, ofn, n10, tp, lp, p6, (AL_f L).1, sz, em, G1, t, l', x0, isr_kn o1.isr, o1.isr, show nI (pit q).length ≤ nI (pit q).length from nI_le (Nat.le_refl _) (by omega)]
  | succ n ih =>
    intro j hj
    have hjr : j < (pit q).length := by omega
    have q1 : ¬ nI (pit q).length ≤ nI j := nI_ge hjr (by omega)
    have G1 := jl_get (d := d + 1) L (show j < es.length by rw [I.1]; exact hjr)
    obtain ⟨c, g, ic⟩ := I.2 j hjr
    have pr := ji_prim (d := d + 3) ic
    obtain ⟨a1, a2, t, l', x0, x1, -, -, o1, o2⟩ := IC_f ic
    rw [find_drop hjr]
    have et : tr1 (iG (pit q) j).2 = ((iG (pit q) j).2 == some true) := by cases (iG (pit q) j).2 with | none => rfl | some b => cases b <;> rfl
    by_cases b : ((iG (pit q) j).2 == some true) = true
    · rw [et, if_pos b] at pr
      rw [if_pos b]
      refine ⟨a1, ?_, o1⟩
      simp only [g204_13, g204_14, g204_15, g204_18, g204_21, g204_24, g204_25, g204_28, g204_29, g204_32n, g204_32, g204_35, g204_38, g204_41, g204_42, g204_45, g204_46, g204_49n, g204_49, g204_52, g204_55, mx_isr_ref, mx_isr_null, mx_wt_nil, mx_wt_1, mx_wt_2, mx_wt_3, Option.bind_some, Option.toList_some, Option.toList_none, List.cons_append, List.nil_append, mx_nl_int, mx_nl_ref, mx_nl_null, mx_nl_none, mx_nb0, mx_nb1, mx_fb0, mx_fb1, mx_cat_int, mx_cat_ref, if_true, if_false, not_true_eq_false, not_false_eq_true, mx_wt_4, mx_w4_0, mx_w9_0, mx_w9_1, mx_kn_int, mx_kn_ref, mx_kn_null, Nat.reduceLT, ofn, n10, tp, lp, p6, (AL_f L).1, sz, q1, G1, t, l', x0, pr, isr_kn o1.isr, o1.isr]
    · rw [et, if_neg b] at pr
      rw [if_neg b]
      obtain ⟨a, k1, k2⟩ := ih (j + 1) (by omega)
      refine ⟨a, ?_, k2⟩
      rw [g204_13]
      simp only [g204_14, g204_15, g204_18, g204_21, g204_24, g204_25, g204_28, g204_29, g204_32n, g204_32, g204_35, g204_38, g204_41, g204_42, g204_45, g204_46, g204_49n, g204_49, g204_52, g204_55, g204_56, g204_59, mx_isr_ref, mx_isr_null, mx_wt_nil, mx_wt_1, mx_wt_2, mx_wt_3, Option.bind_some, Option.toList_some, Option.toList_none, List.cons_append, List.nil_append, mx_nl_int, mx_nl_ref, mx_nl_null, mx_nl_none, mx_nb0, mx_nb1, mx_fb0, mx_fb1, mx_cat_int, mx_cat_ref, if_true, if_false, not_true_eq_false, not_false_eq_true, mx_wt_4, mx_w4_0, mx_w9_0, mx_w9_1, mx_kn_int, mx_kn_ref, mx_kn_null, Nat.reduceLT, ofn, n10, tp, lp, p6, (AL_f L).1, sz, q1, G1, t, pr, nI_1]
      exact k1
theorem js_sort (P : MPs M h p l A cp es q it i) {k : Nat} (hk : k < 5) : ∃ a, mx_G (d + 4) 204 0 [some (.ref p), some (.int (nI (kyA k))), none] [] h = some (some a, h) ∧ OV M h a (sVO q k) := by
  have tp := (PC_f P.1).1
  unfold sVO
  by_cases c : k < 4
  · rw [if_pos c]
    have hw : 1 ≤ kyA k + 1 ∧ kyA k + 1 < 6 ∧ ¬ nI (kyA k) = 5 := by
      have : k = 0 ∨ k = 1 ∨ k = 2 ∨ k = 3 := by omega
      rcases this with rfl | rfl | rfl | rfl <;> decide
    obtain ⟨a, g, O⟩ := jh_own (d := d + 2) P hw.1 hw.2.1
    have ea : atW (kyA k + 1) = kyA k := by unfold atW; rw [if_pos hw.2.1]; rfl
    rw [ea] at g
    refine ⟨a, ?_, O⟩
    simp only [g204_0, g204_1, g204_2, g204_5, g204_6, g204_7, g204_10, mx_isr_ref, mx_isr_null, mx_wt_nil, mx_wt_1, mx_wt_2, mx_wt_3, Option.bind_some, Option.toList_some, Option.toList_none, List.cons_append, List.nil_append, mx_nl_int, mx_nl_ref, mx_nl_null, mx_nl_none, mx_nb0, mx_nb1, mx_fb0, mx_fb1, mx_cat_int, mx_cat_ref, if_true, if_false, not_true_eq_false, not_false_eq_true, mx_wt_4, mx_w4_0, mx_w9_0, mx_w9_1, mx_kn_int, mx_kn_ref, mx_kn_null, Nat.reduceLT, ofn, n10, hw.2.2, tp, g, O.isr]
  · rw [if_neg c]
    have : k = 4 := by omega
    subst this
    obtain ⟨a, k1, k2⟩ := js_sortL (d := d) P (pit q).length 0 (by omega)
    refine ⟨a, ?_, ?_⟩
    · rw [show nI (kyA 4) = 5 from rfl]
      rw [show nI 0 = 0 from rfl] at k1
      simp only [g204_0, g204_1, g204_2, g204_5, g204_6, g204_7, g204_10, g204_11, g204_12, mx_isr_ref, mx_isr_null, mx_wt_nil, mx_wt_1, mx_wt_2, mx_wt_3, Option.bind_some, Option.toList_some, Option.toList_none, List.cons_append, List.nil_append, mx_nl_int, mx_nl_ref, mx_nl_null, mx_nl_none, mx_nb0, mx_nb1, mx_fb0, mx_fb1, mx_cat_int, mx_cat_ref, if_true, if_false, not_true_eq_false, not_false_eq_true, mx_wt_4, mx_w4_0, mx_w9_0, mx_w9_1, mx_kn_int, mx_kn_ref, mx_kn_null, Nat.reduceLT, ofn, n10]
      exact k1
    · rw [List.drop_zero] at k2
      unfold iFst
      exact k2
theorem OV.vp {a : Value} {t : Nat × Int × List Nat} (O : OV M h a (some t)) : ∃ w : Nat, a = .ref w ∧ VC M h w t.1 (Int32.ofInt t.2.1) t.2.2 ∧ nb t.2.1 := by
  obtain ⟨w, e, V, n⟩ := O
  exact ⟨w, e, V.vc, n⟩
/-- the order of two -/
theorem js_before {p' l' A' cp' : Nat} {es' : List Nat} {q' : prs} {it' : Value} {i' : Option Nat} (P : MPs M h p l A cp es q it i) (P' : MPs M h p' l' A' cp' es' q' it' i') {k : Nat} (hk : k < 5) (dn : Bool) (hid : q'.1 < q.1) : mx_G (d + 5) 203 0 [some (.ref p), some (.ref p'), some (.int (nI (kyA k))), some (.int (if dn = true then 1 else 0)), none, none, none] [] h = some (some (.int (if bef k dn q q' = true then 1 else 0)), h) := by
  obtain ⟨a, g, O⟩ := js_sort (d := d) P hk
  obtain ⟨a', g', O'⟩ := js_sort (d := d) P' hk
  have tp := (PC_f P.1).1
  have tp' := (PC_f P'.1).1
  have s1 := sVO_srV hk P.2.2.2.2.1
  have s2 := sVO_srV hk P'.2.2.2.2.1
  have fin : ∀ (r : Int32) (y : Int), sg r y → srO q q' k = y → mx_G (d + 5) 203 59 [some (.ref p), some (.ref p'), some (.int (nI (kyA k))), some (.int (if dn = true then 1 else 0)), some a, some a', some (.int r)] [] h = some (some (.int (if bef k dn q q' = true then 1 else 0)), h) := by
    intro r y hs hy
    unfold bef
    rw [hy]
    obtain ⟨z0, z1, z2⟩ := hs
    have hle : ∀ r : Int32, r ≤ 0 ↔ ¬ 0 < r := fun r => by rw [Int32.le_iff_toInt_le, Int32.lt_iff_toInt_lt]; omega
    have hge : ∀ r : Int32, 0 ≤ r ↔ ¬ r < 0 := fun r => by rw [Int32.le_iff_toInt_le, Int32.lt_iff_toInt_lt]; omega
    cases dn
    · by_cases c : r < 0
      · have := z1.mp c
        have e1 : (if y = 0 then decide (q.1 < q'.1) else (decide (y < 0) != false)) = true := by
          rw [if_neg (by omega)]; simp [this]
        rw [e1]
        simp only [g203_59, g203_60, g203_76, g203_78, g203_81, g203_82, g203_85, g203_86, mx_isr_ref, mx_isr_null, mx_wt_nil, mx_wt_1, mx_wt_2, mx_wt_3, Option.bind_some, Option.toList_some, Option.toList_none, List.cons_append, List.nil_append, mx_nl_int, mx_nl_ref, mx_nl_null, mx_nl_none, mx_nb0, mx_nb1, mx_fb0, mx_fb1, mx_cat_int, mx_cat_ref, if_true, if_false, not_true_eq_false, not_false_eq_true, mx_wt_4, mx_w4_0, mx_w9_0, mx_w9_1, mx_kn_int, mx_kn_ref, mx_kn_null, Nat.reduceLT, ofn, n10, Bool.false_eq_true, show ¬ 0 ≤ r from fun z => (hge r).mp z c]
      · have : ¬ y < 0 := fun z => c (z1.mpr z)
        have e1 : (if y = 0 then decide (q.1 < q'.1) else (decide (y < 0) != false)) = false := by
          split
          · simp; omega
          · simp; omega
        rw [e1]
        simp only [g203_59, g203_60, g203_76, g203_78, g203_81, g203_82, g203_85, g203_86, mx_isr_ref, mx_isr_null, mx_wt_nil, mx_wt_1, mx_wt_2, mx_wt_3, Option.bind_some, Option.toList_some, Option.toList_none, List.cons_append, List.nil_append, mx_nl_int, mx_nl_ref, mx_nl_null, mx_nl_none, mx_nb0, mx_nb1, mx_fb0, mx_fb1, mx_cat_int, mx_cat_ref, if_true, if_false, not_true_eq_false, not_false_eq_true, mx_wt_4, mx_w4_0, mx_w9_0, mx_w9_1, mx_kn_int, mx_kn_ref, mx_kn_null, Nat.reduceLT, ofn, n10, Bool.false_eq_true, show 0 ≤ r from (hge r).mpr c]
    · by_cases c : 0 < r
      · have := z2.mp c
        have e1 : (if y = 0 then decide (q.1 < q'.1) else (decide (y < 0) != true)) = true := by
          rw [if_neg (by omega)]; simp; omega
        rw [e1]
        simp only [g203_59, g203_60, g203_63, g203_65, g203_68, g203_69, g203_72, g203_73, g203_76, g203_78, g203_81, g203_82, g203_85, g203_86, mx_isr_ref, mx_isr_null, mx_wt_nil, mx_wt_1, mx_wt_2, mx_wt_3, Option.bind_some, Option.toList_some, Option.toList_none, List.cons_append, List.nil_append, mx_nl_int, mx_nl_ref, mx_nl_null, mx_nl_none, mx_nb0, mx_nb1, mx_fb0, mx_fb1, mx_cat_int, mx_cat_ref, if_true, if_false, not_true_eq_false, not_false_eq_true, mx_wt_4, mx_w4_0, mx_w9_0, mx_w9_1, mx_kn_int, mx_kn_ref, mx_kn_null, Nat.reduceLT, ofn, n10, show ¬ r ≤ 0 from fun z => (hle r).mp z c]
      · have : ¬ 0 < y := fun z => c (z2.mpr z)
        have e1 : (if y = 0 then decide (q.1 < q'.1) else (decide (y < 0) != true)) = false := by
          split
          · simp; omega
          · simp; omega
        rw [e1]
        simp only [g203_59, g203_60, g203_63, g203_65, g203_68, g203_69, g203_72, g203_73, g203_76, g203_78, g203_81, g203_82, g203_85, g203_86, mx_isr_ref, mx_isr_null, mx_wt_nil, mx_wt_1, mx_wt_2, mx_wt_3, Option.bind_some, Option.toList_some, Option.toList_none, List.cons_append, List.nil_append, mx_nl_int, mx_nl_ref, mx_nl_null, mx_nl_none, mx_nb0, mx_nb1, mx_fb0, mx_fb1, mx_cat_int, mx_cat_ref, if_true, if_false, not_true_eq_false, not_false_eq_true, mx_wt_4, mx_w4_0, mx_w9_0, mx_w9_1, mx_kn_int, mx_kn_ref, mx_kn_null, Nat.reduceLT, ofn, n10, Bool.false_eq_true, show r ≤ 0 from (hle r).mpr c]
  have ha := O.isr
  have ha' := O'.isr
  have eS : srO q q' k = match srV q k, srV q' k with | none, none => 0 | none, some _ => 1 | some _, none => -1 | some x, some y => srC x y := rfl
  cases e : sVO q k with
  | none =>
    rw [e] at O s1
    have ea : a = .null := O
    subst ea
    cases e' : sVO q' k with
    | none =>
      rw [e'] at O' s2
      have ea : a' = .null := O'
      subst ea
      have F := fin 0 0 ⟨by decide, by decide, by decide⟩ (by rw [eS, s1, s2]; rfl)
      simp only [g203_0, g203_1, g203_2, g203_5, g203_7, g203_8, g203_9, g203_12, g203_14, g203_16, g203_16n, g203_16n, g203_24, g203_26, g203_26n, g203_26n, g203_29, g203_30, g203_33, g203_34, g203_36, g203_36n, g203_36n, g203_39, g203_40, g203_43, g203_44, g203_45, g203_47, mx_isr_ref, mx_isr_null, mx_wt_nil, mx_wt_1, mx_wt_2, mx_wt_3, Option.bind_some, Option.toList_some, Option.toList_none, List.cons_append, List.nil_append, mx_nl_int, mx_nl_ref, mx_nl_null, mx_nl_none, mx_nb0, mx_nb1, mx_fb0, mx_fb1, mx_cat_int, mx_cat_ref, if_true, if_false, not_true_eq_false, not_false_eq_true, mx_wt_4, mx_w4_0, mx_w9_0, mx_w9_1, mx_kn_int, mx_kn_ref, mx_kn_null, Nat.reduceLT, ofn, n10, tp, tp', g, g', show (1 : Int32) - 1 = 0 by decide]
      exact F
    | some t' =>
      rw [e'] at O' s2
      obtain ⟨w', ea, -, -⟩ := O'.vp
      subst ea
      have F := fin 1 1 ⟨by decide, by decide, by decide⟩ (by rw [eS, s1, s2]; rfl)
      simp only [g203_0, g203_1, g203_2, g203_5, g203_7, g203_8, g203_9, g203_12, g203_14, g203_16, g203_16n, g203_16n, g203_24, g203_26, g203_26n, g203_26n, g203_29, g203_30, g203_33, g203_34, g203_36, g203_36n, g203_43, g203_44, g203_45, g203_47, mx_isr_ref, mx_isr_null, mx_wt_nil, mx_wt_1, mx_wt_2, mx_wt_3, Option.bind_some, Option.toList_some, Option.toList_none, List.cons_append, List.nil_append, mx_nl_int, mx_nl_ref, mx_nl_null, mx_nl_none, mx_nb0, mx_nb1, mx_fb0, mx_fb1, mx_cat_int, mx_cat_ref, if_true, if_false, not_true_eq_false, not_false_eq_true, mx_wt_4, mx_w4_0, mx_w9_0, mx_w9_1, mx_kn_int, mx_kn_ref, mx_kn_null, Nat.reduceLT, ofn, n10, tp, tp', g, g', show (1 : Int32) - 0 = 1 by decide]
      exact F
  | some t =>
    rw [e] at O s1
    obtain ⟨w, ea, V, nbt⟩ := O.vp
    subst ea
    cases e' : sVO q' k with
    | none =>
      rw [e'] at O' s2
      have ea : a' = .null := O'
      subst ea
      have F := fin (-1) (-1) ⟨by decide, by decide, by decide⟩ (by rw [eS, s1, s2]; rfl)
      simp only [g203_0, g203_1, g203_2, g203_5, g203_7, g203_8, g203_9, g203_12, g203_14, g203_16, g203_16n, g203_19, g203_21, g203_21n, g203_21n, g203_24, g203_26, g203_26n, g203_33, g203_34, g203_36, g203_36n, g203_36n, g203_39, g203_40, g203_43, g203_44, g203_45, g203_47, mx_isr_ref, mx_isr_null, mx_wt_nil, mx_wt_1, mx_wt_2, mx_wt_3, Option.bind_some, Option.toList_some, Option.toList_none, List.cons_append, List.nil_append, mx_nl_int, mx_nl_ref, mx_nl_null, mx_nl_none, mx_nb0, mx_nb1, mx_fb0, mx_fb1, mx_cat_int, mx_cat_ref, if_true, if_false, not_true_eq_false, not_false_eq_true, mx_wt_4, mx_w4_0, mx_w9_0, mx_w9_1, mx_kn_int, mx_kn_ref, mx_kn_null, Nat.reduceLT, ofn, n10, tp, tp', g, g', show (0 : Int32) - 1 = -1 by decide]
      exact F
    | some t' =>
      rw [e'] at O' s2
      obtain ⟨w', ea, V', nbt'⟩ := O'.vp
      subst ea
      obtain ⟨r, c1, c2⟩ := ja_cmp (d := d) nbt nbt' V V'
      have F := fin r _ c2 (by rw [eS, s1, s2]; rfl)
      have tv : mx_tag h w = some (.inl 4) := by obtain ⟨_, _, _, z, -⟩ := VC_f V; exact z
      simp only [g203_0, g203_1, g203_2, g203_5, g203_7, g203_8, g203_9, g203_12, g203_14, g203_16, g203_16n, g203_19, g203_21, g203_21n, g203_50, g203_52, g203_54, g203_57, mx_isr_ref, mx_isr_null, mx_wt_nil, mx_wt_1, mx_wt_2, mx_wt_3, Option.bind_some, Option.toList_some, Option.toList_none, List.cons_append, List.nil_append, mx_nl_int, mx_nl_ref, mx_nl_null, mx_nl_none, mx_nb0, mx_nb1, mx_fb0, mx_fb1, mx_cat_int, mx_cat_ref, if_true, if_false, not_true_eq_false, not_false_eq_true, mx_wt_4, mx_w4_0, mx_w9_0, mx_w9_1, mx_kn_int, mx_kn_ref, mx_kn_null, Nat.reduceLT, ofn, n10, tp, tp', g, g', tv, c1]
      exact F
end
