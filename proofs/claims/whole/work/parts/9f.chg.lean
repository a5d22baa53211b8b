section
variable {d : Nat} {h : mx_H} {ts : List tk}
theorem dI_set {h' : mx_H} {l : List itf} (D : dI h l) {k : Nat} (hk : k < l.length) {y : itf} (ht : txOk y.1.1) (g1 : ∀ j, j < 14 → mi h' 77 (80 * 8 + 20 + 14 * k + j) = ie y.1 j) (g2 : ∀ i, i < 660 + 14 * k ∨ 660 + 14 * k + 14 ≤ i → mi h' 77 i = mi h 77 i) (g3 : ∀ i, i < 5 → mi h' 99 i = if i = k then (if y.2 = true then 1 else 0) else mi h 99 i) : dI h' (l.set k y) := by
  obtain ⟨d1, d2, d3, d4, d5⟩ := D
  refine ⟨by rw [List.length_set]; exact d1, by rw [List.length_set, g2 _ (by omega)]; exact d2, fun x hx => ?_, fun a ha j hj => ?_, fun a ha => ?_⟩
  · rcases List.mem_or_eq_of_mem_set hx with y1 | y1
    · exact d3 x y1
    · rw [y1]; exact ht
  · rw [List.length_set] at ha
    rw [xG_set hk]
    by_cases e : a = k
    · subst e
      rw [if_pos rfl]
      exact g1 j hj
    · rw [if_neg e, g2 _ (by omega)]
      exact d4 a ha j hj
  · rw [g3 a ha, xG_set hk]
    by_cases e : a = k
    · rw [if_pos e, if_pos e]
    · rw [if_neg e, if_neg e]
      exact d5 a ha
/-- what a chosen item becomes -/
def chF (ts : List tk) (c part v : Nat) (x : itm) : itf :=
  if part = 1 then ((tx ts v, x.2), false) else if part = 2 then (if c = 45 then ((x.1, none), false) else ((x.1, some (tb ts v)), tb ts v))
  else gai ((x.1, if c = 61 then none else x.2), false) (itO ts v).1 (itO ts v).2
/-- the value is right for it -/
def chV (ts : List tk) (c part v : Nat) : Prop := (c ≠ 45 → v < 2 ^ 30) ∧ (part = 1 → c ≠ 45 ∧ ftx ts v = true) ∧ (part = 0 → c ≠ 45 ∧ vOk ts v ∧ tI ts v 123 = true ∧ (kd ts v).all (gl ts) = true)
theorem chF_tx (K : tkOK ts) {c part v : Nat} (hp : part < 3) (V : chV ts c part v) {x : itm} (hx : txOk x.1) : txOk (chF ts c part v x).1.1 := by
  unfold chF
  by_cases p1 : part = 1
  · rw [if_pos p1]
    exact ftx_ok K (V.2.1 p1).2
  · rw [if_neg p1]
    by_cases p2 : part = 2
    · rw [if_pos p2]
      by_cases c45 : c = 45
      · rw [if_pos c45]; exact hx
      · rw [if_neg c45]; exact hx
    · rw [if_neg p2]
      obtain ⟨-, -, -, hg⟩ := V.2.2 (by omega)
      show txOk ((itO ts v).1.getD x.1)
      unfold itO
      cases z : fnd ts (kd ts v) w_v with
      | none => exact hx
      | some m => exact ftx_ok K (gl_v hg z)
theorem rm_change (S : rm_TK h ts) (K : tkOK ts) {l : List itf} (D : dI h l) {k c part v : Nat} (hk : k < l.length) (hm : (xG l k).2 = false) (hc : c < 128) (hp : part < 3) (V : chV ts c part v) :
    ∃ h', mx_G (d + 5) 319 0 [some (.ref 76), some (.int (nI k)), some (.int (nI c)), some (.int (nI part)), some (.int (nI v))] [] h = some (none, h') ∧ mf P79 h h' ∧ (∀ i, i < 659 → mi h' 77 i = mi h 77 i) ∧ dI h' (l.set k (chF ts c part v (xG l k).1)) := by
  have T := S.1.1
  have hl := S.1.2.1
  obtain ⟨d1, d2, d3, d4, d5⟩ := id D
  have xm : xG l k ∈ l := by
    unfold xG
    rw [List.getD_eq_getElem?_getD, List.getElem?_eq_getElem hk]
    exact List.getElem_mem hk
  have tx0 := chF_tx K hp V (d3 _ xm)
  have I := d4 k hk
  have m9 := d5 k (by omega)
  rw [hm] at m9
  have m9 : mi h 99 k = 0 := m9
  have im := rm_item (d := d + 4) (h := h) (k := k)
  have e2 : nI (20 + 14 * k) + 13 = nI (20 + 14 * k + 13) := nI_add (20 + 14 * k) 13
  have s1 := rm_set (d := d + 4) T (s := 8) (o := 20 + 14 * k + 13) (v := 0) (by omega)
  rw [show nI 8 = 8 from rfl] at s1
  have m1 := mf_up (P := P79) (a := 77) (k := 80 * 8 + (20 + 14 * k + 13)) (x := 0) (mf_rfl T) (by decide) (P79_t (by omega))
  have r1 : ∀ i, mi (mx_up h 77 (80 * 8 + (20 + 14 * k + 13)) (.int 0)) 77 i = if i = 660 + 14 * k + 13 then 0 else mi h 77 i := fun i => by rw [mi_r T (by omega), show 80 * 8 + (20 + 14 * k + 13) = 660 + 14 * k + 13 by omega]
  have r9 : ∀ i, mi (mx_up h 77 (80 * 8 + (20 + 14 * k + 13)) (.int 0)) 99 i = mi h 99 i := fun i => by rw [mi_up, if_neg (by omega)]
  generalize mx_up h 77 (80 * 8 + (20 + 14 * k + 13)) (.int 0) = h1 at *
  have T1 := m1.1
  rcases (show part = 0 ∨ part = 1 ∨ part = 2 by omega) with q | q | q
  · subst q
    obtain ⟨c45, hv, ho, hg⟩ := V.2.2 rfl
    have n45 : ¬ nI c = 45 := fun z => c45 ((nI_eq (b := 45) (by omega) (by decide)).mp z)
    have key : ∃ h2, mf P79 h h2 ∧ (∀ i, mi h2 77 i = if c = 61 ∧ i = 660 + 14 * k + 13 then 0 else mi h 77 i) ∧ (∀ i, mi h2 99 i = mi h 99 i) ∧ mx_G (d + 5) 319 0 [some (.ref 76), some (.int (nI k)), some (.int (nI c)), some (.int (nI 0)), some (.int (nI v))] [] h = mx_G (d + 5) 319 78 [some (.ref 76), some (.int (nI k)), some (.int (nI c)), some (.int (nI 0)), some (.int (nI v))] [] h2 := by
      by_cases c61 : c = 61
      · have n61 : nI c = 61 := by rw [c61]; rfl
        refine ⟨h1, m1, fun i => ?_, r9, ?_⟩
        · rw [r1]
          by_cases e : i = 660 + 14 * k + 13
          · rw [if_pos e, if_pos ⟨c61, e⟩]
          · rw [if_neg e, if_neg (fun z => e z.2)]
        · simp only [r319_0, r319_1, r319_2, r319_5, r319_6, r319_7, r319_8, r319_11, r319_13, r319_16, r319_17, r319_18, r319_21, r319_22, r319_24, r319_27, r319_28, r319_29, r319_30, r319_32, r319_35, r319_38, r319_39, r319_40, r319_43, r319_44, r319_46, r319_49, r319_50, r319_53, r319_54, r319_56, r319_59, r319_60, r319_62, r319_63, r319_64, r319_67, r319_69, r319_70, r319_71, r319_74, r319_75, mx_isr_ref, mx_isr_null, mx_wt_nil, mx_wt_1, mx_wt_2, mx_wt_3, Option.bind_some, Option.toList_some, Option.toList_none, List.cons_append, List.nil_append, mx_nl_int, mx_nl_ref, mx_nl_null, mx_nl_none, mx_nb0, mx_nb1, mx_fb0, mx_fb1, mx_cat_int, mx_cat_ref, if_true, if_false, not_true_eq_false, not_false_eq_true, T, T1, eq_true n61, im, e2, s1, show ¬ nI 0 = 1 by decide, show ¬ nI 0 = 2 by decide, show nI 0 = 0 by decide, show ¬ (0 : Int32) = 1 by decide, show ¬ (0 : Int32) = 2 by decide]
      · have n61 : ¬ nI c = 61 := fun z => c61 ((nI_eq (b := 61) (by omega) (by decide)).mp z)
        refine ⟨h, mf_rfl T, fun i => by rw [if_neg (fun z => c61 z.1)], fun _ => rfl, ?_⟩
        simp only [r319_0, r319_1, r319_2, r319_5, r319_6, r319_7, r319_8, r319_11, r319_13, r319_16, r319_17, r319_18, r319_21, r319_22, r319_24, r319_27, r319_28, r319_29, r319_30, r319_32, r319_35, r319_38, r319_39, r319_40, r319_43, r319_44, r319_46, r319_49, r319_50, r319_53, r319_54, r319_56, r319_59, r319_60, r319_62, r319_63, r319_64, r319_67, r319_69, r319_70, r319_71, r319_74, r319_75, mx_isr_ref, mx_isr_null, mx_wt_nil, mx_wt_1, mx_wt_2, mx_wt_3, Option.bind_some, Option.toList_some, Option.toList_none, List.cons_append, List.nil_append, mx_nl_int, mx_nl_ref, mx_nl_null, mx_nl_none, mx_nb0, mx_nb1, mx_fb0, mx_fb1, mx_cat_int, mx_cat_ref, if_true, if_false, not_true_eq_false, not_false_eq_true, T, eq_false n61, show nI 0 = 0 by decide, show ¬ (0 : Int32) = 1 by decide, show ¬ (0 : Int32) = 2 by decide]
    obtain ⟨h2, m2, q7, q9, st⟩ := key
    obtain ⟨h', r, mm, g7, g9⟩ := rm_give (d := d) (TK_mf S m2 tk79) (k := k) (by omega) hv ho hg
    have M := mf_trans m2 mm
    refine ⟨h', ?_, M, fun i hi => ?_, dI_set D hk tx0 (fun j hj => ?_) (fun i hi => ?_) fun i hi => ?_⟩
    · rw [st]
      simp only [r319_78, r319_79, r319_80, r319_82, r319_85, mx_isr_ref, mx_isr_null, mx_wt_nil, mx_wt_1, mx_wt_2, mx_wt_3, Option.bind_some, Option.toList_some, Option.toList_none, List.cons_append, List.nil_append, mx_nl_int, mx_nl_ref, mx_nl_null, mx_nl_none, mx_nb0, mx_nb1, mx_fb0, mx_fb1, mx_cat_int, mx_cat_ref, if_true, if_false, not_true_eq_false, not_false_eq_true, m2.1, M.1, r]
    · rw [g7, if_neg (by omega), if_neg (by omega), q7, if_neg (by omega)]
    · have Ij := I j hj
      unfold chF gai
      rw [if_neg (by decide), if_neg (by decide)]
      rw [g7]
      unfold ie at Ij ⊢
      by_cases j13 : j < 13
      · rw [if_pos (by omega), if_pos j13]
        rw [if_pos j13] at Ij
        cases (itO ts v).1 with
        | none =>
          show mi h2 77 _ = te (xG l k).1.1 j
          rw [q7, if_neg (by omega)]
          exact Ij
        | some w =>
          show te w _ = te w j
          congr 1
          omega
      · have j13' : j = 13 := by omega
        subst j13'
        rw [if_neg (by omega), if_pos (by omega), if_neg (by omega)]
        rw [if_neg (by omega)] at Ij
        cases (itO ts v).2 with
        | none =>
          show mi h2 77 _ = nI (pB (if c = 61 then none else (xG l k).1.2))
          rw [q7]
          by_cases c61 : c = 61
          · rw [if_pos ⟨c61, by omega⟩, if_pos c61]
            rfl
          · rw [if_neg (fun z => c61 z.1), if_neg c61]
            exact Ij
        | some b => rfl
    · rw [g7, if_neg (by omega), if_neg (by omega), q7, if_neg (by omega)]
    · rw [g9, show chF ts c 0 v (xG l k).1 = gai (((xG l k).1.1, if c = 61 then none else (xG l k).1.2), false) (itO ts v).1 (itO ts v).2 from rfl]
      unfold gai
      by_cases e : i = k
      · rw [if_pos e, if_pos e]
        cases (itO ts v).2 with
        | none =>
          show mi h2 99 i = 0
          rw [q9, e]
          exact m9
        | some b => cases b <;> rfl
      · rw [if_neg e, if_neg e, q9]
  · subst q
    obtain ⟨c45, hf⟩ := V.2.1 rfl
    obtain ⟨h', r, mm, g7⟩ := rm_setText (d := d + 3) S (t := v) (o := 20 + 14 * k) (ftx_3 hf) (by omega)
    have M := mf_mono w79 mm
    refine ⟨h', ?_, M, fun i hi => ?_, dI_set D hk tx0 (fun j hj => ?_) (fun i hi => ?_) fun i hi => ?_⟩
    · simp only [r319_0, r319_1, r319_2, r319_5, r319_6, r319_7, r319_8, r319_11, r319_13, r319_16, r319_17, r319_18, r319_21, r319_22, r319_24, r319_27, r319_28, r319_29, r319_30, r319_32, r319_35, r319_38, r319_39, r319_40, r319_43, r319_44, r319_46, r319_49, r319_50, r319_53, r319_54, r319_56, r319_59, r319_60, r319_62, r319_63, r319_64, r319_67, r319_69, r319_70, r319_71, r319_74, r319_75, r319_78, r319_79, r319_80, r319_82, r319_85, mx_isr_ref, mx_isr_null, mx_wt_nil, mx_wt_1, mx_wt_2, mx_wt_3, Option.bind_some, Option.toList_some, Option.toList_none, List.cons_append, List.nil_append, mx_nl_int, mx_nl_ref, mx_nl_null, mx_nl_none, mx_nb0, mx_nb1, mx_fb0, mx_fb1, mx_cat_int, mx_cat_ref, if_true, if_false, not_true_eq_false, not_false_eq_true, T, M.1, im, r, show nI 1 = 1 by decide, show ¬ (1 : Int32) = 0 by decide, show ¬ (1 : Int32) = 2 by decide]
    · rw [g7, if_neg (by omega)]
    · have Ij := I j hj
      unfold chF
      rw [if_pos rfl, g7]
      unfold ie at Ij ⊢
      by_cases j13 : j < 13
      · rw [if_pos (by omega), if_pos j13]
        show te _ _ = te (tx ts v) j
        congr 1
        omega
      · rw [if_neg (by omega), if_neg j13]
        rw [if_neg j13] at Ij
        exact Ij
    · rw [g7, if_neg (by omega)]
    · unfold chF
      rw [if_pos rfl, mm.2.1 99 i rfl]
      by_cases e : i = k
      · rw [if_pos e, e]; exact m9
      · rw [if_neg e]
  · subst q
    by_cases c45 : c = 45
    · have n45 : nI c = 45 := by rw [c45]; rfl
      have ex : chF ts c 2 v (xG l k).1 = (((xG l k).1.1, none), false) := by unfold chF; rw [if_neg (by decide), if_pos rfl, if_pos c45]
      rw [ex] at tx0 ⊢
      refine ⟨h1, ?_, m1, fun i hi => ?_, dI_set D hk tx0 (fun j hj => ?_) (fun i hi => ?_) fun i hi => ?_⟩
      · simp only [r319_0, r319_1, r319_2, r319_5, r319_6, r319_7, r319_8, r319_11, r319_13, r319_16, r319_17, r319_18, r319_21, r319_22, r319_24, r319_27, r319_28, r319_29, r319_30, r319_32, r319_35, r319_38, r319_39, r319_40, r319_43, r319_44, r319_46, r319_49, r319_50, r319_53, r319_54, r319_56, r319_59, r319_60, r319_62, r319_63, r319_64, r319_67, r319_69, r319_70, r319_71, r319_74, r319_75, r319_78, r319_79, r319_80, r319_82, r319_85, mx_isr_ref, mx_isr_null, mx_wt_nil, mx_wt_1, mx_wt_2, mx_wt_3, Option.bind_some, Option.toList_some, Option.toList_none, List.cons_append, List.nil_append, mx_nl_int, mx_nl_ref, mx_nl_null, mx_nl_none, mx_nb0, mx_nb1, mx_fb0, mx_fb1, mx_cat_int, mx_cat_ref, if_true, if_false, not_true_eq_false, not_false_eq_true, T, T1, im, e2, s1, eq_true n45, show nI 2 = 2 by decide, show ¬ (2 : Int32) = 0 by decide, show ¬ (2 : Int32) = 1 by decide]
      · rw [r1, if_neg (by omega)]
      · have Ij := I j hj
        rw [r1]
        unfold ie at Ij ⊢
        by_cases j13 : j < 13
        · rw [if_neg (by omega), if_pos j13]
          rw [if_pos j13] at Ij
          exact Ij
        · rw [if_pos (by omega), if_neg j13]
          rfl
      · rw [r1, if_neg (by omega)]
      · rw [r9]
        by_cases e : i = k
        · rw [if_pos e, e]; exact m9
        · rw [if_neg e]
    · have n45 : ¬ nI c = 45 := fun z => c45 ((nI_eq (b := 45) (by omega) (by decide)).mp z)
      have ex : chF ts c 2 v (xG l k).1 = (((xG l k).1.1, some (tb ts v)), tb ts v) := by unfold chF; rw [if_neg (by decide), if_pos rfl, if_neg c45]
      rw [ex] at tx0 ⊢
      have to := rm_truthOf (d := d + 3) S (t := v) (V.1 c45)
      have p3 : pB (some (tb ts v)) < 2 ^ 30 := by cases tb ts v <;> decide
      obtain ⟨h', r, mm, g7, g9⟩ := rm_setTruth (d := d + 3) T (k := k) (by omega) p3
      refine ⟨h', ?_, mm, fun i hi => ?_, dI_set D hk tx0 (fun j hj => ?_) (fun i hi => ?_) fun i hi => ?_⟩
      · simp only [r319_0, r319_1, r319_2, r319_5, r319_6, r319_7, r319_8, r319_11, r319_13, r319_16, r319_17, r319_18, r319_21, r319_22, r319_24, r319_27, r319_28, r319_29, r319_30, r319_32, r319_35, r319_38, r319_39, r319_40, r319_43, r319_44, r319_46, r319_49, r319_50, r319_53, r319_54, r319_56, r319_59, r319_60, r319_62, r319_63, r319_64, r319_67, r319_69, r319_70, r319_71, r319_74, r319_75, r319_78, r319_79, r319_80, r319_82, r319_85, mx_isr_ref, mx_isr_null, mx_wt_nil, mx_wt_1, mx_wt_2, mx_wt_3, Option.bind_some, Option.toList_some, Option.toList_none, List.cons_append, List.nil_append, mx_nl_int, mx_nl_ref, mx_nl_null, mx_nl_none, mx_nb0, mx_nb1, mx_fb0, mx_fb1, mx_cat_int, mx_cat_ref, if_true, if_false, not_true_eq_false, not_false_eq_true, T, mm.1, to, r, eq_false n45, show nI 2 = 2 by decide, show ¬ (2 : Int32) = 0 by decide, show ¬ (2 : Int32) = 1 by decide]
      · rw [g7, if_neg (by omega)]
      · have Ij := I j hj
        rw [g7]
        unfold ie at Ij ⊢
        by_cases j13 : j < 13
        · rw [if_neg (by omega), if_pos j13]
          rw [if_pos j13] at Ij
          exact Ij
        · rw [if_pos (by omega), if_neg j13]
      · rw [g7, if_neg (by omega)]
      · rw [g9]
        by_cases e : i = k
        · rw [if_pos e, if_pos e]
          cases tb ts v <;> rfl
        · rw [if_neg e, if_neg e]
end
