section
variable {d : Nat} {h : mx_H}
theorem rm_check (T : mr_T h) {sl : slt} (E : sls h sl) {k : Nat} {p : prs} {v : Int32} (hk : k < 8) (zk : sl.getD k none = some p) : mx_G (d + 1) 282 0 [some (.ref 76), some (.int (nI k)), some (.int v)] [] h = some (some (.int (if v.toInt ≠ 0 ∧ v.toInt ≠ (p.2.1 : Int) then -412 else 0)), h) := by
  have Ek := E k hk
  rw [zk] at Ek
  have n1 : (0 : Int32) ≤ nI k := nI_pos' (by omega)
  have f := rm_f (d := d) T (s := k) (o := 1) (by omega)
  rw [Ek.1.1 1 (by decide), show nI 1 = 1 from rfl, show pe p 1 = nI p.2.1 from rfl] at f
  have pb := Ek.2.2.2.2
  by_cases c0 : v = 0
  · have : v.toInt = 0 := by rw [c0]; decide
    rw [if_neg (fun y => y.1 this)]
    simp only [r282_0, r282_1, r282_4, r282_7, r282_10, r282_11, r282_14, r282_15, r282_16, r282_17, r282_18, r282_21, r282_24, r282_27, r282_30, r282_31, mx_isr_ref, mx_isr_null, mx_wt_nil, mx_wt_1, mx_wt_2, mx_wt_3, Option.bind_some, Option.toList_some, Option.toList_none, List.cons_append, List.nil_append, mx_nl_int, mx_nl_ref, mx_nl_null, mx_nl_none, mx_nb0, mx_nb1, mx_fb0, mx_fb1, mx_cat_int, mx_cat_ref, if_true, if_false, not_true_eq_false, not_false_eq_true, n1, eq_true c0]
  · have c0' : v.toInt ≠ 0 := fun y => c0 (Int32.toInt_inj.1 (by rw [y]; decide))
    by_cases c1 : v = nI p.2.1
    · have : v.toInt = (p.2.1 : Int) := by rw [c1, nI_toInt (by omega)]
      rw [if_neg (fun y => y.2 this)]
      simp only [r282_0, r282_1, r282_4, r282_7, r282_10, r282_11, r282_14, r282_15, r282_16, r282_17, r282_18, r282_21, r282_24, r282_27, r282_30, r282_31, mx_isr_ref, mx_isr_null, mx_wt_nil, mx_wt_1, mx_wt_2, mx_wt_3, Option.bind_some, Option.toList_some, Option.toList_none, List.cons_append, List.nil_append, mx_nl_int, mx_nl_ref, mx_nl_null, mx_nl_none, mx_nb0, mx_nb1, mx_fb0, mx_fb1, mx_cat_int, mx_cat_ref, if_true, if_false, not_true_eq_false, not_false_eq_true, T, n1, c0, f, eq_true c1]
    · have c1' : v.toInt ≠ (p.2.1 : Int) := fun y => c1 ((nI_int (by omega)).2 y.symm).symm
      rw [if_pos ⟨c0', c1'⟩]
      simp only [r282_0, r282_1, r282_4, r282_7, r282_10, r282_11, r282_14, r282_15, r282_16, r282_17, r282_18, r282_21, r282_24, r282_27, r282_30, r282_31, mx_isr_ref, mx_isr_null, mx_wt_nil, mx_wt_1, mx_wt_2, mx_wt_3, Option.bind_some, Option.toList_some, Option.toList_none, List.cons_append, List.nil_append, mx_nl_int, mx_nl_ref, mx_nl_null, mx_nl_none, mx_nb0, mx_nb1, mx_fb0, mx_fb1, mx_cat_int, mx_cat_ref, if_true, if_false, not_true_eq_false, not_false_eq_true, T, n1, c0, f, c1]
theorem rm_checkN {v : Int32} : mx_G (d + 1) 282 0 [some (.ref 76), some (.int (-1)), some (.int v)] [] h = some (some (.int (-404)), h) := by
  simp only [r282_0, r282_1, r282_4, r282_7, r282_10, r282_11, r282_14, r282_15, r282_16, r282_17, r282_18, r282_21, r282_24, r282_27, r282_30, r282_31, mx_isr_ref, mx_isr_null, mx_wt_nil, mx_wt_1, mx_wt_2, mx_wt_3, Option.bind_some, Option.toList_some, Option.toList_none, List.cons_append, List.nil_append, mx_nl_int, mx_nl_ref, mx_nl_null, mx_nl_none, mx_nb0, mx_nb1, mx_fb0, mx_fb1, mx_cat_int, mx_cat_ref, if_true, if_false, not_true_eq_false, not_false_eq_true, show ¬ (0 : Int32) ≤ -1 by decide]
/-- the place of an id, and what the check says -/
theorem rm_find {sl : slt} {s : sto} (M : mSt h sl s) (id : Int32) :
    (∃ k p, k < 8 ∧ sl.getD k none = some p ∧ pOf s.1 id.toInt = some p ∧ mx_G (d + 1) 280 0 [some (.ref 76), some (.int id), none] [] h = some (some (.int (nI k)), h)) ∨
    (pOf s.1 id.toInt = none ∧ mx_G (d + 1) 280 0 [some (.ref 76), some (.int id), none] [] h = some (some (.int (-1)), h)) := by
  rcases rm_slot (d := d) M.1 M.2.2.1 (id := id) with ⟨k, p, hk, zk, e, r⟩ | ⟨hk, r⟩
  · have Ek := M.2.2.1 k hk
    rw [zk] at Ek
    exact Or.inl ⟨k, p, hk, zk, sl_yes M.2.1 hk zk Ek.2.2.2.1 e, r⟩
  · exact Or.inr ⟨sl_no M.2.1 M.2.2.1 hk, r⟩
theorem rm_replaced {bs : List Nat} {sl : slt} {s : sto} (M : mSt h sl s) (B : rm_buf h bs) (hb : ∀ p ∈ s.1, p.2.1 + 1 < 2 ^ 20) (id v : Int32) :
    ∃ h' sl' x, mx_G (d + 8) 280 0 [some (.ref 76), some (.int id), none] [] h = some (some (.int x), h) ∧ mx_G (d + 8) 281 0 [some (.ref 76), some (.int x), some (.int v), none, none] [] h = some (some (.int (Int32.ofInt (s_replace (lx bs.length bs) (lx_good (lx bs.length bs)) s id.toInt v.toInt).1)), h') ∧ mSt h' sl' (s_replace (lx bs.length bs) (lx_good (lx bs.length bs)) s id.toInt v.toInt).2 := by
  have T := M.1
  unfold s_replace s_chk
  rcases rm_find (d := d + 7) M id with ⟨k, old, hk, zk, po, rs⟩ | ⟨po, rs⟩
  · rw [po]
    have ck := rm_check (d := d + 6) T M.2.2.1 (v := v) hk zk
    have Ek := M.2.2.1 k hk
    rw [zk] at Ek
    have hm : old ∈ s.1 := (pOf_some po).1
    by_cases cv : v.toInt ≠ 0 ∧ v.toInt ≠ (old.2.1 : Int)
    · rw [if_pos cv] at ck
      simp only [if_pos cv]
      refine ⟨h, sl, nI k, rs, ?_, M⟩
      simp only [r281_0, r281_1, r281_2, r281_3, r281_6, r281_7, r281_8, r281_11, r281_12, mx_isr_ref, mx_isr_null, mx_wt_nil, mx_wt_1, mx_wt_2, mx_wt_3, Option.bind_some, Option.toList_some, Option.toList_none, List.cons_append, List.nil_append, mx_nl_int, mx_nl_ref, mx_nl_null, mx_nl_none, mx_nb0, mx_nb1, mx_fb0, mx_fb1, mx_cat_int, mx_cat_ref, if_true, if_false, not_true_eq_false, not_false_eq_true, T, ck, show ¬ (0 : Int32) ≤ -412 by decide]
      rfl
    · rw [if_neg cv] at ck
      simp only [if_neg cv]
      obtain ⟨h1, r1, T1, -, F, S⟩ := rm_cut (d := d + 4) B
      have M1 := mSt_mf M (fr_mf T1 F) stct
      cases g : lx_good (lx bs.length bs) with
      | false =>
        rw [g] at r1
        refine ⟨h1, sl, nI k, rs, ?_, M1⟩
        simp only [r281_0, r281_1, r281_2, r281_3, r281_6, r281_7, r281_8, r281_11, r281_12, r281_13, r281_14, r281_17, r281_19, r281_21, r281_24, r281_25, r281_26, r281_28, r281_31, r281_34, r281_35, r281_36, r281_39, r281_40, r281_43, r281_46, r281_49, mx_isr_ref, mx_isr_null, mx_wt_nil, mx_wt_1, mx_wt_2, mx_wt_3, Option.bind_some, Option.toList_some, Option.toList_none, List.cons_append, List.nil_append, mx_nl_int, mx_nl_ref, mx_nl_null, mx_nl_none, mx_nb0, mx_nb1, mx_fb0, mx_fb1, mx_cat_int, mx_cat_ref, if_true, if_false, not_true_eq_false, not_false_eq_true, T, T1, ck, r1, Bool.false_eq_true, show (0 : Int32) ≤ 0 by decide]
        rfl
      | true =>
        rw [g] at r1
        obtain ⟨S1, K⟩ := TK_of (buf_128 B) S g
        generalize lx bs.length bs = ts at S1 K
        have i := rm_isF (d := d + 7) S1.1 (t := 0) (by decide)
        rw [show nI 0 = 0 from rfl] at i
        obtain ⟨h2, m2, r2, hO⟩ := rm_isObj (d := d + 3) S1
        have T2 := m2.1
        have M2 := mSt_mf M1 m2 st84
        have S2 := TK_mf S1 m2 tk84
        have tk2 := S2.1.2.2.1
        rw [Bool.true_and]
        by_cases ob : oB ts = true
        · obtain ⟨ob1, ob2⟩ := hO.1 ob
          rw [if_neg (by rw [ob]; decide)]
          have pv : pV ts 3 0 = some ts.length := by
            unfold oB at ob
            rw [Bool.and_eq_true] at ob
            exact beq_iff_eq.1 ob.2
          have hv := vOk_V pv
          have E2 := M2.2.2.1 k hk
          rw [zk] at E2
          obtain ⟨h3, r3, m3, g3⟩ := rm_copy (d := d + 6) T2 (a := k) (b := 8) (by omega) (by decide) (by omega)
          rw [show nI 8 = 8 from rfl] at r3
          have m3' : mf P77 h2 h3 := mf_mono (fun a j e => by
            unfold P77 at e
            unfold PB
            simp at e ⊢
            intro y z
            have := e y
            omega) m3
          have T3 := m3.1
          have M3 := mSt_mf M2 m3' st77
          obtain ⟨h5, r5, m5, g5⟩ := rm_fill (d := d) (TK_mf S2 m3' tk77) K (t := 0) (id := old.1) (ver := old.2.1) hv ob1 (by rw [g3, if_pos (by decide)]; exact E2.1.1 0 (by decide)) (by rw [g3, if_pos (by decide)]; exact E2.1.1 1 (by decide))
          rw [show nI 0 = 0 from rfl] at r5
          have M5 := mSt_mf M3 m5 st79
          have T5 := m5.1
          cases z : fP ts 0 old.1 old.2.1 with
          | none =>
            rw [z] at r5
            refine ⟨h5, sl, nI k, rs, ?_, M5⟩
            simp only [r281_0, r281_1, r281_2, r281_3, r281_6, r281_7, r281_8, r281_11, r281_12, r281_13, r281_14, r281_17, r281_19, r281_21, r281_24, r281_25, r281_26, r281_28, r281_31, r281_34, r281_35, r281_36, r281_39, r281_40, r281_43, r281_46, r281_49, r281_50, r281_51, r281_52, r281_54, r281_57, r281_58, r281_59, r281_62, r281_65, r281_66, r281_67, r281_70, r281_73, r281_76, mx_isr_ref, mx_isr_null, mx_wt_nil, mx_wt_1, mx_wt_2, mx_wt_3, Option.bind_some, Option.toList_some, Option.toList_none, List.cons_append, List.nil_append, mx_nl_int, mx_nl_ref, mx_nl_null, mx_nl_none, mx_nb0, mx_nb1, mx_fb0, mx_fb1, mx_cat_int, mx_cat_ref, if_true, if_false, not_true_eq_false, not_false_eq_true, T, T1, T2, T3, ck, r1, i, ob1, r2, tk2, eq_true ob2, r3, r5, Option.isSome_none, Bool.false_eq_true, show (0 : Int32) ≤ 0 by decide, show ¬ (1 : Int32) = 0 by decide]
            rfl
          | some p =>
            rw [z] at r5
            obtain ⟨wp, wi, wv⟩ := fP_ok K z
            obtain ⟨h6, sl', r6, M6⟩ := rm_finish (d := d + 5) M5 hk zk (g5 p z) wp wi wv (hb old hm)
            refine ⟨h6, sl', nI k, rs, ?_, M6⟩
            simp only [r281_0, r281_1, r281_2, r281_3, r281_6, r281_7, r281_8, r281_11, r281_12, r281_13, r281_14, r281_17, r281_19, r281_21, r281_24, r281_25, r281_26, r281_28, r281_31, r281_34, r281_35, r281_36, r281_39, r281_40, r281_43, r281_46, r281_49, r281_50, r281_51, r281_52, r281_54, r281_57, r281_58, r281_59, r281_62, r281_65, r281_66, r281_67, r281_70, r281_73, r281_76, mx_isr_ref, mx_isr_null, mx_wt_nil, mx_wt_1, mx_wt_2, mx_wt_3, Option.bind_some, Option.toList_some, Option.toList_none, List.cons_append, List.nil_append, mx_nl_int, mx_nl_ref, mx_nl_null, mx_nl_none, mx_nb0, mx_nb1, mx_fb0, mx_fb1, mx_cat_int, mx_cat_ref, if_true, if_false, not_true_eq_false, not_false_eq_true, T, T1, T2, T3, T5, ck, r1, i, ob1, r2, tk2, eq_true ob2, r3, r5, r6, Option.isSome_some, show (0 : Int32) ≤ 0 by decide, show ¬ (1 : Int32) = 0 by decide]
        · rw [if_pos (Bool.eq_false_iff.2 ob)]
          by_cases ob1 : tI ts 0 123 = true
          · have ob2 := fun y => ob (hO.2 ⟨ob1, y⟩)
            refine ⟨h2, sl, nI k, rs, ?_, M2⟩
            simp only [r281_0, r281_1, r281_2, r281_3, r281_6, r281_7, r281_8, r281_11, r281_12, r281_13, r281_14, r281_17, r281_19, r281_21, r281_24, r281_25, r281_26, r281_28, r281_31, r281_34, r281_35, r281_36, r281_39, r281_40, r281_43, r281_46, r281_49, mx_isr_ref, mx_isr_null, mx_wt_nil, mx_wt_1, mx_wt_2, mx_wt_3, Option.bind_some, Option.toList_some, Option.toList_none, List.cons_append, List.nil_append, mx_nl_int, mx_nl_ref, mx_nl_null, mx_nl_none, mx_nb0, mx_nb1, mx_fb0, mx_fb1, mx_cat_int, mx_cat_ref, if_true, if_false, not_true_eq_false, not_false_eq_true, T, T1, T2, ck, r1, i, ob1, r2, tk2, eq_false ob2, show (0 : Int32) ≤ 0 by decide, show ¬ (1 : Int32) = 0 by decide]
            rfl
          · refine ⟨h1, sl, nI k, rs, ?_, M1⟩
            simp only [r281_0, r281_1, r281_2, r281_3, r281_6, r281_7, r281_8, r281_11, r281_12, r281_13, r281_14, r281_17, r281_19, r281_21, r281_24, r281_25, r281_26, r281_28, r281_31, r281_34, r281_35, r281_36, r281_39, r281_40, r281_43, r281_46, r281_49, mx_isr_ref, mx_isr_null, mx_wt_nil, mx_wt_1, mx_wt_2, mx_wt_3, Option.bind_some, Option.toList_some, Option.toList_none, List.cons_append, List.nil_append, mx_nl_int, mx_nl_ref, mx_nl_null, mx_nl_none, mx_nb0, mx_nb1, mx_fb0, mx_fb1, mx_cat_int, mx_cat_ref, if_true, if_false, not_true_eq_false, not_false_eq_true, T, T1, ck, r1, i, Bool.eq_false_iff.2 ob1, Bool.false_eq_true, show (0 : Int32) ≤ 0 by decide, show ¬ (1 : Int32) = 0 by decide]
            rfl
  · rw [po]
    have ck := rm_checkN (d := d + 6) (h := h) (v := v)
    refine ⟨h, sl, -1, rs, ?_, M⟩
    simp only [r281_0, r281_1, r281_2, r281_3, r281_6, r281_7, r281_8, r281_11, r281_12, mx_isr_ref, mx_isr_null, mx_wt_nil, mx_wt_1, mx_wt_2, mx_wt_3, Option.bind_some, Option.toList_some, Option.toList_none, List.cons_append, List.nil_append, mx_nl_int, mx_nl_ref, mx_nl_null, mx_nl_none, mx_nb0, mx_nb1, mx_fb0, mx_fb1, mx_cat_int, mx_cat_ref, if_true, if_false, not_true_eq_false, not_false_eq_true, T, ck, show ¬ (0 : Int32) ≤ -404 by decide]
    rfl
theorem rm_replace {bs : List Nat} {sl : slt} {s : sto} (M : mSt h sl s) (B : rm_buf h bs) (hb : ∀ p ∈ s.1, p.2.1 + 1 < 2 ^ 20) (id v : Int32) :
    ∃ h' sl', mx_G (d + 9) 279 0 [some (.ref 76), some (.int id), some (.int v), none] [] h = some (some (.int (Int32.ofInt (s_replace (lx bs.length bs) (lx_good (lx bs.length bs)) s id.toInt v.toInt).1)), h') ∧ mSt h' sl' (s_replace (lx bs.length bs) (lx_good (lx bs.length bs)) s id.toInt v.toInt).2 ∧ rm_buf h' [] := by
  have T := M.1
  obtain ⟨h2, sl2, y, q, r2, M2⟩ := rm_replaced (d := d) M B hb id v
  have T2 := M2.1
  refine ⟨mx_up h2 76 3 (.int 0), sl2, ?_, mSt_mf M2 (mf_f (P := P3) (mf_rfl T2) (by decide) rfl) st3, buf_nil T2⟩
  simp only [r279_0, r279_1, r279_2, r279_3, r279_6, r279_7, r279_10, r279_11, r279_12, r279_13, r279_16, r279_17, mx_isr_ref, mx_isr_null, mx_wt_nil, mx_wt_1, mx_wt_2, mx_wt_3, Option.bind_some, Option.toList_some, Option.toList_none, List.cons_append, List.nil_append, mx_nl_int, mx_nl_ref, mx_nl_null, mx_nl_none, mx_nb0, mx_nb1, mx_fb0, mx_fb1, mx_cat_int, mx_cat_ref, if_true, if_false, not_true_eq_false, not_false_eq_true, T, T2, q, r2]
theorem rm_remove {bs : List Nat} {sl : slt} {s : sto} (M : mSt h sl s) (B : rm_buf h bs) (id v : Int32) :
    ∃ h' sl', mx_G (d + 2) 285 0 [some (.ref 76), some (.int id), some (.int v), none, none] [] h = some (some (.int (Int32.ofInt (s_remove s id.toInt v.toInt).1)), h') ∧ mSt h' sl' (s_remove s id.toInt v.toInt).2 ∧ rm_buf h' bs := by
  have T := M.1
  unfold s_remove s_chk
  rcases rm_find (d := d) M id with ⟨k, old, hk, zk, po, rs⟩ | ⟨po, rs⟩
  · rw [po]
    have ck := rm_check (d := d) T M.2.2.1 (v := v) hk zk
    by_cases cv : v.toInt ≠ 0 ∧ v.toInt ≠ (old.2.1 : Int)
    · rw [if_pos cv] at ck
      simp only [if_pos cv]
      refine ⟨h, sl, ?_, M, B⟩
      simp only [r285_0, r285_1, r285_2, r285_5, r285_6, r285_7, r285_8, r285_9, r285_12, r285_14, r285_16, r285_19, r285_20, r285_21, r285_22, r285_23, r285_26, r285_28, mx_isr_ref, mx_isr_null, mx_wt_nil, mx_wt_1, mx_wt_2, mx_wt_3, Option.bind_some, Option.toList_some, Option.toList_none, List.cons_append, List.nil_append, mx_nl_int, mx_nl_ref, mx_nl_null, mx_nl_none, mx_nb0, mx_nb1, mx_fb0, mx_fb1, mx_cat_int, mx_cat_ref, if_true, if_false, not_true_eq_false, not_false_eq_true, T, rs, ck, show ¬ (-412 : Int32) = 0 by decide]
      rfl
    · rw [if_neg cv] at ck
      simp only [if_neg cv]
      have st := rm_set (d := d + 1) T (s := k) (o := 0) (v := 0) (by omega)
      rw [show nI 0 = 0 from rfl, Nat.add_zero] at st
      have m1 : mf (PB k) h (mx_up h 77 (80 * k) (.int 0)) := mf_up (mf_rfl T) (by decide) (PB_t (by omega) (by omega))
      have T1 := m1.1
      refine ⟨mx_up h 77 (80 * k) (.int 0), sl.set k none, ?_, ⟨T1, hld_del M.2.1 (sl_of M.2.1 hk zk), fun j hj => ?_, ⟨?_, M.2.2.2.1.2.1, ?_⟩, ?_, M.2.2.2.2.2.1, fun j hj => ?_⟩, rm_buf_up B 0 (by decide) (by decide)⟩
      · simp only [r285_0, r285_1, r285_2, r285_5, r285_6, r285_7, r285_8, r285_9, r285_12, r285_14, r285_16, r285_19, r285_20, r285_21, r285_22, r285_23, r285_26, r285_28, mx_isr_ref, mx_isr_null, mx_wt_nil, mx_wt_1, mx_wt_2, mx_wt_3, Option.bind_some, Option.toList_some, Option.toList_none, List.cons_append, List.nil_append, mx_nl_int, mx_nl_ref, mx_nl_null, mx_nl_none, mx_nb0, mx_nb1, mx_fb0, mx_fb1, mx_cat_int, mx_cat_ref, if_true, if_false, not_true_eq_false, not_false_eq_true, T, T1, rs, ck, st]
        rfl
      · rw [getD_set M.2.1.1 hk]
        by_cases c : j = k
        · rw [if_pos c, c]
          show mi (mx_up h 77 (80 * k) (.int 0)) 77 (80 * k) = 0
          rw [mi_r T (by omega), if_pos rfl]
        · rw [if_neg c]
          exact slE_keep (M.2.2.1 j hj) fun x h1 h2 => by rw [mi_r T (by omega), if_neg (by omega)]
      · rw [m1.2.1 76 1 rfl]; exact M.2.2.2.1.1
      · intro x hx
        exact M.2.2.2.1.2.2 x (List.mem_filter.1 hx).1
      · rw [m1.2.1 76 34 rfl]; exact M.2.2.2.2.1
      · rw [m1.2.1 100 j rfl]; exact M.2.2.2.2.2.2 j hj
  · rw [po]
    have ck := rm_checkN (d := d) (h := h) (v := v)
    refine ⟨h, sl, ?_, M, B⟩
    simp only [r285_0, r285_1, r285_2, r285_5, r285_6, r285_7, r285_8, r285_9, r285_12, r285_14, r285_16, r285_19, r285_20, r285_21, r285_22, r285_23, r285_26, r285_28, mx_isr_ref, mx_isr_null, mx_wt_nil, mx_wt_1, mx_wt_2, mx_wt_3, Option.bind_some, Option.toList_some, Option.toList_none, List.cons_append, List.nil_append, mx_nl_int, mx_nl_ref, mx_nl_null, mx_nl_none, mx_nb0, mx_nb1, mx_fb0, mx_fb1, mx_cat_int, mx_cat_ref, if_true, if_false, not_true_eq_false, not_false_eq_true, T, rs, ck, show ¬ (-404 : Int32) = 0 by decide]
    rfl
theorem rm_version {sl : slt} {s : sto} (M : mSt h sl s) (id : Int32) : mx_G (d + 2) 329 0 [some (.ref 76), some (.int id), none] [] h = some (some (.int (Int32.ofInt (s_version s id.toInt))), h) := by
  have T := M.1
  unfold s_version
  rcases rm_find (d := d) M id with ⟨k, old, hk, zk, po, rs⟩ | ⟨po, rs⟩
  · rw [po]
    have Ek := M.2.2.1 k hk
    rw [zk] at Ek
    have n1 : (0 : Int32) ≤ nI k := nI_pos' (by omega)
    have f := rm_f (d := d + 1) T (s := k) (o := 1) (by omega)
    rw [Ek.1.1 1 (by decide), show nI 1 = 1 from rfl, show pe old 1 = nI old.2.1 from rfl] at f
    simp only [r329_0, r329_1, r329_2, r329_5, r329_6, r329_7, r329_10, r329_13, r329_16, r329_17, r329_18, r329_19, r329_22, mx_isr_ref, mx_isr_null, mx_wt_nil, mx_wt_1, mx_wt_2, mx_wt_3, Option.bind_some, Option.toList_some, Option.toList_none, List.cons_append, List.nil_append, mx_nl_int, mx_nl_ref, mx_nl_null, mx_nl_none, mx_nb0, mx_nb1, mx_fb0, mx_fb1, mx_cat_int, mx_cat_ref, if_true, if_false, not_true_eq_false, not_false_eq_true, T, rs, n1, f]
    rw [oI_nat]
  · rw [po]
    simp only [r329_0, r329_1, r329_2, r329_5, r329_6, r329_7, r329_10, r329_13, r329_16, r329_17, r329_18, r329_19, r329_22, mx_isr_ref, mx_isr_null, mx_wt_nil, mx_wt_1, mx_wt_2, mx_wt_3, Option.bind_some, Option.toList_some, Option.toList_none, List.cons_append, List.nil_append, mx_nl_int, mx_nl_ref, mx_nl_null, mx_nl_none, mx_nb0, mx_nb1, mx_fb0, mx_fb1, mx_cat_int, mx_cat_ref, if_true, if_false, not_true_eq_false, not_false_eq_true, T, rs, show ¬ (0 : Int32) ≤ -1 by decide]
    rfl
theorem rm_page {sl : slt} {s : sto} (M : mSt h sl s) (k : Int32) : mx_G d 327 0 [some (.ref 76), some (.int k)] [] h = some (some (.int (Int32.ofInt (s_page s k.toInt))), h) := by
  have T := M.1
  have pg := M.2.2.2.2
  unfold s_page
  by_cases c : k < 0
  · have : k.toInt < 0 := Int32.lt_iff_toInt_lt.1 c
    rw [if_neg (by omega)]
    simp only [r327_0, r327_1, r327_4, r327_5, r327_6, r327_9, r327_12, r327_13, r327_16, r327_17, r327_18, r327_21, r327_24, mx_isr_ref, mx_isr_null, mx_wt_nil, mx_wt_1, mx_wt_2, mx_wt_3, Option.bind_some, Option.toList_some, Option.toList_none, List.cons_append, List.nil_append, mx_nl_int, mx_nl_ref, mx_nl_null, mx_nl_none, mx_nb0, mx_nb1, mx_fb0, mx_fb1, mx_cat_int, mx_cat_ref, if_true, if_false, not_true_eq_false, not_false_eq_true, c]
    rfl
  · obtain ⟨j, hj, e⟩ := nI_of c
    subst e
    rw [nI_toInt hj]
    by_cases c2 : j < s.2.2.length
    · have e1 : ¬ nI s.2.2.length ≤ nI j := nI_ge c2 (by omega)
      have t1 : (nI j).toNatClampNeg = j := nI_clamp hj
      have t2 : (0 : Int32) ≤ nI j := nI_pos' hj
      have t3 : j < 8 := by omega
      rw [if_pos (by omega), oI_nat]
      simp only [r327_0, r327_1, r327_4, r327_5, r327_6, r327_9, r327_12, r327_13, r327_16, r327_17, r327_18, r327_21, r327_24, mx_isr_ref, mx_isr_null, mx_wt_nil, mx_wt_1, mx_wt_2, mx_wt_3, Option.bind_some, Option.toList_some, Option.toList_none, List.cons_append, List.nil_append, mx_nl_int, mx_nl_ref, mx_nl_null, mx_nl_none, mx_nb0, mx_nb1, mx_fb0, mx_fb1, mx_cat_int, mx_cat_ref, if_true, if_false, not_true_eq_false, not_false_eq_true, T, c, pg.1, e1, mr_ty_77, mr_n_77, mr_isI_77, mr_ty_78, mr_n_78, mr_isI_78, mr_ty_79, mr_n_79, mr_isI_79, mr_ty_80, mr_n_80, mr_isI_80, mr_ty_81, mr_n_81, mr_isI_81, mr_ty_82, mr_n_82, mr_isJ_82, mr_ty_83, mr_n_83, mr_isI_83, mr_ty_84, mr_n_84, mr_isI_84, mr_ty_85, mr_n_85, mr_isI_85, mr_ty_86, mr_n_86, mr_isI_86, mr_ty_87, mr_n_87, mr_isI_87, mr_ty_88, mr_n_88, mr_isI_88, mr_ty_89, mr_n_89, mr_isJ_89, mr_ty_90, mr_n_90, mr_isI_90, mr_ty_91, mr_n_91, mr_isI_91, mr_ty_92, mr_n_92, mr_isI_92, mr_ty_93, mr_n_93, mr_isI_93, mr_ty_94, mr_n_94, mr_isI_94, mr_ty_95, mr_n_95, mr_isI_95, mr_ty_96, mr_n_96, mr_isI_96, mr_ty_97, mr_n_97, mr_isI_97, mr_ty_98, mr_n_98, mr_isI_98, mr_ty_99, mr_n_99, mr_isI_99, mr_ty_100, mr_n_100, mr_isI_100, mr_ty_101, mr_n_101, mr_isI_101, mr_isF_1, mr_isF_3, mr_isF_4, mr_isF_10, mr_isF_12, mr_isF_18, mr_isF_19, mr_isF_21, mr_isF_22, mr_isF_23, mr_isF_26, mr_isF_34, mr_isF_37, mr_isF_38, mr_isF_39, mr_T_up, mr_T_upJ, mr_T_f, t1, t2, t3, pg.2.2 j c2, Int.toNat_natCast]
    · have e1 : nI s.2.2.length ≤ nI j := nI_le (by omega) hj
      rw [if_neg (by omega)]
      simp only [r327_0, r327_1, r327_4, r327_5, r327_6, r327_9, r327_12, r327_13, r327_16, r327_17, r327_18, r327_21, r327_24, mx_isr_ref, mx_isr_null, mx_wt_nil, mx_wt_1, mx_wt_2, mx_wt_3, Option.bind_some, Option.toList_some, Option.toList_none, List.cons_append, List.nil_append, mx_nl_int, mx_nl_ref, mx_nl_null, mx_nl_none, mx_nb0, mx_nb1, mx_fb0, mx_fb1, mx_cat_int, mx_cat_ref, if_true, if_false, not_true_eq_false, not_false_eq_true, T, c, pg.1, e1]
      rfl
theorem ppl_take (sl : slt) {k : Nat} (hk : k < sl.length) : (ppl (sl.take (k + 1))).length = (ppl (sl.take k)).length + (if sl.getD k none = none then 0 else 1) := by
  unfold ppl
  rw [List.take_add_one, List.getElem?_eq_getElem hk, List.filterMap_append, List.length_append, List.getD_eq_getElem?_getD, List.getElem?_eq_getElem hk]
  congr 1
  simp only [Option.toList_some, Option.getD_some]
  cases z : sl[k] with
  | none => rfl
  | some p => rfl
theorem rm_resL {sl : slt} {s : sto} (M : mSt h sl s) : ∀ n k, k + n = 8 → mx_G (d + 1) 328 4 [some (.ref 76), some (.int (nI (ppl (sl.take k)).length)), some (.int (nI k))] [] h = some (some (.int (nI (ppl sl).length)), h) := by
  have T := M.1
  have hl := M.2.1.1
  intro n
  induction n with
  | zero =>
    intro k hk
    have : k = 8 := by omega
    subst this
    rw [List.take_of_length_le (by omega)]
    simp only [r328_4, r328_5, r328_7, r328_33, r328_34, mx_isr_ref, mx_isr_null, mx_wt_nil, mx_wt_1, mx_wt_2, mx_wt_3, Option.bind_some, Option.toList_some, Option.toList_none, List.cons_append, List.nil_append, mx_nl_int, mx_nl_ref, mx_nl_null, mx_nl_none, mx_nb0, mx_nb1, mx_fb0, mx_fb1, mx_cat_int, mx_cat_ref, if_true, if_false, not_true_eq_false, not_false_eq_true, show (8 : Int32) ≤ nI 8 by decide]
  | succ n ih =>
    intro k hk
    have e1 : ¬ (8 : Int32) ≤ nI k := nI_ge (b := 8) (by omega) (by decide)
    have Ek := M.2.2.1 k (by omega)
    have f0 := rm_f (d := d) T (s := k) (o := 0) (by omega)
    rw [show nI 0 = 0 from rfl, Nat.add_zero, slE_id Ek] at f0
    have hi := ih (k + 1) (by omega)
    rw [ppl_take sl (by omega)] at hi
    cases z : sl.getD k none with
    | none =>
      rw [z, show oid none = 0 from rfl] at f0
      rw [if_pos z] at hi
      rw [← hi, r328_4]
      simp only [r328_5, r328_7, r328_10, r328_11, r328_12, r328_13, r328_16, r328_19, r328_20, r328_21, r328_22, r328_25, r328_26, r328_27, r328_30, mx_isr_ref, mx_isr_null, mx_wt_nil, mx_wt_1, mx_wt_2, mx_wt_3, Option.bind_some, Option.toList_some, Option.toList_none, List.cons_append, List.nil_append, mx_nl_int, mx_nl_ref, mx_nl_null, mx_nl_none, mx_nb0, mx_nb1, mx_fb0, mx_fb1, mx_cat_int, mx_cat_ref, if_true, if_false, not_true_eq_false, not_false_eq_true, T, e1, f0, show nI 0 ≤ 0 by decide, nI_1]
      rfl
    | some p =>
      rw [z] at Ek
      rw [z, show oid (some p) = p.1 from rfl] at f0
      have e2 : ¬ nI p.1 ≤ 0 := nI_nle Ek.2.2.1 (by have := Ek.2.2.2.1; omega)
      rw [if_neg (by rw [z]; exact fun y => by cases y)] at hi
      rw [← hi, r328_4]
      simp only [r328_5, r328_7, r328_10, r328_11, r328_12, r328_13, r328_16, r328_19, r328_20, r328_21, r328_22, r328_25, r328_26, r328_27, r328_30, mx_isr_ref, mx_isr_null, mx_wt_nil, mx_wt_1, mx_wt_2, mx_wt_3, Option.bind_some, Option.toList_some, Option.toList_none, List.cons_append, List.nil_append, mx_nl_int, mx_nl_ref, mx_nl_null, mx_nl_none, mx_nb0, mx_nb1, mx_fb0, mx_fb1, mx_cat_int, mx_cat_ref, if_true, if_false, not_true_eq_false, not_false_eq_true, T, e1, f0, e2, nI_1]
theorem rm_resources {sl : slt} {s : sto} (M : mSt h sl s) : mx_G (d + 1) 328 0 [some (.ref 76), none, none] [] h = some (some (.int (nI s.1.length)), h) := by
  have L := rm_resL (d := d) M 8 0 rfl
  rw [hld_len M.2.1] at L
  rw [← L]
  simp only [r328_0, r328_1, r328_2, r328_3, mx_isr_ref, mx_isr_null, mx_wt_nil, mx_wt_1, mx_wt_2, mx_wt_3, Option.bind_some, Option.toList_some, Option.toList_none, List.cons_append, List.nil_append, mx_nl_int, mx_nl_ref, mx_nl_null, mx_nl_none, mx_nb0, mx_nb1, mx_fb0, mx_fb1, mx_cat_int, mx_cat_ref, if_true, if_false, not_true_eq_false, not_false_eq_true]
  rfl
end
