section
variable {d : Nat} {h : mx_H}
theorem stpf : stP Ppf := ⟨fun k hk => by unfold Ppf P79 Pcz; simp; omega, rfl, rfl, fun _ => rfl⟩
theorem stoc : stP (fun a k => Pop a k || Pct a k) := ⟨fun _ _ => rfl, rfl, rfl, fun _ => rfl⟩
theorem aOps_b {ts : List tk} : ∀ l p, ecB (aOps ts l p).1 := by
  intro l
  induction l with
  | nil => intro p; exact ⟨(by decide : (-500 : Int) < 0), (by decide : (0 : Int) ≤ 0)⟩
  | cons o l ih =>
    intro p
    rw [aOps]
    have t := aOp_b (ts := ts) o p
    generalize aOp ts o p = u at *
    obtain ⟨e, p'⟩ := u
    show ecB (if e = 0 then aOps ts l p' else (e, p)).1
    by_cases z : e = 0
    · rw [if_pos z]; exact ih p'
    · rw [if_neg z]; exact t
theorem rm_patched {bs : List Nat} {sl : slt} {s : sto} (M : mSt h sl s) (B : rm_buf h bs) (hb : ∀ p ∈ s.1, p.2.1 + 1 < 2 ^ 20) (id v : Int32) :
    ∃ h' sl' x, mx_G (d + 9) 280 0 [some (.ref 76), some (.int id), none] [] h = some (some (.int x), h) ∧ mx_G (d + 9) 287 0 [some (.ref 76), some (.int x), some (.int v), none, none] [] h = some (some (.int (Int32.ofInt (s_patch (lx bs.length bs) (lx_good (lx bs.length bs)) s id.toInt v.toInt).1)), h') ∧ mSt h' sl' (s_patch (lx bs.length bs) (lx_good (lx bs.length bs)) s id.toInt v.toInt).2 := by
  have T := M.1
  unfold s_patch s_chk
  rcases rm_find (d := d + 8) M id with ⟨k, old, hk, zk, po, rs⟩ | ⟨po, rs⟩
  · rw [po]
    have ck := rm_check (d := d + 7) T M.2.2.1 (v := v) hk zk
    have hm : old ∈ s.1 := (pOf_some po).1
    by_cases cv : v.toInt ≠ 0 ∧ v.toInt ≠ (old.2.1 : Int)
    · rw [if_pos cv] at ck
      simp only [if_pos cv]
      refine ⟨h, sl, nI k, rs, ?_, M⟩
      simp only [r287_0, r287_1, r287_2, r287_3, r287_6, r287_7, r287_8, r287_11, r287_12, mx_isr_ref, mx_isr_null, mx_wt_nil, mx_wt_1, mx_wt_2, mx_wt_3, Option.bind_some, Option.toList_some, Option.toList_none, List.cons_append, List.nil_append, mx_nl_int, mx_nl_ref, mx_nl_null, mx_nl_none, mx_nb0, mx_nb1, mx_fb0, mx_fb1, mx_cat_int, mx_cat_ref, if_true, if_false, not_true_eq_false, not_false_eq_true, T, ck, show ¬ (0 : Int32) ≤ -412 by decide]
      rfl
    · rw [if_neg cv] at ck
      simp only [if_neg cv]
      obtain ⟨h1, out, r1, m1, P1⟩ := rm_readPatch (d := d + 1) T B
      have T1 := m1.1
      have M1 := mSt_mf M m1 stoc
      generalize lx bs.length bs = ts at *
      cases zo : (if lx_good ts = true then rOps ts 120 0 else none : Option (List opr)) with
      | none =>
        rw [zo] at r1
        refine ⟨h1, sl, nI k, rs, ?_, M1⟩
        simp only [r287_0, r287_1, r287_2, r287_3, r287_6, r287_7, r287_8, r287_11, r287_12, r287_13, r287_14, r287_17, r287_20, r287_23, mx_isr_ref, mx_isr_null, mx_wt_nil, mx_wt_1, mx_wt_2, mx_wt_3, Option.bind_some, Option.toList_some, Option.toList_none, List.cons_append, List.nil_append, mx_nl_int, mx_nl_ref, mx_nl_null, mx_nl_none, mx_nb0, mx_nb1, mx_fb0, mx_fb1, mx_cat_int, mx_cat_ref, if_true, if_false, not_true_eq_false, not_false_eq_true, T, T1, ck, r1, Option.isSome_none, Bool.false_eq_true, show (0 : Int32) ≤ 0 by decide]
        rfl
      | some l =>
        rw [zo] at r1
        have g : lx_good ts = true := by
          by_cases q : lx_good ts = true
          · exact q
          · rw [if_neg q] at zo; cases zo
        rw [if_pos g] at zo
        obtain ⟨S1, K, PP⟩ := P1 g
        obtain ⟨O, l40, o1⟩ := PP l zo
        have E1 := M1.2.2.1 k hk
        rw [zk] at E1
        obtain ⟨h3, r3, m3, g3⟩ := rm_copy (d := d + 7) T1 (a := k) (b := 8) (by omega) (by decide) (by omega)
        rw [show nI 8 = 8 from rfl] at r3
        have m3' : mf Ppf h1 h3 := mf_mono (fun a j e => by
          have e := pf79 a j e
          unfold P79 at e
          unfold PB
          simp at e ⊢
          intro y z
          have := e.1 y
          omega) m3
        have T3 := m3.1
        have R3 : rcP h3 8 old := by
          refine ⟨fun o ho => ?_, fun i hi j hj => ?_⟩
          · rw [g3, if_pos (by omega), Nat.add_sub_cancel_left]
            exact E1.1.1 o ho
          · have h4 := E1.2.1.2.2.1
            rw [g3, if_pos (by omega), show 80 * k + (80 * 8 + 20 + 14 * i + j - 80 * 8) = 80 * k + 20 + 14 * i + j by omega]
            exact E1.1.2 i hi j hj
        have i20 : old.1 < 2 ^ 20 := by have := E1.2.2.2.1; omega
        have v20 : old.2.1 < 2 ^ 20 := by have := hb old hm; omega
        obtain ⟨h5, x, r5, m5, G⟩ := rm_opL (d := d) S1 K O l40 o1 (k := nI k) (v := v) l.length 0 old h3 (Nat.zero_add _) R3 E1.2.1 i20 v20 m3'
        rw [List.drop_zero, show nI 0 = 0 from rfl] at r5
        rw [List.drop_zero] at G
        have M5 := mSt_mf M1 m5 stpf
        have T5 := m5.1
        have wq := aOps_wf K l old E1.2.1
        have eb := aOps_b (ts := ts) l old
        have s0 : mx_G (d + 9) 287 0 [some (.ref 76), some (.int (nI k)), some (.int v), none, none] [] h = mx_G (d + 9) 287 124 [some (.ref 76), some (.int (nI k)), some (.int v), some (.int (Int32.ofInt (aOps ts l old).1)), some (.int x)] [] h5 := by
          rw [← r5]
          simp only [r287_0, r287_1, r287_2, r287_3, r287_6, r287_7, r287_8, r287_11, r287_12, r287_13, r287_14, r287_17, r287_20, r287_23, r287_24, r287_25, r287_26, r287_28, r287_31, r287_32, mx_isr_ref, mx_isr_null, mx_wt_nil, mx_wt_1, mx_wt_2, mx_wt_3, Option.bind_some, Option.toList_some, Option.toList_none, List.cons_append, List.nil_append, mx_nl_int, mx_nl_ref, mx_nl_null, mx_nl_none, mx_nb0, mx_nb1, mx_fb0, mx_fb1, mx_cat_int, mx_cat_ref, if_true, if_false, not_true_eq_false, not_false_eq_true, T, T1, T3, ck, r1, r3, Option.isSome_some, show (0 : Int32) ≤ 0 by decide, show ¬ (1 : Int32) = 0 by decide]
        dsimp only
        generalize aOps ts l old = u at *
        obtain ⟨ec, p⟩ := u
        by_cases z : ec = 0
        · subst z
          simp only [if_true]
          obtain ⟨h6, sl', r6, M6⟩ := rm_finish (d := d + 6) M5 hk zk (G rfl) wq.1 wq.2.1 wq.2.2 (hb old hm)
          refine ⟨h6, sl', nI k, rs, ?_, M6⟩
          rw [s0]
          show mx_G (d + 9) 287 124 [some (.ref 76), some (.int (nI k)), some (.int v), some (.int 0), some (.int x)] [] h5 = _
          simp only [r287_124, r287_125, r287_128, r287_129, r287_132, r287_133, r287_134, r287_137, mx_isr_ref, mx_isr_null, mx_wt_nil, mx_wt_1, mx_wt_2, mx_wt_3, Option.bind_some, Option.toList_some, Option.toList_none, List.cons_append, List.nil_append, mx_nl_int, mx_nl_ref, mx_nl_null, mx_nl_none, mx_nb0, mx_nb1, mx_fb0, mx_fb1, mx_cat_int, mx_cat_ref, if_true, if_false, not_true_eq_false, not_false_eq_true, T5, r6, show (0 : Int32) ≤ 0 by decide]
        · have ng : ¬ (0 : Int32) ≤ Int32.ofInt ec := (ecB_0 eb).2 z
          simp only [if_neg z]
          refine ⟨h5, sl, nI k, rs, ?_, M5⟩
          rw [s0]
          simp only [r287_124, r287_125, r287_128, r287_129, r287_132, r287_133, r287_134, r287_137, mx_isr_ref, mx_isr_null, mx_wt_nil, mx_wt_1, mx_wt_2, mx_wt_3, Option.bind_some, Option.toList_some, Option.toList_none, List.cons_append, List.nil_append, mx_nl_int, mx_nl_ref, mx_nl_null, mx_nl_none, mx_nb0, mx_nb1, mx_fb0, mx_fb1, mx_cat_int, mx_cat_ref, if_true, if_false, not_true_eq_false, not_false_eq_true, ng]
  · rw [po]
    have ck := rm_checkN (d := d + 7) (h := h) (v := v)
    refine ⟨h, sl, -1, rs, ?_, M⟩
    simp only [r287_0, r287_1, r287_2, r287_3, r287_6, r287_7, r287_8, r287_11, r287_12, mx_isr_ref, mx_isr_null, mx_wt_nil, mx_wt_1, mx_wt_2, mx_wt_3, Option.bind_some, Option.toList_some, Option.toList_none, List.cons_append, List.nil_append, mx_nl_int, mx_nl_ref, mx_nl_null, mx_nl_none, mx_nb0, mx_nb1, mx_fb0, mx_fb1, mx_cat_int, mx_cat_ref, if_true, if_false, not_true_eq_false, not_false_eq_true, T, ck, show ¬ (0 : Int32) ≤ -404 by decide]
    rfl
theorem rm_patch {bs : List Nat} {sl : slt} {s : sto} (M : mSt h sl s) (B : rm_buf h bs) (hb : ∀ p ∈ s.1, p.2.1 + 1 < 2 ^ 20) (id v : Int32) :
    ∃ h' sl', mx_G (d + 10) 286 0 [some (.ref 76), some (.int id), some (.int v), none] [] h = some (some (.int (Int32.ofInt (s_patch (lx bs.length bs) (lx_good (lx bs.length bs)) s id.toInt v.toInt).1)), h') ∧ mSt h' sl' (s_patch (lx bs.length bs) (lx_good (lx bs.length bs)) s id.toInt v.toInt).2 ∧ rm_buf h' [] := by
  have T := M.1
  obtain ⟨h2, sl2, y, q, r2, M2⟩ := rm_patched (d := d) M B hb id v
  have T2 := M2.1
  refine ⟨mx_up h2 76 3 (.int 0), sl2, ?_, mSt_mf M2 (mf_f (P := P3) (mf_rfl T2) (by decide) rfl) st3, buf_nil T2⟩
  simp only [r286_0, r286_1, r286_2, r286_3, r286_6, r286_7, r286_10, r286_11, r286_12, r286_13, r286_16, r286_17, mx_isr_ref, mx_isr_null, mx_wt_nil, mx_wt_1, mx_wt_2, mx_wt_3, Option.bind_some, Option.toList_some, Option.toList_none, List.cons_append, List.nil_append, mx_nl_int, mx_nl_ref, mx_nl_null, mx_nl_none, mx_nb0, mx_nb1, mx_fb0, mx_fb1, mx_cat_int, mx_cat_ref, if_true, if_false, not_true_eq_false, not_false_eq_true, T, T2, q, r2]
end
