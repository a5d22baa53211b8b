/-! splitOff and split. -/
theorem lx_one_len {c : Nat} {r : List Nat} : (lx_one c r).2.length ≤ r.length := by
  unfold lx_one
  split
  · rename_i hL
    rw [takeWhile_drop, List.takeWhile_cons_of_pos hL]
    simp
  · split
    · rename_i hD
      have := lx_num_pos (l := c :: r) hD
      rw [List.length_drop, List.length_cons]
      omega
    · split
      · simp
      · split
        · split
          · rename_i q hq
            obtain ⟨m, e1, e2⟩ := lx_str_split _ r (Nat.le_refl _) q.1 q.2 hq
            rw [e1]
            simp
            omega
          · simp
        · split <;> simp
theorem tw_all {α : Type} (f : α → Bool) : ∀ (l : List α) (x : α), x ∈ l.takeWhile f → f x = true := by
  intro l
  induction l with
  | nil => intro x hx; simp at hx
  | cons y l ih =>
    intro x hx
    by_cases hy : f y = true
    · rw [List.takeWhile_cons_of_pos hy, List.mem_cons] at hx
      rcases hx with rfl | hx
      · exact hy
      · exact ih x hx
    · rw [List.takeWhile_cons_of_neg hy] at hx
      simp at hx
/-- a token is made -/
def offR (ls : List Nat) (u a : Nat) (ls' : List Nat) : Prop := ls'.length = ls.length ∧ (∀ k, k < a → ls'.getD k 0 = ls.getD k 0) ∧ tkR ls' a (u - (lx_one (ls.getD a 0) (rst ls u (a + 1))).2.length) (lx_one (ls.getD a 0) (rst ls u (a + 1))).1 ∧
  rst ls' u (u - (lx_one (ls.getD a 0) (rst ls u (a + 1))).2.length) = (lx_one (ls.getD a 0) (rst ls u (a + 1))).2 ∧ ∀ k, u - (lx_one (ls.getD a 0) (rst ls u (a + 1))).2.length ≤ k → ls'.getD k 0 = ls.getD k 0
theorem offR_same {ls : List Nat} {u a e : Nat} {q : tk × List Nat} (hu : u ≤ ls.length) (h120 : u ≤ 120) (ha : a < e) (he : e ≤ u) (hq : lx_one (ls.getD a 0) (rst ls u (a + 1)) = q) (hr : q.2 = rst ls u e) (ht : tkR ls a e q.1) : offR ls u a ls ∧ u - q.2.length = e := by
  have e1 : u - q.2.length = e := by rw [hr, rst_len hu]; omega
  unfold offR
  rw [hq, e1]
  exact ⟨⟨rfl, fun _ _ => rfl, ht, hr.symm, fun _ _ => rfl⟩, rfl⟩
section
variable {d : Nat} {h : mx_H} {ls ks ss es : List Nat} {u t c : Nat}
theorem jc_off (K : KS h) (B : BF h ls u ks ss es t c) {a : Nat} (hA : ∀ k, a ≤ k → k < u → ls.getD k 0 = 10 ∨ 32 ≤ ls.getD k 0) (ht : t < 121) (ha : a < u) :
    ∃ h' ls', mx_G (d + 6) 19 0 [some (.ref 64), some (.int (nI a)), none, none, none] [] h = some (none, h') ∧ offR ls u a ls' ∧
      BF h' ls' u (ks.set t (lx_one (ls.getD a 0) (rst ls u (a + 1))).1.1) (ss.set t a) (es.set t (u - (lx_one (ls.getD a 0) (rst ls u (a + 1))).2.length)) t c ∧ Fr [65, 66, 67, 68] h h' ∧ mw h' = mw h := by
  obtain ⟨t4, l4, e0, e1, e2, e3, e4, e5, e6, e7, t5, l5, x5, t6, l6, x6, t7, l7, x7, t8, l8, x8⟩ := BF_f B
  have hu := B.2.2.2.2.2.2.2.2.2.1
  have hl := B.2.2.2.2.2.1
  have hc := gd_lt B.2.2.2.2.2.2.2.2.2.2 a
  rw [jc_pre K B ha]
  have L := jc_let (d := d + 4) B (k := a) (by omega)
  have D := jc_dig (d := d + 4) B (k := a) (by omega)
  have D1 := jc_dig (d := d + 4) B (k := a + 1) (by omega)
  have hr := rst_cons (ls := ls) (u := u) (k := a) ha (by omega)
  generalize hq : lx_one (ls.getD a 0) (rst ls u (a + 1)) = q
  unfold lx_one at hq
  by_cases hL : isLet (ls.getD a 0) = true
  · -- a word
    rw [if_pos hL, ← hr] at hq
    rw [if_pos ⟨ha, hL⟩] at L
    obtain ⟨h1, i1, i2, i3, i4⟩ := jc_foldW (d := d + 3) B (k := a) (by omega)
    generalize hw : ((rst ls u a).takeWhile isLet).length = w at i1 i2
    have hwl : w ≤ u - a := by rw [← hw]; exact Nat.le_trans (tw_len _ _) (by rw [rst_len (by omega)]; exact Nat.le_refl _)
    have hw0 : 0 < w := by rw [← hw, hr, List.takeWhile_cons_of_pos hL]; simp
    have hq2 : q.2 = rst ls u (a + w) := by
      rw [← hq]
      show (rst ls u a).dropWhile isLet = _
      rw [takeWhile_drop, hw, rst_drop]
    have hqe : u - q.2.length = a + w := by rw [hq2, rst_len (by omega)]; omega
    have hfl := fw_len w a ls
    have hfg := fun k => fw_get w a ls k (by omega)
    obtain ⟨j1, j2, j3, j4⟩ := jc_tail (d := d + 6) i2 ht (a := a) (kd := 1) (e := a + w) (v2 := some (.int (nI (ls.getD a 0))))
    have hq1 : q.1 = (1, ((rst ls u a).takeWhile isLet).map sml) := by rw [← hq]
    refine ⟨_, fw ls a w, ?_, ?_, ?_, (i3.mono (fun x hx => by rw [List.mem_singleton] at hx; rw [hx]; simp)).trans j3 (fun x hx => Or.inl hx), by rw [j4, i4]⟩
    · rw [← j1]
      simp only [g19_27, g19_28, g19_29, g19_32, g19_35, g19_36, g19_37, g19_38, g19_39, g19_42, g19_44, mx_isr_ref, mx_isr_null, mx_wt_nil, mx_wt_1, mx_wt_2, mx_wt_3, Option.bind_some, Option.toList_some, Option.toList_none, List.cons_append, List.nil_append, mx_nl_int, mx_nl_ref, mx_nl_null, mx_nl_none, mx_nb0, mx_nb1, mx_fb0, mx_fb1, mx_cat_int, mx_cat_ref, if_true, if_false, not_true_eq_false, not_false_eq_true, mx_wt_4, mx_w4_0, mx_w9_0, mx_w9_1, mx_kn_int, mx_kn_ref, mx_kn_null, Nat.reduceLT, ofn, n10, t4, L, i1]
      rfl
    · unfold offR
      unfold lx_one
      rw [if_pos hL, ← hr, hq, hqe]
      refine ⟨hfl, fun k hk => ?_, ⟨by omega, by omega, fun _ => ?_, fun z => ?_, fun z => ?_⟩, ?_, fun k hk => ?_⟩
      · rw [hfg, if_neg (by omega)]
      · rw [hq1]
        have hs : sli (fw ls a w) a (a + w) = ((rst ls u a).takeWhile isLet).map sml := by
          rw [tw_take, hw, sli_take (by omega)]
          apply List.ext_getElem?
          intro k
          by_cases hk : k < a + w - a
          · rw [sli_get _ hk, List.getElem?_map, sli_get _ hk, gd_get (by omega), gd_get (by omega), hfg, if_pos (by omega)]
            rfl
          · rw [List.getElem?_eq_none (by rw [sli_len _ (by omega)]; omega), List.getElem?_eq_none (by rw [List.length_map, sli_len _ (by omega)]; omega)]
        refine ⟨hs, fun x hx => ?_⟩
        obtain ⟨y, hy, rfl⟩ := List.mem_map.mp hx
        have := tw_all _ _ y hy
        simp only [isLet, Bool.and_eq_true, decide_eq_true_eq] at this
        omega
      · rw [hq1] at z; simp at z
      · rw [hq1] at z; simp at z
      · rw [hq2]
        refine rst_eq hfl (by omega) (fun j h1 h2 => ?_)
        rw [hfg, if_neg (by omega)]
      · rw [hfg, if_neg (by omega)]
    · rw [hq1, hqe]
      exact j2
  · rw [if_neg hL] at hq
    rw [if_neg (fun z => hL z.2)] at L
    by_cases hD : isDig (ls.getD a 0) = true
    · -- a number
      rw [if_pos hD, ← hr] at hq
      rw [if_pos ⟨ha, hD⟩] at D
      have N := jc_num (d := d + 3) B (k := a) ha
      have hn0 : 0 < (lx_num (rst ls u a)).length := lx_num_pos (by rw [hr]; exact hD)
      have hn1 : (lx_num (rst ls u a)).length ≤ u - a := by
        rcases lx_num_len (rst ls u a) with z | z
        · rw [rst_len (by omega)] at z; exact z
        · rw [hr] at z; cases z
      have h45 : ¬ ls.getD a 0 = 45 := by
        intro z
        rw [z] at hD
        exact absurd hD (by decide)
      have q45 : ¬ nI (ls.getD a 0) = 45 := fun z => h45 ((nI_eq (b := 45) (by omega) (by decide)).mp z)
      have hq2 : q.2 = rst ls u (a + (lx_num (rst ls u a)).length) := by rw [← hq]; exact rst_drop _ _ _ _
      have hpf : (rst ls u a).take (lx_num (rst ls u a)).length = lx_num (rst ls u a) := by
        unfold lx_num
        split
        · rename_i z
          rw [hr] at z ⊢
          simp at z
          simp [z]
        · rw [← List.prefix_iff_eq_take.mp ((List.take_prefix _ _).trans (List.takeWhile_prefix _))]
      obtain ⟨o1, o2⟩ := offR_same (ls := ls) (u := u) (a := a) (e := a + (lx_num (rst ls u a)).length) (q := q) (by omega) (by omega) (by omega) (by omega) (by rw [← hq]; unfold lx_one; rw [if_neg hL, if_pos hD, ← hr]) hq2 (by
        refine ⟨by omega, by omega, fun z => ?_, fun _ => ?_, fun z => ?_⟩
        · rw [← hq] at z; simp at z
        · rw [← hq, ← sli_take (u := u) (by omega)]; exact hpf
        · rw [← hq] at z; simp at z)
      obtain ⟨j1, j2, j3, j4⟩ := jc_tail (d := d + 6) B ht (a := a) (kd := 2) (e := a + (lx_num (rst ls u a)).length) (v2 := some (.int (nI (ls.getD a 0))))
      have hq1 : q.1.1 = 2 := by rw [← hq]
      refine ⟨_, ls, ?_, o1, by rw [hq1, o2]; exact j2, j3, j4⟩
      rw [← j1]
      simp only [g19_27, g19_28, g19_29, g19_32, g19_35, g19_36, g19_37, g19_38, g19_39, g19_42, g19_44, g19_47, g19_48, g19_49, g19_52, g19_55, g19_56, g19_58, g19_61, g19_62, g19_63, g19_64, g19_65, g19_68, g19_71, g19_72, g19_73, g19_74, g19_75, g19_77, g19_80, g19_81, g19_82, g19_83, g19_86, g19_87, g19_90, g19_92, mx_isr_ref, mx_isr_null, mx_wt_nil, mx_wt_1, mx_wt_2, mx_wt_3, Option.bind_some, Option.toList_some, Option.toList_none, List.cons_append, List.nil_append, mx_nl_int, mx_nl_ref, mx_nl_null, mx_nl_none, mx_nb0, mx_nb1, mx_fb0, mx_fb1, mx_cat_int, mx_cat_ref, if_true, if_false, not_true_eq_false, not_false_eq_true, mx_wt_4, mx_w4_0, mx_w9_0, mx_w9_1, mx_kn_int, mx_kn_ref, mx_kn_null, Nat.reduceLT, ofn, n10, t4, L, D, q45, N]
      rfl
    · rw [if_neg hD] at hq
      rw [if_neg (fun z => hD z.2)] at D
      by_cases hM : ls.getD a 0 = 45 ∧ isDig ((rst ls u (a + 1)).getD 0 0) = true
      · -- a number below 0
        rw [if_pos hM] at hq
        have ha1 : a + 1 < u := by
          by_cases z : a + 1 < u
          · exact z
          · rw [rst_nil (by omega)] at hM
            exact absurd hM.2 (by decide)
        have hr1 := rst_cons (ls := ls) (u := u) (k := a + 1) ha1 (by omega)
        have hD1 : isDig (ls.getD (a + 1) 0) = true := by
          have := hM.2
          rw [hr1] at this
          exact this
        rw [if_pos ⟨ha1, hD1⟩] at D1
        have N := jc_num (d := d + 3) B (k := a + 1) ha1
        have hn0 : 0 < (lx_num (rst ls u (a + 1))).length := lx_num_pos hM.2
        have hn1 : (lx_num (rst ls u (a + 1))).length ≤ u - (a + 1) := by
          rcases lx_num_len (rst ls u (a + 1)) with z | z
          · rw [rst_len (by omega)] at z; exact z
          · rw [hr1] at z; cases z
        have q45 : nI (ls.getD a 0) = 45 := by rw [hM.1]; rfl
        have hq2 : q.2 = rst ls u (a + 1 + (lx_num (rst ls u (a + 1))).length) := by rw [← hq]; exact rst_drop _ _ _ _
        have hpf : (rst ls u (a + 1)).take (lx_num (rst ls u (a + 1))).length = lx_num (rst ls u (a + 1)) := by
          unfold lx_num
          split
          · rename_i z
            rw [hr1] at z ⊢
            simp at z
            simp [z]
          · rw [← List.prefix_iff_eq_take.mp ((List.take_prefix _ _).trans (List.takeWhile_prefix _))]
        obtain ⟨o1, o2⟩ := offR_same (ls := ls) (u := u) (a := a) (e := a + 1 + (lx_num (rst ls u (a + 1))).length) (q := q) (by omega) (by omega) (by omega) (by omega) (by rw [← hq]; unfold lx_one; rw [if_neg hL, if_neg hD, if_pos hM]) hq2 (by
          refine ⟨by omega, by omega, fun z => ?_, fun _ => ?_, fun z => ?_⟩
          · rw [← hq] at z; simp at z
          · rw [← hq]
            show sli ls a (a + 1 + (lx_num (rst ls u (a + 1))).length) = 45 :: lx_num (rst ls u (a + 1))
            have e1 : sli ls a (a + 1 + (lx_num (rst ls u (a + 1))).length) = (rst ls u a).take (1 + (lx_num (rst ls u (a + 1))).length) := by
              rw [sli_take (by omega)]
              congr 1
              omega
            rw [e1, hr, hM.1, Nat.add_comm 1, List.take_succ_cons, hpf]
          · rw [← hq] at z; simp at z)
        obtain ⟨j1, j2, j3, j4⟩ := jc_tail (d := d + 6) B ht (a := a) (kd := 2) (e := a + 1 + (lx_num (rst ls u (a + 1))).length) (v2 := some (.int (nI (ls.getD a 0))))
        have hq1 : q.1.1 = 2 := by rw [← hq]
        refine ⟨_, ls, ?_, o1, by rw [hq1, o2]; exact j2, j3, j4⟩
        rw [← j1]
        rw [q45]
        simp only [g19_27, g19_28, g19_29, g19_32, g19_35, g19_36, g19_37, g19_38, g19_39, g19_42, g19_44, g19_47, g19_48, g19_49, g19_52, g19_55, g19_56, g19_58, g19_61, g19_62, g19_63, g19_64, g19_65, g19_68, g19_71, g19_72, g19_73, g19_74, g19_75, g19_77, g19_80, g19_81, g19_82, g19_83, g19_86, g19_87, g19_90, g19_92, mx_isr_ref, mx_isr_null, mx_wt_nil, mx_wt_1, mx_wt_2, mx_wt_3, Option.bind_some, Option.toList_some, Option.toList_none, List.cons_append, List.nil_append, mx_nl_int, mx_nl_ref, mx_nl_null, mx_nl_none, mx_nb0, mx_nb1, mx_fb0, mx_fb1, mx_cat_int, mx_cat_ref, if_true, if_false, not_true_eq_false, not_false_eq_true, mx_wt_4, mx_w4_0, mx_w9_0, mx_w9_1, mx_kn_int, mx_kn_ref, mx_kn_null, Nat.reduceLT, ofn, n10, t4, L, D, D1, N, nI_1]
        rfl
      · rw [if_neg hM] at hq
        have noM : mx_G (d + 6) 19 27 [some (.ref 64), some (.int (nI a)), some (.int (nI (ls.getD a 0))), some (.int (nI (if isSig (ls.getD a 0) = true then ls.getD a 0 else 4))), some (.int (nI (a + 1)))] [] h = mx_G (d + 6) 19 95 [some (.ref 64), some (.int (nI a)), some (.int (nI (ls.getD a 0))), some (.int (nI (if isSig (ls.getD a 0) = true then ls.getD a 0 else 4))), some (.int (nI (a + 1)))] [] h := by
          by_cases h45 : ls.getD a 0 = 45
          · have q45 : nI (ls.getD a 0) = 45 := by rw [h45]; rfl
            have hnd : ¬ (a + 1 < u ∧ isDig (ls.getD (a + 1) 0) = true) := by
              rintro ⟨z1, z2⟩
              refine hM ⟨h45, ?_⟩
              rw [rst_cons z1 (by omega)]
              exact z2
            rw [if_neg hnd] at D1
            rw [q45]
            simp only [g19_27, g19_28, g19_29, g19_32, g19_35, g19_36, g19_37, g19_38, g19_39, g19_42, g19_44, g19_47, g19_48, g19_49, g19_52, g19_55, g19_56, g19_58, g19_61, g19_62, g19_63, g19_64, g19_65, g19_68, mx_isr_ref, mx_isr_null, mx_wt_nil, mx_wt_1, mx_wt_2, mx_wt_3, Option.bind_some, Option.toList_some, Option.toList_none, List.cons_append, List.nil_append, mx_nl_int, mx_nl_ref, mx_nl_null, mx_nl_none, mx_nb0, mx_nb1, mx_fb0, mx_fb1, mx_cat_int, mx_cat_ref, if_true, if_false, not_true_eq_false, not_false_eq_true, mx_wt_4, mx_w4_0, mx_w9_0, mx_w9_1, mx_kn_int, mx_kn_ref, mx_kn_null, Nat.reduceLT, ofn, n10, t4, L, D, D1, nI_1]
          · have q45 : ¬ nI (ls.getD a 0) = 45 := fun z => h45 ((nI_eq (b := 45) (by omega) (by decide)).mp z)
            simp only [g19_27, g19_28, g19_29, g19_32, g19_35, g19_36, g19_37, g19_38, g19_39, g19_42, g19_44, g19_47, g19_48, g19_49, g19_52, g19_55, g19_56, g19_58, g19_61, g19_62, g19_63, g19_64, g19_65, g19_68, mx_isr_ref, mx_isr_null, mx_wt_nil, mx_wt_1, mx_wt_2, mx_wt_3, Option.bind_some, Option.toList_some, Option.toList_none, List.cons_append, List.nil_append, mx_nl_int, mx_nl_ref, mx_nl_null, mx_nl_none, mx_nb0, mx_nb1, mx_fb0, mx_fb1, mx_cat_int, mx_cat_ref, if_true, if_false, not_true_eq_false, not_false_eq_true, mx_wt_4, mx_w4_0, mx_w9_0, mx_w9_1, mx_kn_int, mx_kn_ref, mx_kn_null, Nat.reduceLT, ofn, n10, t4, L, D, q45]
        rw [noM]
        by_cases h34 : ls.getD a 0 = 34
        · rw [if_pos h34] at hq
          have q34 : nI (ls.getD a 0) = 34 := by rw [h34]; rfl
          have Q := jc_str (d := d) K B hA ha
          cases hs : lx_str (rst ls u (a + 1)) with
          | some w =>
            rw [hs] at Q hq
            obtain ⟨m, m1, m2⟩ := lx_str_split _ _ (Nat.le_refl _) w.1 w.2 hs
            have hml : u - (a + 1) = m.length + 1 + w.2.length := by
              have := congrArg List.length m1
              rw [rst_len (by omega)] at this
              rw [this]
              simp
              omega
            have hq2 : q.2 = rst ls u (a + 1 + (m.length + 1)) := by
              rw [← hq]
              show w.2 = _
              rw [← rst_drop ls u (a + 1) (m.length + 1), m1]
              rw [show m ++ 34 :: w.2 = (m ++ [34]) ++ w.2 by simp, List.drop_left' (by simp)]
            have hq2l : u - w.2.length = a + 1 + (m.length + 1) := by omega
            obtain ⟨o1, o2⟩ := offR_same (ls := ls) (u := u) (a := a) (e := a + 1 + (m.length + 1)) (q := q) (by omega) (by omega) (by omega) (by omega) (by rw [← hq]; unfold lx_one; rw [if_neg hL, if_neg hD, if_neg hM, if_pos h34, hs]) hq2 (by
              refine ⟨by omega, by omega, fun z => ?_, fun z => ?_, fun _ => ⟨by omega, ?_⟩⟩
              · rw [← hq] at z; simp at z
              · rw [← hq] at z; simp at z
              · have e1 : sli ls (a + 1) (a + 1 + (m.length + 1) - 1) = m := by
                  rw [show a + 1 + (m.length + 1) - 1 = a + 1 + m.length by omega, ← sli_take (u := u) (by omega), m1]
                  simp
                rw [e1, m2, ← hq])
            obtain ⟨j1, j2, j3, j4⟩ := jc_tail (d := d + 6) B ht (a := a) (kd := 3) (e := a + 1 + (m.length + 1)) (v2 := some (.int (nI (ls.getD a 0))))
            have hq1 : q.1.1 = 3 := by rw [← hq]
            refine ⟨_, ls, ?_, o1, by rw [hq1, o2]; exact j2, j3, j4⟩
            rw [← j1]
            simp only at Q
            rw [hq2l] at Q
            have gt : ¬ nI (a + 1 + (m.length + 1)) ≤ nI a := nI_ge (by omega) (by omega)
            rw [q34]
            simp only [g19_95, g19_96, g19_98, g19_101, g19_102, g19_103, g19_106, g19_107, g19_110, g19_111, g19_112, g19_113, g19_114, g19_117, mx_isr_ref, mx_isr_null, mx_wt_nil, mx_wt_1, mx_wt_2, mx_wt_3, Option.bind_some, Option.toList_some, Option.toList_none, List.cons_append, List.nil_append, mx_nl_int, mx_nl_ref, mx_nl_null, mx_nl_none, mx_nb0, mx_nb1, mx_fb0, mx_fb1, mx_cat_int, mx_cat_ref, if_true, if_false, not_true_eq_false, not_false_eq_true, mx_wt_4, mx_w4_0, mx_w9_0, mx_w9_1, mx_kn_int, mx_kn_ref, mx_kn_null, Nat.reduceLT, ofn, n10, t4, Q, gt]
            rfl
          | none =>
            rw [hs] at Q hq
            have hq1 : q = ((4, []), rst ls u (a + 1)) := hq.symm
            obtain ⟨o1, o2⟩ := offR_same (ls := ls) (u := u) (a := a) (e := a + 1) (q := q) (by omega) (by omega) (by omega) (by omega) (by rw [← hq]; unfold lx_one; rw [if_neg hL, if_neg hD, if_neg hM, if_pos h34, hs]) (by rw [hq1]) (by
              rw [hq1]
              exact ⟨by omega, by omega, fun z => by simp at z, fun z => by simp at z, fun z => by simp at z⟩)
            obtain ⟨j1, j2, j3, j4⟩ := jc_tail (d := d + 6) B ht (a := a) (kd := 4) (e := a + 1) (v2 := some (.int (nI (ls.getD a 0))))
            refine ⟨_, ls, ?_, o1, by rw [show q.1.1 = 4 by rw [hq1], o2]; exact j2, j3, j4⟩
            rw [← j1]
            simp only at Q
            have le : nI a ≤ nI a := nI_le (Nat.le_refl _) (by omega)
            rw [q34, h34, if_neg (by decide)]
            simp only [g19_95, g19_96, g19_98, g19_101, g19_102, g19_103, g19_106, g19_107, mx_isr_ref, mx_isr_null, mx_wt_nil, mx_wt_1, mx_wt_2, mx_wt_3, Option.bind_some, Option.toList_some, Option.toList_none, List.cons_append, List.nil_append, mx_nl_int, mx_nl_ref, mx_nl_null, mx_nl_none, mx_nb0, mx_nb1, mx_fb0, mx_fb1, mx_cat_int, mx_cat_ref, if_true, if_false, not_true_eq_false, not_false_eq_true, mx_wt_4, mx_w4_0, mx_w9_0, mx_w9_1, mx_kn_int, mx_kn_ref, mx_kn_null, Nat.reduceLT, ofn, n10, t4, Q, le]
        · rw [if_neg h34] at hq
          have q34 : ¬ nI (ls.getD a 0) = 34 := fun z => h34 ((nI_eq (b := 34) (by omega) (by decide)).mp z)
          have hq1 : q = ((if isSig (ls.getD a 0) = true then ls.getD a 0 else 4, []), rst ls u (a + 1)) := by rw [← hq]; split <;> rfl
          have hk : ∀ x, isSig x = true → x ≠ 1 ∧ x ≠ 2 ∧ x ≠ 3 := by
            intro x hx
            refine ⟨?_, ?_, ?_⟩ <;> (rintro rfl; exact absurd hx (by decide))
          have hk2 : (if isSig (ls.getD a 0) = true then ls.getD a 0 else 4) ≠ 1 ∧ (if isSig (ls.getD a 0) = true then ls.getD a 0 else 4) ≠ 2 ∧ (if isSig (ls.getD a 0) = true then ls.getD a 0 else 4) ≠ 3 := by
            split
            · rename_i z; exact hk _ z
            · decide
          obtain ⟨o1, o2⟩ := offR_same (ls := ls) (u := u) (a := a) (e := a + 1) (q := q) (by omega) (by omega) (by omega) (by omega) (by rw [← hq]; unfold lx_one; rw [if_neg hL, if_neg hD, if_neg hM, if_neg h34]) (by rw [hq1]) (by
            rw [hq1]
            exact ⟨by omega, by omega, fun z => absurd z hk2.1, fun z => absurd z hk2.2.1, fun z => absurd z hk2.2.2⟩)
          obtain ⟨j1, j2, j3, j4⟩ := jc_tail (d := d + 6) B ht (a := a) (kd := if isSig (ls.getD a 0) = true then ls.getD a 0 else 4) (e := a + 1) (v2 := some (.int (nI (ls.getD a 0))))
          refine ⟨_, ls, ?_, o1, by rw [show q.1.1 = (if isSig (ls.getD a 0) = true then ls.getD a 0 else 4) by rw [hq1], o2]; exact j2, j3, j4⟩
          rw [← j1]
          simp only [g19_95, g19_96, g19_98, mx_isr_ref, mx_isr_null, mx_wt_nil, mx_wt_1, mx_wt_2, mx_wt_3, Option.bind_some, Option.toList_some, Option.toList_none, List.cons_append, List.nil_append, mx_nl_int, mx_nl_ref, mx_nl_null, mx_nl_none, mx_nb0, mx_nb1, mx_fb0, mx_fb1, mx_cat_int, mx_cat_ref, if_true, if_false, not_true_eq_false, not_false_eq_true, mx_wt_4, mx_w4_0, mx_w9_0, mx_w9_1, mx_kn_int, mx_kn_ref, mx_kn_null, Nat.reduceLT, ofn, n10, q34]
theorem BF_tok (B : BF h ls u ks ss es t c) (t' : Nat) : BF (mx_up h 64 6 (.int (nI t'))) ls u ks ss es t' c := by
  obtain ⟨b4, b5, b6, b7, b8, r⟩ := B
  exact ⟨by rw [c_up b4]; rfl, by rw [c_upn (by decide)]; exact b5, by rw [c_upn (by decide)]; exact b6, by rw [c_upn (by decide)]; exact b7, by rw [c_upn (by decide)]; exact b8, r⟩
theorem BF_cur (B : BF h ls u ks ss es t c) (c' : Nat) : BF (mx_up h 64 7 (.int (nI c'))) ls u ks ss es t c' := by
  obtain ⟨b4, b5, b6, b7, b8, r⟩ := B
  exact ⟨by rw [c_up b4]; rfl, by rw [c_upn (by decide)]; exact b5, by rw [c_upn (by decide)]; exact b6, by rw [c_upn (by decide)]; exact b7, by rw [c_upn (by decide)]; exact b8, r⟩
theorem BF_knd (B : BF h ls u ks ss es t c) (i k : Nat) : BF (mx_up h 66 i (.int (nI k))) ls u (ks.set i k) ss es t c := by
  obtain ⟨b4, b5, b6, b7, b8, l5, l6, r⟩ := B
  exact ⟨by rw [c_upn (by decide)]; exact b4, by rw [c_upn (by decide)]; exact b5, by rw [c_up b6, bs_set], by rw [c_upn (by decide)]; exact b7, by rw [c_upn (by decide)]; exact b8, l5, by rw [List.length_set]; exact l6, r⟩
end
theorem lx_fuel : ∀ (n m : Nat) (l : List Nat), l.length ≤ n → l.length ≤ m → lx n l = lx m l := by
  intro n
  induction n with
  | zero =>
    intro m l h1 h2
    have : l = [] := List.eq_nil_of_length_eq_zero (by omega)
    subst this
    cases m <;> rfl
  | succ n ih =>
    intro m l h1 h2
    cases l with
    | nil => cases m <;> rfl
    | cons c r =>
      rw [List.length_cons] at h1 h2
      cases m with
      | zero => omega
      | succ m =>
        rw [lx, lx]
        have := lx_one_len (c := c) (r := r)
        by_cases h32 : c = 32
        · rw [if_pos h32, if_pos h32, ih m r (by omega) (by omega)]
        · rw [if_neg h32, if_neg h32, ih m _ (by omega) (by omega)]
theorem lx_sp : ∀ (l : List Nat), lx l.length l = lx (l.drop (l.takeWhile fun c => c == 32).length).length (l.drop (l.takeWhile fun c => c == 32).length) := by
  intro l
  induction l with
  | nil => rfl
  | cons c r ih =>
    by_cases h32 : c = 32
    · subst h32
      rw [List.takeWhile_cons_of_pos (by rfl), List.length_cons, List.length_cons, List.drop_succ_cons, lx, if_pos rfl]
      exact ih
    · rw [List.takeWhile_cons_of_neg (by simpa using h32)]
      rfl
/-- the tokens stand in the rows -/
def tsR (ls ks ss es : List Nat) (ts : List tk) : Prop := ∀ i, i < ts.length → ks.getD i 0 = (tA ts i).1 ∧ tkR ls (ss.getD i 0) (es.getD i 0) (tA ts i)
theorem gd_set_ne {l : List Nat} {i j x : Nat} (h : i ≠ j) : (l.set i x).getD j 0 = l.getD j 0 := by simp [List.getD_eq_getElem?_getD, List.getElem?_set_ne h]
theorem gd_set_eq {l : List Nat} {i x : Nat} (h : i < l.length) : (l.set i x).getD i 0 = x := by simp [List.getD_eq_getElem?_getD, h]
theorem tkR_eq {ls ls' : List Nat} (hl : ls'.length = ls.length) (h120 : ls.length = 120) {a b : Nat} {q : tk} (h : ∀ k, k < b → ls'.getD k 0 = ls.getD k 0) (T : tkR ls a b q) : tkR ls' a b q := by
  obtain ⟨t1, t2, t3, t4, t5⟩ := T
  have e1 : sli ls' a b = sli ls a b := sli_eq hl (by omega) (fun k _ hk => h k hk)
  refine ⟨t1, t2, fun z => by rw [e1]; exact t3 z, fun z => by rw [e1]; exact t4 z, fun z => ?_⟩
  have e2 : sli ls' (a + 1) (b - 1) = sli ls (a + 1) (b - 1) := sli_eq hl (by omega) (fun k _ hk => h k (by omega))
  rw [e2]
  exact t5 z
theorem jc_splitL {d u c : Nat} : ∀ n (ts : List tk) (a : Nat) (ls ks ss es : List Nat) (h : mx_H), u - a ≤ n → a ≤ u → ts.length ≤ a → KS h → BF h ls u ks ss es ts.length c → (∀ k, a ≤ k → k < u → ls.getD k 0 = 10 ∨ 32 ≤ ls.getD k 0) → (a < u → ls.getD a 0 ≠ 32) → tsR ls ks ss es ts → (∀ i, i < ts.length → es.getD i 0 ≤ a) →
    ∃ h' ls' ks' ss' es', mx_G (d + 7) 17 16 [some (.ref 64), some (.int (nI a))] [] h = some (none, h') ∧ BF h' ls' u ks' ss' es' (ts ++ lx (u - a) (rst ls u a)).length c ∧ tsR ls' ks' ss' es' (ts ++ lx (u - a) (rst ls u a)) ∧ ks'.getD (ts ++ lx (u - a) (rst ls u a)).length 0 = 0 ∧ (ts ++ lx (u - a) (rst ls u a)).length ≤ 120 ∧ Fr [64, 65, 66, 67, 68] h h' ∧ mw h' = mw h := by
  have hend : ∀ (ts : List tk) (a : Nat) (ls ks ss es : List Nat) (h : mx_H), u ≤ a → ts.length ≤ a → a ≤ u → BF h ls u ks ss es ts.length c → tsR ls ks ss es ts →
      ∃ h' ls' ks' ss' es', mx_G (d + 7) 17 16 [some (.ref 64), some (.int (nI a))] [] h = some (none, h') ∧ BF h' ls' u ks' ss' es' (ts ++ lx (u - a) (rst ls u a)).length c ∧ tsR ls' ks' ss' es' (ts ++ lx (u - a) (rst ls u a)) ∧ ks'.getD (ts ++ lx (u - a) (rst ls u a)).length 0 = 0 ∧ (ts ++ lx (u - a) (rst ls u a)).length ≤ 120 ∧ Fr [64, 65, 66, 67, 68] h h' ∧ mw h' = mw h := by
    intro ts a ls ks ss es h hua hta hau B R
    obtain ⟨t4, l4, e0, e1, e2, e3, e4, e5, e6, e7, t5, l5, x5, t6, l6, x6, t7, l7, x7, t8, l8, x8⟩ := BF_f B
    have hu := B.2.2.2.2.2.2.2.2.2.1
    have hl6 := B.2.2.2.2.2.2.1
    rw [rst_nil hua, show u - a = 0 by omega, show lx 0 [] = [] from rfl, List.append_nil]
    refine ⟨mx_up h 66 ts.length (.int (nI 0)), ls, ks.set ts.length 0, ss, es, ?_, BF_knd B _ _, fun i hi => ?_, gd_set_eq (by omega), by omega, Fr.up (by simp), mw_up _ _ _ _⟩
    · have q1 : nI u ≤ nI a := nI_le hua (by omega)
      by_cases q2 : (120 : Int32) ≤ nI ts.length
      · simp only [g17_16, g17_17, g17_20, g17_22, g17_25, g17_26, g17_27, g17_30, g17_33, g17_34, g17_35, g17_38, g17_39, g17_40, g17_43, g17_44, g17_47, g17_48, g17_51, g17_52, g17_53, g17_54, g17_57, g17_58, g17_59, g17_62, g17_65, g17_66, g17_69, g17_70, g17_73, g17_74, g17_75, mx_isr_ref, mx_isr_null, mx_wt_nil, mx_wt_1, mx_wt_2, mx_wt_3, Option.bind_some, Option.toList_some, Option.toList_none, List.cons_append, List.nil_append, mx_nl_int, mx_nl_ref, mx_nl_null, mx_nl_none, mx_nb0, mx_nb1, mx_fb0, mx_fb1, mx_cat_int, mx_cat_ref, if_true, if_false, not_true_eq_false, not_false_eq_true, mx_wt_4, mx_w4_0, mx_w9_0, mx_w9_1, mx_kn_int, mx_kn_ref, mx_kn_null, Nat.reduceLT, ofn, n10, t4, l4, e6, q2, e1, t6, l6, nI_pos' (show ts.length < 2 ^ 31 by omega), nI_clamp (show ts.length < 2 ^ 31 by omega), show ts.length < 121 by omega, show mt_nO ≤ 66 by decide]
        rfl
      · simp only [g17_16, g17_17, g17_20, g17_22, g17_25, g17_26, g17_27, g17_30, g17_65, g17_66, g17_69, g17_70, g17_73, g17_74, g17_75, mx_isr_ref, mx_isr_null, mx_wt_nil, mx_wt_1, mx_wt_2, mx_wt_3, Option.bind_some, Option.toList_some, Option.toList_none, List.cons_append, List.nil_append, mx_nl_int, mx_nl_ref, mx_nl_null, mx_nl_none, mx_nb0, mx_nb1, mx_fb0, mx_fb1, mx_cat_int, mx_cat_ref, if_true, if_false, not_true_eq_false, not_false_eq_true, mx_wt_4, mx_w4_0, mx_w9_0, mx_w9_1, mx_kn_int, mx_kn_ref, mx_kn_null, Nat.reduceLT, ofn, n10, t4, l4, e6, e5, q1, q2, e1, t6, l6, nI_pos' (show ts.length < 2 ^ 31 by omega), nI_clamp (show ts.length < 2 ^ 31 by omega), show ts.length < 121 by omega, show mt_nO ≤ 66 by decide]
        rfl
    · rw [gd_set_ne (by omega)]
      exact R i hi
  intro n
  induction n with
  | zero =>
    intro ts a ls ks ss es h hn hau hta K B hA h32 R hE
    exact hend ts a ls ks ss es h (by omega) hta hau B R
  | succ n ih =>
    intro ts a ls ks ss es h hn hau hta K B hA h32 R hE
    by_cases hua : u ≤ a
    · exact hend ts a ls ks ss es h hua hta hau B R
    · have ha : a < u := by omega
      obtain ⟨t4, l4, e0, e1, e2, e3, e4, e5, e6, e7, t5, l5, x5, t6, l6, x6, t7, l7, x7, t8, l8, x8⟩ := BF_f B
      have hu := B.2.2.2.2.2.2.2.2.2.1
      have hl5 := B.2.2.2.2.2.1
      have hl6 := B.2.2.2.2.2.2.1
      have hl7 := B.2.2.2.2.2.2.2.1
      have hl8 := B.2.2.2.2.2.2.2.2.1
      obtain ⟨h1, ls1, g1, O1, B1, F1, W1⟩ := jc_off (d := d) K B hA (by omega) ha
      have hr := rst_cons (ls := ls) (u := u) (k := a) ha (by omega)
      have hlen := lx_one_len (c := ls.getD a 0) (r := rst ls u (a + 1))
      rw [rst_len (by omega)] at hlen
      unfold offR at O1
      have hlx : lx (u - a) (rst ls u a) = (lx_one (ls.getD a 0) (rst ls u (a + 1))).1 :: lx (u - a - 1) (lx_one (ls.getD a 0) (rst ls u (a + 1))).2 := by
        rw [hr, show u - a = (u - a - 1) + 1 by omega, lx, if_neg (h32 ha)]
        rfl
      generalize hq : lx_one (ls.getD a 0) (rst ls u (a + 1)) = q at *
      obtain ⟨o1, o2, o3, o4, o5⟩ := O1
      generalize he : u - q.2.length = e at *
      have ha' : a < e := o3.1
      have heu : e ≤ u := by omega
      have S := jc_skip (d := d + 6) B1 (k := e) heu
      generalize hsp : ((rst ls1 u e).takeWhile fun c => c == 32).length = w at *
      have hw : w ≤ u - e := by
        rw [← hsp]
        refine Nat.le_trans (tw_len _ _) ?_
        rw [rst_len (by omega)]
        exact Nat.le_refl _
      have B2 := BF_tok B1 (ts.length + 1)
      have K2 : KS (mx_up h1 64 6 (.int (nI (ts.length + 1)))) := (K.fr F1 (by decide)).fr (Fr.up (F := [64]) (by simp)) (by decide)
      have hlx2 : lx (u - a) (rst ls u a) = q.1 :: lx (u - (e + w)) (rst ls1 u (e + w)) := by
        rw [hlx]
        congr 1
        rw [← o4, lx_fuel _ (rst ls1 u e).length _ (by rw [rst_len (by omega)]; omega) (Nat.le_refl _), lx_sp, hsp, rst_drop, rst_len (by omega)]
      have R2 : tsR ls1 (ks.set ts.length q.1.1) (ss.set ts.length a) (es.set ts.length e) (ts ++ [q.1]) := by
        intro i hi
        rw [List.length_append, List.length_singleton] at hi
        by_cases hi2 : i = ts.length
        · subst hi2
          rw [gd_set_eq (by omega), gd_set_eq (by omega), gd_set_eq (by omega)]
          have : tA (ts ++ [q.1]) ts.length = q.1 := by simp [tA, List.getD_eq_getElem?_getD]
          rw [this]
          exact ⟨rfl, o3⟩
        · rw [gd_set_ne (Ne.symm hi2), gd_set_ne (Ne.symm hi2), gd_set_ne (Ne.symm hi2)]
          have hi3 : i < ts.length := by omega
          have : tA (ts ++ [q.1]) i = tA ts i := by simp [tA, List.getD_eq_getElem?_getD, List.getElem?_append_left hi3]
          rw [this]
          exact ⟨(R i hi3).1, tkR_eq o1 hl5 (fun k hk => o2 k (by have := hE i hi3; omega)) (R i hi3).2⟩
      obtain ⟨h', ls', ks', ss', es', i1, i2, i3, i4, i5, i6, i7⟩ := ih (ts ++ [q.1]) (e + w) ls1 _ _ _ _ (by omega) (by omega) (by simp; omega) K2 (by rw [List.length_append]; exact B2) (fun k hk1 hk2 => by rw [o5 k (by omega)]; exact hA k (by omega) hk2) (fun hlt => by
          intro z
          have hr1 := rst_drop ls1 u e w
          rw [rst_cons hlt (by omega)] at hr1
          have hd := takeWhile_drop (fun c => c == 32) (rst ls1 u e)
          rw [hsp, hr1] at hd
          have := List.head?_dropWhile_not (p := fun c => c == 32) (l := rst ls1 u e)
          rw [hd] at this
          rw [List.head?_cons] at this
          simp only [z] at this
          exact absurd this (by decide)) R2 (fun i hi => by
          rw [List.length_append, List.length_singleton] at hi
          by_cases hi2 : i = ts.length
          · subst hi2
            rw [gd_set_eq (by omega)]
            omega
          · rw [gd_set_ne (Ne.symm hi2)]
            have := hE i (by omega)
            omega)
      rw [hlx2]
      have hap : ts ++ q.1 :: lx (u - (e + w)) (rst ls1 u (e + w)) = ts ++ [q.1] ++ lx (u - (e + w)) (rst ls1 u (e + w)) := by simp
      rw [hap]
      refine ⟨h', ls', ks', ss', es', ?_, i2, i3, i4, i5, ((F1.mono (fun x hx => by simp only [List.mem_cons] at hx ⊢; exact Or.inr hx)).trans (Fr.up (F := [64, 65, 66, 67, 68]) (by simp)) (fun x hx => Or.inl hx)).trans i6 (fun x hx => Or.inl hx), by rw [i7, mw_up, W1]⟩
      obtain ⟨t4', l4', e0', e1', e2', e3', e4', e5', e6', e7', t5', l5', x5', t6', l6', x6', t7', l7', x7', t8', l8', x8'⟩ := BF_f B1
      have q1 : ¬ nI u ≤ nI a := nI_ge ha (by omega)
      have q2 : ¬ (120 : Int32) ≤ nI ts.length := nI_ge (b := 120) (by omega) (by decide)
      have x8e := x8' ts.length (by omega)
      rw [gd_set_eq (by omega)] at x8e
      rw [g17_16 mx_isr_ref]
      simp only [g17_17, g17_20, g17_22, g17_25, g17_26, g17_27, g17_30, g17_33, g17_34, g17_35, g17_38, g17_39, g17_40, g17_43, g17_44, g17_47, g17_48, g17_51, g17_52, g17_53, g17_54, g17_57, g17_58, g17_59, g17_62, mx_isr_ref, mx_isr_null, mx_wt_nil, mx_wt_1, mx_wt_2, mx_wt_3, Option.bind_some, Option.toList_some, Option.toList_none, List.cons_append, List.nil_append, mx_nl_int, mx_nl_ref, mx_nl_null, mx_nl_none, mx_nb0, mx_nb1, mx_fb0, mx_fb1, mx_cat_int, mx_cat_ref, if_true, if_false, not_true_eq_false, not_false_eq_true, mx_wt_4, mx_w4_0, mx_w9_0, mx_w9_1, mx_kn_int, mx_kn_ref, mx_kn_null, Nat.reduceLT, ofn, n10, t4, l4, e5, e6, q1, q2, g1, t4', l4', e3', e6', t8', l8', nI_pos' (show ts.length < 2 ^ 31 by omega), nI_clamp (show ts.length < 2 ^ 31 by omega), show ts.length < 121 by omega, x8e, S, nI_1, show mt_nO ≤ 64 by decide]
      exact i1
/-- split -/
theorem jc_split {d u c t : Nat} {h : mx_H} {ls ks ss es : List Nat} (K : KS h) (B : BF h ls u ks ss es t c) (hA : ∀ k, k < u → ls.getD k 0 = 10 ∨ 32 ≤ ls.getD k 0) :
    ∃ h' ls' ks' ss' es', mx_G (d + 8) 17 0 [some (.ref 64), none] [] h = some (none, h') ∧ BF h' ls' u ks' ss' es' (lx u (ls.take u)).length 0 ∧ tsR ls' ks' ss' es' (lx u (ls.take u)) ∧ ks'.getD (lx u (ls.take u)).length 0 = 0 ∧ (lx u (ls.take u)).length ≤ 120 ∧ Fr [64, 65, 66, 67, 68] h h' ∧ mw h' = mw h := by
  have hu := B.2.2.2.2.2.2.2.2.2.1
  have hl5 := B.2.2.2.2.2.1
  have B0 := BF_cur B 0
  have S := jc_skip (d := d + 7) B0 (k := 0) (Nat.zero_le _)
  rw [Nat.zero_add] at S
  generalize hsp : ((rst ls u 0).takeWhile fun c => c == 32).length = w at *
  have hr0 : rst ls u 0 = ls.take u := rfl
  have hw : w ≤ u := by
    rw [← hsp]
    refine Nat.le_trans (tw_len _ _) ?_
    rw [rst_len (by omega)]
    omega
  have B1 := BF_tok B0 0
  have K1 : KS (mx_up (mx_up h 64 7 (.int (nI 0))) 64 6 (.int (nI 0))) := (K.fr (Fr.up (F := [64]) (by simp)) (by decide)).fr (Fr.up (F := [64]) (by simp)) (by decide)
  have hlx : lx u (ls.take u) = lx (u - w) (rst ls u w) := by
    have e1 : (ls.take u).length = u := by rw [List.length_take]; omega
    have := lx_sp (ls.take u)
    rw [e1, ← hr0, hsp, rst_drop, rst_len (by omega), Nat.zero_add] at this
    rw [← hr0]
    exact this
  obtain ⟨h', ls', ks', ss', es', i1, i2, i3, i4, i5, i6, i7⟩ := jc_splitL (d := d + 1) (u := u) (c := 0) u [] w ls ks ss es _ (by omega) hw (Nat.zero_le _) K1 B1 (fun k _ hk => hA k hk) (fun hlt => by
      intro z
      have hr1 := rst_drop ls u 0 w
      rw [Nat.zero_add, rst_cons hlt (by omega)] at hr1
      have hd := takeWhile_drop (fun c => c == 32) (rst ls u 0)
      rw [hsp, hr1] at hd
      have := List.head?_dropWhile_not (p := fun c => c == 32) (l := rst ls u 0)
      rw [hd] at this
      rw [List.head?_cons] at this
      simp only [z] at this
      exact absurd this (by decide)) (fun i hi => absurd hi (by simp)) (fun i hi => absurd hi (by simp))
  rw [List.nil_append, ← hlx] at i2 i3 i4 i5
  refine ⟨h', ls', ks', ss', es', ?_, i2, i3, i4, i5, ((Fr.up (F := [64, 65, 66, 67, 68]) (by simp)).trans (Fr.up (F := [64, 65, 66, 67, 68]) (by simp)) (fun x hx => Or.inl hx)).trans i6 (fun x hx => Or.inl hx), by rw [i7, mw_up, mw_up]⟩
  obtain ⟨t4, l4, -⟩ := BF_f B
  rw [nI_0] at S i1
  simp only [g17_0, g17_1, g17_2, g17_5, g17_6, g17_7, g17_10, g17_11, g17_12, g17_13, mx_isr_ref, mx_isr_null, mx_wt_nil, mx_wt_1, mx_wt_2, mx_wt_3, Option.bind_some, Option.toList_some, Option.toList_none, List.cons_append, List.nil_append, mx_nl_int, mx_nl_ref, mx_nl_null, mx_nl_none, mx_nb0, mx_nb1, mx_fb0, mx_fb1, mx_cat_int, mx_cat_ref, if_true, if_false, not_true_eq_false, not_false_eq_true, mx_wt_4, mx_w4_0, mx_w9_0, mx_w9_1, mx_kn_int, mx_kn_ref, mx_kn_null, Nat.reduceLT, ofn, n10, t4, l4, mx_tag_up, S, show mt_nO ≤ 64 by decide]
  exact i1
