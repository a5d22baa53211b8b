/-! StringBuilder: append of a text, charAt. -/
section
variable {d : Nat} {h : mx_H} {p x n s b : Nat} {us cs : List Nat}
theorem jb_appS (S : SB h p x n us) (T : sB h s b cs) (hbx : b ≠ x) (hn : n + cs.length ≤ 450) :
    ∃ (h' : mx_H) (x' : Nat) (us' : List Nat), mx_G (d + 5) 216 0 [some (.ref p), some (.ref s)] [] h = some (some (.ref p), h') ∧ SB h' p x' (n + cs.length) us' ∧ us'.take (n + cs.length) = us.take n ++ cs ∧ SBx h p x us h' x' us' := by
  obtain ⟨h1, x1, u1, g1, S1, t1, l1, X1⟩ := jb_ens (d := d) S (k := n + cs.length) hn
  obtain ⟨f1, f2, f3, f4, f5, f6, f7, f8, f9, f10⟩ := SB_f S
  obtain ⟨k1, k2, k3, k4, k5, k6, k7, k8, k9, k10⟩ := SB_f S1
  obtain ⟨⟨m, ep⟩, ex, hu, hn1, h1000, hx63, hp63⟩ := S1
  -- the text is still there
  have bl := ce_l T.2.1
  have sl : s < h.length := by obtain ⟨⟨v2, v3, e⟩, -⟩ := T; exact ce_l e
  have T1 : sB h1 s b cs := by
    obtain ⟨⟨v2, v3, e1⟩, e2, e3⟩ := T
    have nb_ : b ∉ [p, x] := by
      simp only [List.mem_cons, List.not_mem_nil, or_false]
      rintro (z | z)
      · rw [z] at e2; rw [ce_t e2] at f1; cases f1
      · exact hbx z
    have ns : s ∉ [p, x] := by
      simp only [List.mem_cons, List.not_mem_nil, or_false]
      rintro (z | z)
      · rw [z] at e1; rw [ce_t e1] at f1; cases f1
      · rw [z] at e1; rw [ce_t e1] at f6; cases f6
    exact ⟨⟨v2, v3, X1.1.at e1 ns⟩, X1.1.at e2 nb_, e3⟩
  obtain ⟨y1, y2, y3, y4, y5, y6, y7⟩ := sB_f T
  obtain ⟨w1, w2, w3, w4, w5, w6, w7⟩ := sB_f T1
  have hcl := T.2.2.2.1
  have hb1 : b ≠ x1 := by
    rcases X1.2.1 with z | z
    · rw [z]; exact hbx
    · omega
  have hcA := cA_bs T1.2.1 T1.2.2.1 (sp := 0) (n := cs.length) (by omega)
  have hcl1 := ce_n T1.2.1
  have k222 : mx_G (d + 2) 222 0 [some (.ref s), some (.ref x1), some (.int (nI n)), some (.int 0)] [] h1 = some (none, mx_cp h1 b 0 x1 n cs.length) := by
    simp only [g222_0, g222_1, g222_4, g222_5, g222_8, g222_9, g222_12, g222_13, g222_14, g222_15, g222_16, g222_17, g222_18, g222_21, g222_21c, g222_21i, g222_21q, g222_22, g222_25, g222_28, g222_29, g222_32, g222_33, g222_34, g222_35, g222_36, g222_39, g222_39c, g222_39i, g222_39q, g222_40, g222_43, mx_isr_ref, mx_isr_null, mx_wt_nil, mx_wt_1, mx_wt_2, mx_wt_3, Option.bind_some, Option.toList_some, Option.toList_none, List.cons_append, List.nil_append, mx_nl_int, mx_nl_ref, mx_nl_null, mx_nl_none, mx_nb0, mx_nb1, mx_fb0, mx_fb1, mx_cat_int, mx_cat_ref, if_true, if_false, not_true_eq_false, not_false_eq_true, mx_wt_4, mx_w4_0, mx_w9_0, mx_w9_1, mx_kn_int, mx_kn_ref, mx_kn_null, Nat.reduceLT, ofn, n10, w1, w2, w3, js_coder T1, shl0, w5, w6, k6, k7, k8, show (0 : Int32) ≤ 0 by decide, show (0 : Int32).toNatClampNeg = 0 by decide, nI_pos' (show n < 2 ^ 31 by omega), nI_clamp (show n < 2 ^ 31 by omega), nI_pos' (show cs.length < 2 ^ 31 by omega), nI_clamp (show cs.length < 2 ^ 31 by omega), Nat.zero_add, Nat.le_refl, l1, hcA]
  have k221 : mx_G (d + 2) 221 0 [some (.ref p), some (.ref s)] [] h1 = some (none, h1) := by
    simp only [g221_0, g221_3, g221_6, g221_7, g221_10, g221_11, g221_14, g221_17, g221_18, g221_21, mx_isr_ref, mx_isr_null, mx_wt_nil, mx_wt_1, mx_wt_2, mx_wt_3, Option.bind_some, Option.toList_some, Option.toList_none, List.cons_append, List.nil_append, mx_nl_int, mx_nl_ref, mx_nl_null, mx_nl_none, mx_nb0, mx_nb1, mx_fb0, mx_fb1, mx_cat_int, mx_cat_ref, if_true, if_false, not_true_eq_false, not_false_eq_true, mx_wt_4, mx_w4_0, mx_w9_0, mx_w9_1, mx_kn_int, mx_kn_ref, mx_kn_null, Nat.reduceLT, ofn, n10, k1, k2, k4, w1, js_coder T1]
  have k220 : mx_G (d + 3) 220 0 [some (.ref p), some (.int (nI n)), some (.ref s)] [] h1 = some (none, mx_cp h1 b 0 x1 n cs.length) := by
    simp only [g220_0, g220_1, g220_2, g220_5, g220_6, g220_7, g220_10, g220_11, g220_12, g220_15, g220_18, mx_isr_ref, mx_isr_null, mx_wt_nil, mx_wt_1, mx_wt_2, mx_wt_3, Option.bind_some, Option.toList_some, Option.toList_none, List.cons_append, List.nil_append, mx_nl_int, mx_nl_ref, mx_nl_null, mx_nl_none, mx_nb0, mx_nb1, mx_fb0, mx_fb1, mx_cat_int, mx_cat_ref, if_true, if_false, not_true_eq_false, not_false_eq_true, mx_wt_4, mx_w4_0, mx_w9_0, mx_w9_1, mx_kn_int, mx_kn_ref, mx_kn_null, Nat.reduceLT, ofn, n10, k1, k2, k3, k4, k221, w1, k222]
  have ep2 : (mx_cp h1 b 0 x1 n cs.length)[p]? = some (.inl 2, [.ref x1, .int 0, .int m, .int (nI n)]) := by rw [c_cpn (Ne.symm k10)]; exact ep
  have k217 : mx_G (d + 4) 217 0 [some (.ref p), some (.ref s), none] [] h = some (some (.ref p), mx_up (mx_cp h1 b 0 x1 n cs.length) p 3 (.int (nI (n + cs.length)))) := by
    have z3 : mx_el (mx_cp h1 b 0 x1 n cs.length) p 3 = .int (nI n) := by rw [ce_e ep2]; rfl
    have zl : mx_ln (mx_cp h1 b 0 x1 n cs.length) p = 4 := by rw [ce_n ep2]; rfl
    simp only [g217_0, g217_1, g217_1n, g217_4, g217_5, g217_8, g217_9, g217_10, g217_13, g217_14, g217_15, g217_16, g217_19, g217_20, g217_21, g217_24, g217_25, g217_26, g217_29, g217_30, g217_33, g217_34, g217_35, g217_38, g217_39, g217_40, g217_43, g217_44, mx_isr_ref, mx_isr_null, mx_wt_nil, mx_wt_1, mx_wt_2, mx_wt_3, Option.bind_some, Option.toList_some, Option.toList_none, List.cons_append, List.nil_append, mx_nl_int, mx_nl_ref, mx_nl_null, mx_nl_none, mx_nb0, mx_nb1, mx_fb0, mx_fb1, mx_cat_int, mx_cat_ref, if_true, if_false, not_true_eq_false, not_false_eq_true, mx_wt_4, mx_w4_0, mx_w9_0, mx_w9_1, mx_kn_int, mx_kn_ref, mx_kn_null, Nat.reduceLT, ofn, n10, y1, js_len T, f1, f2, f5, nI_add, g1, k1, k2, k5, k220, ce_t ep2, zl, z3, k9]
  refine ⟨mx_up (mx_cp h1 b 0 x1 n cs.length) p 3 (.int (nI (n + cs.length))), x1, u1.take n ++ cs ++ u1.drop (n + cs.length), ?_, ⟨⟨m, by rw [c_up ep2]; rfl⟩, ?_, ?_, ?_, ?_, hx63, hp63.1, ?_⟩, ?_, ?_⟩
  · simp only [g216_0, g216_1, g216_2, g216_5, g216_6, g216_7, mx_isr_ref, mx_isr_null, mx_wt_nil, mx_wt_1, mx_wt_2, mx_wt_3, Option.bind_some, Option.toList_some, Option.toList_none, List.cons_append, List.nil_append, mx_nl_int, mx_nl_ref, mx_nl_null, mx_nl_none, mx_nb0, mx_nb1, mx_fb0, mx_fb1, mx_cat_int, mx_cat_ref, if_true, if_false, not_true_eq_false, not_false_eq_true, mx_wt_4, mx_w4_0, mx_w9_0, mx_w9_1, mx_kn_int, mx_kn_ref, mx_kn_null, Nat.reduceLT, ofn, n10, f1, k217]
  · rw [c_upn k10, c_cp T1.2.1 ex, bs_cpy (by omega) l1]
    simp
  · intro c hc
    rcases List.mem_append.mp hc with z | z
    · rcases List.mem_append.mp z with y | y
      · exact hu c (List.mem_of_mem_take y)
      · exact T.2.2.1 c y
    · exact hu c (List.mem_of_mem_drop z)
  · simp; omega
  · simp; omega
  · simp; omega
  · rw [← t1, List.take_append_of_le_length (by simp; omega), List.take_of_length_le (by simp; omega)]
  · refine X1.trans ⟨(Fr.cp (F := [p, x1]) (by simp)).trans (Fr.up (F := [p, x1]) (by simp)) (fun a ha => Or.inl ha), Or.inl rfl, ?_⟩
    rw [mw_up, mw_cp]
    simp
    omega
theorem jb_char (S : SB h p x n us) {k : Nat} (hk : k < n) : mx_G (d + 3) 234 0 [some (.ref p), some (.int (nI k))] [] h = some (some (.int (nI (us.getD k 0))), h) := by
  obtain ⟨f1, f2, f3, f4, f5, f6, f7, f8, f9, f10⟩ := SB_f S
  obtain ⟨⟨m, ep⟩, ex, hu, hn1, h1000, hx63, hp63⟩ := S
  have c := nI_c (gd_lt hu k)
  have hm := js_min (d := d + 1) (h := h) n us.length (by omega) (by omega)
  rw [show min n us.length = n by omega] at hm
  have k235 : mx_G (d + 2) 235 0 [some (.ref p), some (.int (nI k)), none, none, none] [] h = some (some (.int (nI (us.getD k 0))), h) := by
    simp only [g235_0, g235_1, g235_4, g235_5, g235_6, g235_9, g235_10, g235_11, g235_14, g235_15, g235_15c, g235_15i, g235_15q, g235_16, g235_17, g235_18, g235_21, g235_23, g235_24, g235_26, g235_29, g235_30, g235_33, g235_34, g235_35, g235_35z, g235_36, g235_39, g235_40, g235_41, g235_42, g235_43, g235_44, g235_47, mx_isr_ref, mx_isr_null, mx_wt_nil, mx_wt_1, mx_wt_2, mx_wt_3, Option.bind_some, Option.toList_some, Option.toList_none, List.cons_append, List.nil_append, mx_nl_int, mx_nl_ref, mx_nl_null, mx_nl_none, mx_nb0, mx_nb1, mx_fb0, mx_fb1, mx_cat_int, mx_cat_ref, if_true, if_false, not_true_eq_false, not_false_eq_true, mx_wt_4, mx_w4_0, mx_w9_0, mx_w9_1, mx_kn_int, mx_kn_ref, mx_kn_null, Nat.reduceLT, ofn, n10, f1, f2, f3, f4, f5, f6, f7, sh0, hm, js_sidx hk (show n < 2 ^ 31 by omega), nI_pos' (show k < 2 ^ 31 by omega), nI_clamp (show k < 2 ^ 31 by omega), show k < us.length by omega, ce_e ex, bs_get us k (by omega), c.1, c.2.2.2.2.1]
  simp only [g234_0, g234_1, g234_2, g234_5, mx_isr_ref, mx_isr_null, mx_wt_nil, mx_wt_1, mx_wt_2, mx_wt_3, Option.bind_some, Option.toList_some, Option.toList_none, List.cons_append, List.nil_append, mx_nl_int, mx_nl_ref, mx_nl_null, mx_nl_none, mx_nb0, mx_nb1, mx_fb0, mx_fb1, mx_cat_int, mx_cat_ref, if_true, if_false, not_true_eq_false, not_false_eq_true, mx_wt_4, mx_w4_0, mx_w9_0, mx_w9_1, mx_kn_int, mx_kn_ref, mx_kn_null, Nat.reduceLT, ofn, n10, f1, k235, c.2.2.2.2.1]
end
