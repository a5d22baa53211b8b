/-! Filters of the class: comparisons. -/
section
variable {d : Nat} {h : mx_H} {x cp c : Nat} {ts : List tk} {R : List Nat}
/-- a text at the mark, with all the room that it leaves -/
theorem jv_plainT (T : BT h x cp ts c) (r : RB R h) (hsc : sc ts c = 2) : ∃ (h' : mx_H) (x' cp' v : Nat), mx_G (d + 9) 109 0 [some (.ref 64), none] [] h = some (some (.ref v), h') ∧ BT h' x' cp' ts (c + 1) ∧ VP (x' :: R) h' v (pk ts c) ∧ h.length ≤ v ∧ c < ts.length ∧ PX ts h x cp c h' x' cp' (c + 1) (50 + 2 * (tA ts c).2.length) := by
  obtain ⟨f1, f2, f3, f4, f5, f6, f7, f8, f9, f10, f11, f12⟩ := T.kind
  obtain ⟨xl1, xl2, xl3, xl4, K, xl5⟩ := T.xlt
  have c4 : (tA ts c).1 = 3 := by
    unfold sc at hsc
    split at hsc
    · cases hsc
    · split at hsc
      · assumption
      · split at hsc <;> cases hsc
  have c1 : ¬ tW ts c w_true = true := fun z => by
    have := sc_word (Or.inl z); omega
  have c2 : ¬ tW ts c w_false = true := fun z => by
    have := sc_word (Or.inr z); omega
  have K3 : sB h 13 14 w_true := K 3 (by decide)
  obtain ⟨h1, w1, T1, F1, W1⟩ := jt_word (d := d + 4) T K3
  have K4 : sB h1 15 16 w_false := (K.fr F1 (by simp)) 4 (by decide)
  obtain ⟨h2, w2, T2, F2, W2⟩ := jt_word (d := d + 4) T1 K4
  rw [if_neg c1] at w1 T1 w2 T2
  rw [if_neg c2] at w2 T2
  have F12 : Fr [64] h h2 := F1.trans F2 (fun a ha => Or.inl ha)
  have W12 : mw h2 = mw h := by omega
  obtain ⟨g1, -⟩ := T1.kind
  obtain ⟨k1, -⟩ := T2.kind
  have A2 := jt_isAt (d := d + 8) T2 (k := 2) (by decide)
  have A3 := jt_isAt (d := d + 8) T2 (k := 3) (by decide)
  rw [show nI 2 = 2 from rfl] at A2
  rw [show nI 3 = 3 from rfl] at A3
  have lh := F12.1
  generalize hh : h2 ++ [((.inl 4 : Nat ⊕ FieldType), [Value.int 0, .int 0, .null, .null])] = g
  have e : g[h2.length]? = some (.inl 4, [.int 0, .int 0, .null, .null]) := by rw [← hh, c_app]
  have Fg : Fr [] h2 g := by rw [← hh]; exact Fr.app _ _ _
  have gl : g.length = h2.length + 1 := by rw [← hh]; simp
  have gw : mw g = mw h2 + 16 := by rw [← hh, mw_app]; rfl
  have Tg := T2.fr Fg (by simp)
  have c3 : ¬ (tA ts c).1 = 2 := by omega
  have i2 : ¬ tI ts c 2 = true := by simpa [tI] using c3
  rw [if_neg i2] at A2
  have i3 : tI ts c 3 = true := by simp [tI, c4]
  have hlt : c < ts.length := tI_ltN (by decide) i3
  rw [if_pos i3] at A3
  obtain ⟨h3, x', cp', s, b, t1, t2, t3, t4, t5, t6, t7, t8⟩ := jt_text (d := d) Tg (Or.inr c4)
  have e3 : h3[h2.length]? = some (.inl 4, [.int 0, .int 0, .null, .null]) := t8.1.at e (by simp; omega)
  obtain ⟨n1, n2, n3⟩ := jv_new h2.length (by omega) e3 (.int 2) (.int 0) (.ref s) .null
  have J := jv_117 (d := d + 7) (h := h3) (v := h2.length) (by omega) (ce_t e3) s
  have T3 := t2.fr n2 (fun a ha => by rw [List.mem_singleton] at ha; rw [ha]; exact ⟨by omega, t2.ne e3 (by simp)⟩)
  obtain ⟨h5, x1, x2, x3, x4⟩ := jt_next (d := d + 8) T3
  rw [show min (c + 1) ts.length = c + 1 by omega] at x2
  have n5 := x3.at n1 (by simp; omega)
  have hx'M : ∀ a, h.length ≤ a → a ≠ x' → fz (x' :: R) a := by
    intro a ha hx
    refine ⟨by omega, fun z => ?_⟩
    rcases List.mem_cons.mp z with z | z
    · exact hx z
    · have := r _ z; omega
  refine ⟨h5, x', cp', h2.length, ?_, x2, ⟨s, ?_, hx'M _ lh (t2.ne e3 (by simp)), b, hx'M _ (by omega) (by omega), hx'M _ (by omega) (by omega), ?_⟩, lh, hlt, ?_⟩
  · simp only [g109_0, g109_1, g109_3, g109_6, g109_9, g109_12, g109_13, g109_14, g109_17, g109_18, g109_19, g109_21, g109_24, g109_27, g109_30, g109_31, g109_32, g109_35, g109_36, g109_37, g109_38, g109_39, g109_40, g109_43, g109_46, g109_49, g109_50, g109_51, g109_54, g109_57, g109_58, g109_61, g109_62, g109_63, g109_66, g109_69, g109_72, g109_73, g109_74, g109_77, g109_80, g109_81, g109_82, g109_85, g109_86, mx_isr_ref, mx_isr_null, mx_wt_nil, mx_wt_1, mx_wt_2, mx_wt_3, Option.bind_some, Option.toList_some, Option.toList_none, List.cons_append, List.nil_append, mx_nl_int, mx_nl_ref, mx_nl_null, mx_nl_none, mx_nb0, mx_nb1, mx_fb0, mx_fb1, mx_cat_int, mx_cat_ref, if_true, if_false, not_true_eq_false, not_false_eq_true, mx_wt_4, mx_w4_0, mx_w9_0, mx_w9_1, mx_kn_int, mx_kn_ref, mx_kn_null, Nat.reduceLT, ofn, n10, f1, w1, g1, w2, k1, A2, A3, hh, (Tg.kind).1, t1, ce_t e3, J, (T3.kind).1, x1]
  · rw [n5]
    unfold pk
    rw [hsc]
    rfl
  · have hp : (pk ts c).2.2 = (tA ts c).2 := by unfold pk; rw [hsc]; rfl
    rw [hp]
    obtain ⟨⟨v2, v3, q1⟩, q2, q3⟩ := t3
    have FF : Fr [64, h2.length] h3 h5 := (n2.mono (by simp)).trans x3 (fun a ha => Or.inl (by simp at ha; simp [ha]))
    exact ⟨⟨v2, v3, FF.at q1 (by simp; omega)⟩, FF.at q2 (by simp; omega), q3⟩
  · have TT := (TX.of64 T F12 W12).trans (k' := 16) (show TX h2 x cp g x cp 16 from ⟨Fg.mono (by simp), Or.inl rfl, by omega, by omega⟩)
    have T4 := TT.trans t8
    have := T4.2.2.2
    refine ⟨(T4.1.trans n2 (fun a ha => by rw [List.mem_singleton] at ha; exact Or.inr (by omega))).trans x3 (fun a ha => Or.inl (by simp at ha; simp [ha])), T4.2.1, Nat.le_succ c, ?_⟩
    rw [Wt_succ hlt, x4, n3]
    omega
/-- making a filter -/
theorem jg_mk {h : mx_H} (hl : 63 ≤ h.length) (k a o : Int32) {v : Value} (hv : mx_isr v = true) : ∃ h', mx_G (d + 1) 165 0 [some (.ref h.length), some (.int k), some (.int a), some (.int o), some v] [] (h ++ [(.inl 10, [.int 0, .int 0, .int 0, .null, .null, .null])]) = some (none, h') ∧ h'[h.length]? = some (.inl 10, [.int k, .int a, .int o, v, .null, .null]) ∧ Fr [] h h' ∧ mw h' = mw h + 18 ∧ h'.length = h.length + 1 := by
  have e := c_app h ((.inl 10 : Nat ⊕ FieldType), [Value.int 0, .int 0, .int 0, .null, .null, .null])
  have hn : mt_nO ≤ h.length := by rw [show mt_nO = 63 by decide]; exact hl
  generalize hh : h ++ [((.inl 10 : Nat ⊕ FieldType), [Value.int 0, .int 0, .int 0, .null, .null, .null])] = g at e ⊢
  refine ⟨mx_up (mx_up (mx_up (mx_up g h.length 0 (.int k)) h.length 1 (.int a)) h.length 2 (.int o)) h.length 3 v, ?_, ?_, ?_, ?_, ?_⟩
  · simp only [g165_0, g165_1, g165_4, g165_5, g165_6, g165_9, g165_10, g165_11, g165_14, g165_15, g165_16, g165_19, g165_20, g165_22, g165_25, mx_isr_ref, mx_isr_null, mx_wt_nil, mx_wt_1, mx_wt_2, mx_wt_3, Option.bind_some, Option.toList_some, Option.toList_none, List.cons_append, List.nil_append, mx_nl_int, mx_nl_ref, mx_nl_null, mx_nl_none, mx_nb0, mx_nb1, mx_fb0, mx_fb1, mx_cat_int, mx_cat_ref, if_true, if_false, not_true_eq_false, not_false_eq_true, mx_wt_4, mx_w4_0, mx_w9_0, mx_w9_1, mx_kn_int, mx_kn_ref, mx_kn_null, Nat.reduceLT, ofn, n10, ce_t e, hn, mx_tag_up, hv]
  · rw [c_up (c_up (c_up (c_up e)))]; rfl
  · have F : Fr [h.length] g (mx_up (mx_up (mx_up (mx_up g h.length 0 (.int k)) h.length 1 (.int a)) h.length 2 (.int o)) h.length 3 v) := (((Fr.up (by simp)).trans (Fr.up (F := [h.length]) (by simp)) (fun a ha => Or.inl ha)).trans (Fr.up (F := [h.length]) (by simp)) (fun a ha => Or.inl ha)).trans (Fr.up (F := [h.length]) (by simp)) (fun a ha => Or.inl ha)
    have Fg : Fr [] h g := by rw [← hh]; exact Fr.app _ _ _
    exact Fg.trans F (fun a ha => by rw [List.mem_singleton] at ha; exact Or.inr (by omega))
  · rw [mw_up, mw_up, mw_up, mw_up, ← hh, mw_app]; rfl
  · rw [mx_len_up, mx_len_up, mx_len_up, mx_len_up, ← hh]; simp
theorem jg_around {h : mx_H} (hl : 63 ≤ h.length) (k : Int32) {v : Value} (hv : mx_isr v = true) : ∃ h', mx_G (d + 2) 164 0 [some (.int k), some v, none] [] h = some (some (.ref h.length), h') ∧ h'[h.length]? = some (.inl 10, [.int k, .int (-1), .int (-1), .null, v, .null]) ∧ Fr [] h h' ∧ mw h' = mw h + 18 ∧ h'.length = h.length + 1 := by
  obtain ⟨h1, a1, a2, a3, a4, a5⟩ := jg_mk (d := d) hl k (-1) (-1) (v := .null) rfl
  have hn : mt_nO ≤ h.length := by rw [show mt_nO = 63 by decide]; exact hl
  have tt : mx_tag (h ++ [((.inl 10 : Nat ⊕ FieldType), [Value.int 0, .int 0, .int 0, .null, .null, .null])]) h.length = some (.inl 10) := by rw [mx_tag_app, if_pos rfl]
  refine ⟨mx_up h1 h.length 4 v, ?_, by rw [c_up a2]; rfl, ?_, by rw [mw_up, a4], by rw [mx_len_up, a5]⟩
  · simp only [g164_0, g164_3, g164_4, g164_5, g164_6, g164_7, g164_8, g164_11, g164_12, g164_13, g164_14, g164_17, g164_18, mx_isr_ref, mx_isr_null, mx_wt_nil, mx_wt_1, mx_wt_2, mx_wt_3, Option.bind_some, Option.toList_some, Option.toList_none, List.cons_append, List.nil_append, mx_nl_int, mx_nl_ref, mx_nl_null, mx_nl_none, mx_nb0, mx_nb1, mx_fb0, mx_fb1, mx_cat_int, mx_cat_ref, if_true, if_false, not_true_eq_false, not_false_eq_true, mx_wt_4, mx_w4_0, mx_w9_0, mx_w9_1, mx_kn_int, mx_kn_ref, mx_kn_null, Nat.reduceLT, ofn, n10, tt, a1, hv, nl_isr hv, ce_t a2, hn]
  · exact a3.trans (Fr.up (F := [h.length]) (by simp)) (fun a ha => by rw [List.mem_singleton] at ha; exact Or.inr (by omega))
theorem jg_adopt {h : mx_H} {a f : Nat} {cs : List Value} {k b o n v nx nf : Value} (ha : 63 ≤ a) (hf : 63 ≤ f) (hv : mx_isr v = true) (ea : h[a]? = some (.inl 10, [k, b, o, n, v, nx])) (ef : h[f]? = some (.inl 10, cs ++ [nf])) : mx_G d 172 0 [some (.ref a), some (.ref f)] [] h = some (none, mx_up (mx_up h f 5 v) a 4 (.ref f)) := by
  obtain ⟨t0, t1, y0, y1, y2, y3, y4, y5⟩ := fc_f ea
  have hn : mt_nO ≤ a := by rw [show mt_nO = 63 by decide]; exact ha
  have hn' : mt_nO ≤ f := by rw [show mt_nO = 63 by decide]; exact hf
  simp only [g172_0, g172_1, g172_2, g172_5, g172_8, g172_9, g172_10, g172_13, mx_isr_ref, mx_isr_null, mx_wt_nil, mx_wt_1, mx_wt_2, mx_wt_3, Option.bind_some, Option.toList_some, Option.toList_none, List.cons_append, List.nil_append, mx_nl_int, mx_nl_ref, mx_nl_null, mx_nl_none, mx_nb0, mx_nb1, mx_fb0, mx_fb1, mx_cat_int, mx_cat_ref, if_true, if_false, not_true_eq_false, not_false_eq_true, mx_wt_4, mx_w4_0, mx_w9_0, mx_w9_1, mx_kn_int, mx_kn_ref, mx_kn_null, Nat.reduceLT, ofn, n10, t0, t1, y4, hv, isr_kn hv, ce_t ef, hn, hn', mx_tag_up]
/-- operators by name -/
theorem jg_name (k : Nat) (hk : k < 10) : mx_G d 170 0 [some (.int (nI k))] [] h = some (some (.ref (7 + 2 * (14 + k))), h) := by
  have : k = 0 ∨ k = 1 ∨ k = 2 ∨ k = 3 ∨ k = 4 ∨ k = 5 ∨ k = 6 ∨ k = 7 ∨ k = 8 ∨ k = 9 := by omega
  rcases this with rfl | rfl | rfl | rfl | rfl | rfl | rfl | rfl | rfl | rfl
  · rw [show nI 0 = 0 from rfl]; simp only [g170_0, g170_1_0, g170_1_1, g170_1_2, g170_1_3, g170_1_4, g170_1_5, g170_1_6, g170_1_7, g170_1_8, g170_1d, g170_52, g170_54, g170_55, g170_57, g170_58, g170_60, g170_61, g170_63, g170_64, g170_66, g170_67, g170_69, g170_70, g170_72, g170_73, g170_75, g170_76, g170_78, g170_79, g170_81, mx_isr_ref, mx_isr_null, mx_wt_nil, mx_wt_1, mx_wt_2, mx_wt_3, Option.bind_some, Option.toList_some, Option.toList_none, List.cons_append, List.nil_append, mx_nl_int, mx_nl_ref, mx_nl_null, mx_nl_none, mx_nb0, mx_nb1, mx_fb0, mx_fb1, mx_cat_int, mx_cat_ref, if_true, if_false, not_true_eq_false, not_false_eq_true, mx_wt_4, mx_w4_0, mx_w9_0, mx_w9_1, mx_kn_int, mx_kn_ref, mx_kn_null, Nat.reduceLT, ofn, n10]
  · rw [show nI 1 = 1 from rfl]; simp only [g170_0, g170_1_0, g170_1_1, g170_1_2, g170_1_3, g170_1_4, g170_1_5, g170_1_6, g170_1_7, g170_1_8, g170_1d, g170_52, g170_54, g170_55, g170_57, g170_58, g170_60, g170_61, g170_63, g170_64, g170_66, g170_67, g170_69, g170_70, g170_72, g170_73, g170_75, g170_76, g170_78, g170_79, g170_81, mx_isr_ref, mx_isr_null, mx_wt_nil, mx_wt_1, mx_wt_2, mx_wt_3, Option.bind_some, Option.toList_some, Option.toList_none, List.cons_append, List.nil_append, mx_nl_int, mx_nl_ref, mx_nl_null, mx_nl_none, mx_nb0, mx_nb1, mx_fb0, mx_fb1, mx_cat_int, mx_cat_ref, if_true, if_false, not_true_eq_false, not_false_eq_true, mx_wt_4, mx_w4_0, mx_w9_0, mx_w9_1, mx_kn_int, mx_kn_ref, mx_kn_null, Nat.reduceLT, ofn, n10]
  · rw [show nI 2 = 2 from rfl]; simp only [g170_0, g170_1_0, g170_1_1, g170_1_2, g170_1_3, g170_1_4, g170_1_5, g170_1_6, g170_1_7, g170_1_8, g170_1d, g170_52, g170_54, g170_55, g170_57, g170_58, g170_60, g170_61, g170_63, g170_64, g170_66, g170_67, g170_69, g170_70, g170_72, g170_73, g170_75, g170_76, g170_78, g170_79, g170_81, mx_isr_ref, mx_isr_null, mx_wt_nil, mx_wt_1, mx_wt_2, mx_wt_3, Option.bind_some, Option.toList_some, Option.toList_none, List.cons_append, List.nil_append, mx_nl_int, mx_nl_ref, mx_nl_null, mx_nl_none, mx_nb0, mx_nb1, mx_fb0, mx_fb1, mx_cat_int, mx_cat_ref, if_true, if_false, not_true_eq_false, not_false_eq_true, mx_wt_4, mx_w4_0, mx_w9_0, mx_w9_1, mx_kn_int, mx_kn_ref, mx_kn_null, Nat.reduceLT, ofn, n10]
  · rw [show nI 3 = 3 from rfl]; simp only [g170_0, g170_1_0, g170_1_1, g170_1_2, g170_1_3, g170_1_4, g170_1_5, g170_1_6, g170_1_7, g170_1_8, g170_1d, g170_52, g170_54, g170_55, g170_57, g170_58, g170_60, g170_61, g170_63, g170_64, g170_66, g170_67, g170_69, g170_70, g170_72, g170_73, g170_75, g170_76, g170_78, g170_79, g170_81, mx_isr_ref, mx_isr_null, mx_wt_nil, mx_wt_1, mx_wt_2, mx_wt_3, Option.bind_some, Option.toList_some, Option.toList_none, List.cons_append, List.nil_append, mx_nl_int, mx_nl_ref, mx_nl_null, mx_nl_none, mx_nb0, mx_nb1, mx_fb0, mx_fb1, mx_cat_int, mx_cat_ref, if_true, if_false, not_true_eq_false, not_false_eq_true, mx_wt_4, mx_w4_0, mx_w9_0, mx_w9_1, mx_kn_int, mx_kn_ref, mx_kn_null, Nat.reduceLT, ofn, n10]
  · rw [show nI 4 = 4 from rfl]; simp only [g170_0, g170_1_0, g170_1_1, g170_1_2, g170_1_3, g170_1_4, g170_1_5, g170_1_6, g170_1_7, g170_1_8, g170_1d, g170_52, g170_54, g170_55, g170_57, g170_58, g170_60, g170_61, g170_63, g170_64, g170_66, g170_67, g170_69, g170_70, g170_72, g170_73, g170_75, g170_76, g170_78, g170_79, g170_81, mx_isr_ref, mx_isr_null, mx_wt_nil, mx_wt_1, mx_wt_2, mx_wt_3, Option.bind_some, Option.toList_some, Option.toList_none, List.cons_append, List.nil_append, mx_nl_int, mx_nl_ref, mx_nl_null, mx_nl_none, mx_nb0, mx_nb1, mx_fb0, mx_fb1, mx_cat_int, mx_cat_ref, if_true, if_false, not_true_eq_false, not_false_eq_true, mx_wt_4, mx_w4_0, mx_w9_0, mx_w9_1, mx_kn_int, mx_kn_ref, mx_kn_null, Nat.reduceLT, ofn, n10]
  · rw [show nI 5 = 5 from rfl]; simp only [g170_0, g170_1_0, g170_1_1, g170_1_2, g170_1_3, g170_1_4, g170_1_5, g170_1_6, g170_1_7, g170_1_8, g170_1d, g170_52, g170_54, g170_55, g170_57, g170_58, g170_60, g170_61, g170_63, g170_64, g170_66, g170_67, g170_69, g170_70, g170_72, g170_73, g170_75, g170_76, g170_78, g170_79, g170_81, mx_isr_ref, mx_isr_null, mx_wt_nil, mx_wt_1, mx_wt_2, mx_wt_3, Option.bind_some, Option.toList_some, Option.toList_none, List.cons_append, List.nil_append, mx_nl_int, mx_nl_ref, mx_nl_null, mx_nl_none, mx_nb0, mx_nb1, mx_fb0, mx_fb1, mx_cat_int, mx_cat_ref, if_true, if_false, not_true_eq_false, not_false_eq_true, mx_wt_4, mx_w4_0, mx_w9_0, mx_w9_1, mx_kn_int, mx_kn_ref, mx_kn_null, Nat.reduceLT, ofn, n10]
  · rw [show nI 6 = 6 from rfl]; simp only [g170_0, g170_1_0, g170_1_1, g170_1_2, g170_1_3, g170_1_4, g170_1_5, g170_1_6, g170_1_7, g170_1_8, g170_1d, g170_52, g170_54, g170_55, g170_57, g170_58, g170_60, g170_61, g170_63, g170_64, g170_66, g170_67, g170_69, g170_70, g170_72, g170_73, g170_75, g170_76, g170_78, g170_79, g170_81, mx_isr_ref, mx_isr_null, mx_wt_nil, mx_wt_1, mx_wt_2, mx_wt_3, Option.bind_some, Option.toList_some, Option.toList_none, List.cons_append, List.nil_append, mx_nl_int, mx_nl_ref, mx_nl_null, mx_nl_none, mx_nb0, mx_nb1, mx_fb0, mx_fb1, mx_cat_int, mx_cat_ref, if_true, if_false, not_true_eq_false, not_false_eq_true, mx_wt_4, mx_w4_0, mx_w9_0, mx_w9_1, mx_kn_int, mx_kn_ref, mx_kn_null, Nat.reduceLT, ofn, n10]
  · rw [show nI 7 = 7 from rfl]; simp only [g170_0, g170_1_0, g170_1_1, g170_1_2, g170_1_3, g170_1_4, g170_1_5, g170_1_6, g170_1_7, g170_1_8, g170_1d, g170_52, g170_54, g170_55, g170_57, g170_58, g170_60, g170_61, g170_63, g170_64, g170_66, g170_67, g170_69, g170_70, g170_72, g170_73, g170_75, g170_76, g170_78, g170_79, g170_81, mx_isr_ref, mx_isr_null, mx_wt_nil, mx_wt_1, mx_wt_2, mx_wt_3, Option.bind_some, Option.toList_some, Option.toList_none, List.cons_append, List.nil_append, mx_nl_int, mx_nl_ref, mx_nl_null, mx_nl_none, mx_nb0, mx_nb1, mx_fb0, mx_fb1, mx_cat_int, mx_cat_ref, if_true, if_false, not_true_eq_false, not_false_eq_true, mx_wt_4, mx_w4_0, mx_w9_0, mx_w9_1, mx_kn_int, mx_kn_ref, mx_kn_null, Nat.reduceLT, ofn, n10]
  · rw [show nI 8 = 8 from rfl]; simp only [g170_0, g170_1_0, g170_1_1, g170_1_2, g170_1_3, g170_1_4, g170_1_5, g170_1_6, g170_1_7, g170_1_8, g170_1d, g170_52, g170_54, g170_55, g170_57, g170_58, g170_60, g170_61, g170_63, g170_64, g170_66, g170_67, g170_69, g170_70, g170_72, g170_73, g170_75, g170_76, g170_78, g170_79, g170_81, mx_isr_ref, mx_isr_null, mx_wt_nil, mx_wt_1, mx_wt_2, mx_wt_3, Option.bind_some, Option.toList_some, Option.toList_none, List.cons_append, List.nil_append, mx_nl_int, mx_nl_ref, mx_nl_null, mx_nl_none, mx_nb0, mx_nb1, mx_fb0, mx_fb1, mx_cat_int, mx_cat_ref, if_true, if_false, not_true_eq_false, not_false_eq_true, mx_wt_4, mx_w4_0, mx_w9_0, mx_w9_1, mx_kn_int, mx_kn_ref, mx_kn_null, Nat.reduceLT, ofn, n10]
  · rw [show nI 9 = 9 from rfl]
    simp only [g170_0, g170_1d (show (9 : Int32).toInt < 0 ∨ 8 < (9 : Int32).toInt by decide), g170_79, g170_81, mx_isr_ref, mx_isr_null, mx_wt_nil, mx_wt_1, mx_wt_2, mx_wt_3, Option.bind_some, Option.toList_some, Option.toList_none, List.cons_append, List.nil_append, mx_nl_int, mx_nl_ref, mx_nl_null, mx_nl_none, mx_nb0, mx_nb1, mx_fb0, mx_fb1, mx_cat_int, mx_cat_ref, if_true, if_false, not_true_eq_false, not_false_eq_true, mx_wt_4, mx_w4_0, mx_w9_0, mx_w9_1, mx_kn_int, mx_kn_ref, mx_kn_null, Nat.reduceLT, ofn, n10]
theorem jg_op {s b : Nat} {w : List Nat} (K : KS h) (S : sB h s b w) : (∃ k, k < 10 ∧ opsL.getD k [] = w ∧ mx_G (d + 2) 169 0 [some (.ref s), none] [] h = some (some (.int (nI k)), h)) ∨ ((∀ k, k < 10 → opsL.getD k [] ≠ w) ∧ mx_G (d + 2) 169 0 [some (.ref s), none] [] h = some (some (.int (-1)), h)) := by
  have E : ∀ k : Nat, k < 10 → mx_G (d + 1) 105 0 [some (.ref (7 + 2 * (14 + k))), some (.ref s), none] [] h = some (some (.int (if opsL.getD k [] = w then 1 else 0)), h) := by
    intro k hk
    have := js_equals (d := d) (K (14 + k) (by omega)) S
    have e : kts.getD (14 + k) [] = opsL.getD k [] := by
      have : k = 0 ∨ k = 1 ∨ k = 2 ∨ k = 3 ∨ k = 4 ∨ k = 5 ∨ k = 6 ∨ k = 7 ∨ k = 8 ∨ k = 9 := by omega
      rcases this with rfl | rfl | rfl | rfl | rfl | rfl | rfl | rfl | rfl | rfl <;> rfl
    rw [e] at this
    exact this
  have tg : ∀ k, k < 10 → mx_tag h (7 + 2 * (14 + k)) = some (.inl 5) := fun k hk => (sB_f (K (14 + k) (by omega))).1
  have L : ∀ n k, n + k = 10 → (∀ j, j < k → opsL.getD j [] ≠ w) → (∃ j, j < 10 ∧ opsL.getD j [] = w ∧ mx_G (d + 2) 169 2 [some (.ref s), some (.int (nI k))] [] h = some (some (.int (nI j)), h)) ∨ ((∀ j, j < 10 → opsL.getD j [] ≠ w) ∧ mx_G (d + 2) 169 2 [some (.ref s), some (.int (nI k))] [] h = some (some (.int (-1)), h)) := by
    intro n
    induction n with
    | zero =>
      intro k hk hj
      have : k = 10 := by omega
      subst this
      refine Or.inr ⟨hj, ?_⟩
      simp only [g169_2, g169_3, g169_5, g169_27, g169_28, mx_isr_ref, mx_isr_null, mx_wt_nil, mx_wt_1, mx_wt_2, mx_wt_3, Option.bind_some, Option.toList_some, Option.toList_none, List.cons_append, List.nil_append, mx_nl_int, mx_nl_ref, mx_nl_null, mx_nl_none, mx_nb0, mx_nb1, mx_fb0, mx_fb1, mx_cat_int, mx_cat_ref, if_true, if_false, not_true_eq_false, not_false_eq_true, mx_wt_4, mx_w4_0, mx_w9_0, mx_w9_1, mx_kn_int, mx_kn_ref, mx_kn_null, Nat.reduceLT, ofn, n10, show (9 : Int32) < nI 10 by decide]
    | succ n ih =>
      intro k hk hj
      have q : ¬ (9 : Int32) < nI k := nI_nlt (a := 9) (b := k) (by omega) (by decide)
      have E1 := E k (by omega)
      by_cases e : opsL.getD k [] = w
      · refine Or.inl ⟨k, by omega, e, ?_⟩
        rw [if_pos e] at E1
        rw [g169_2]
        simp only [g169_3, g169_5, g169_8, g169_9, g169_12, g169_13, g169_16, g169_19, g169_20, mx_isr_ref, mx_isr_null, mx_wt_nil, mx_wt_1, mx_wt_2, mx_wt_3, Option.bind_some, Option.toList_some, Option.toList_none, List.cons_append, List.nil_append, mx_nl_int, mx_nl_ref, mx_nl_null, mx_nl_none, mx_nb0, mx_nb1, mx_fb0, mx_fb1, mx_cat_int, mx_cat_ref, if_true, if_false, not_true_eq_false, not_false_eq_true, mx_wt_4, mx_w4_0, mx_w9_0, mx_w9_1, mx_kn_int, mx_kn_ref, mx_kn_null, Nat.reduceLT, ofn, n10, q, jg_name k (by omega), tg k (by omega), E1]
      · rw [if_neg e] at E1
        have S1 : mx_G (d + 2) 169 2 [some (.ref s), some (.int (nI k))] [] h = mx_G (d + 2) 169 2 [some (.ref s), some (.int (nI (k + 1)))] [] h := by
          rw [g169_2]
          simp only [g169_3, g169_5, g169_8, g169_9, g169_12, g169_13, g169_16, g169_19, g169_20, g169_21, g169_24, mx_isr_ref, mx_isr_null, mx_wt_nil, mx_wt_1, mx_wt_2, mx_wt_3, Option.bind_some, Option.toList_some, Option.toList_none, List.cons_append, List.nil_append, mx_nl_int, mx_nl_ref, mx_nl_null, mx_nl_none, mx_nb0, mx_nb1, mx_fb0, mx_fb1, mx_cat_int, mx_cat_ref, if_true, if_false, not_true_eq_false, not_false_eq_true, mx_wt_4, mx_w4_0, mx_w9_0, mx_w9_1, mx_kn_int, mx_kn_ref, mx_kn_null, Nat.reduceLT, ofn, n10, q, jg_name k (by omega), tg k (by omega), E1, nI_1]
        rw [S1]
        refine ih (k + 1) (by omega) (fun j hjk => ?_)
        rcases Nat.lt_or_ge j k with z | z
        · exact hj j z
        · rw [show j = k by omega]; exact e
  have pre : mx_G (d + 2) 169 0 [some (.ref s), none] [] h = mx_G (d + 2) 169 2 [some (.ref s), some (.int (nI 0))] [] h := by
    simp only [g169_0, g169_1, mx_isr_ref, mx_isr_null, mx_wt_nil, mx_wt_1, mx_wt_2, mx_wt_3, Option.bind_some, Option.toList_some, Option.toList_none, List.cons_append, List.nil_append, mx_nl_int, mx_nl_ref, mx_nl_null, mx_nl_none, mx_nb0, mx_nb1, mx_fb0, mx_fb1, mx_cat_int, mx_cat_ref, if_true, if_false, not_true_eq_false, not_false_eq_true, mx_wt_4, mx_w4_0, mx_w9_0, mx_w9_1, mx_kn_int, mx_kn_ref, mx_kn_null, Nat.reduceLT, ofn, n10]
    rfl
  rw [pre]
  exact L 10 0 (by omega) (fun j hj => absurd hj (by omega))
def kS (s : Nat) : Nat := if s = 3 then 0 else s
theorem vld_tab {c ty : Nat} (hc : c < 10) (h1 : 1 ≤ c) (ht : ty = 1 ∨ ty = 2 ∨ ty = 3) : vld (opsL.getD c []) ty = decide (c ≤ 2 ∨ (3 ≤ c ∧ c ≤ 5 ∧ ty = 2) ∨ (6 ≤ c ∧ ty ≠ 3)) := by
  have : c = 1 ∨ c = 2 ∨ c = 3 ∨ c = 4 ∨ c = 5 ∨ c = 6 ∨ c = 7 ∨ c = 8 ∨ c = 9 := by omega
  rcases this with rfl | rfl | rfl | rfl | rfl | rfl | rfl | rfl | rfl <;> rcases ht with rfl | rfl | rfl <;> decide
theorem jg_st {c ty : Nat} (hc : c < 10) (h1 : 1 ≤ c) (ht : ty = 1 ∨ ty = 2 ∨ ty = 3) : mx_G d 171 0 [some (.int (nI c)), some (.int (nI (kS ty)))] [] h = some (some (.int (if vld (opsL.getD c []) ty = true then 1 else 0)), h) := by
  rw [vld_tab hc h1 ht]
  have k2 : nI (kS ty) = 2 ↔ ty = 2 := by rcases ht with rfl | rfl | rfl <;> decide
  have k0 : nI (kS ty) = 0 ↔ ty = 3 := by rcases ht with rfl | rfl | rfl <;> decide
  have : c = 1 ∨ c = 2 ∨ c = 3 ∨ c = 4 ∨ c = 5 ∨ 6 ≤ c := by omega
  rcases this with rfl | rfl | rfl | rfl | rfl | z
  · rw [show nI 1 = 1 from rfl]; simp only [g171_0, g171_1_1, g171_1_2, g171_1_3, g171_1_4, g171_1_5, g171_1d, g171_36, g171_37, mx_isr_ref, mx_isr_null, mx_wt_nil, mx_wt_1, mx_wt_2, mx_wt_3, Option.bind_some, Option.toList_some, Option.toList_none, List.cons_append, List.nil_append, mx_nl_int, mx_nl_ref, mx_nl_null, mx_nl_none, mx_nb0, mx_nb1, mx_fb0, mx_fb1, mx_cat_int, mx_cat_ref, if_true, if_false, not_true_eq_false, not_false_eq_true, mx_wt_4, mx_w4_0, mx_w9_0, mx_w9_1, mx_kn_int, mx_kn_ref, mx_kn_null, Nat.reduceLT, ofn, n10]; simp
  · rw [show nI 2 = 2 from rfl]; simp only [g171_0, g171_1_1, g171_1_2, g171_1_3, g171_1_4, g171_1_5, g171_1d, g171_36, g171_37, mx_isr_ref, mx_isr_null, mx_wt_nil, mx_wt_1, mx_wt_2, mx_wt_3, Option.bind_some, Option.toList_some, Option.toList_none, List.cons_append, List.nil_append, mx_nl_int, mx_nl_ref, mx_nl_null, mx_nl_none, mx_nb0, mx_nb1, mx_fb0, mx_fb1, mx_cat_int, mx_cat_ref, if_true, if_false, not_true_eq_false, not_false_eq_true, mx_wt_4, mx_w4_0, mx_w9_0, mx_w9_1, mx_kn_int, mx_kn_ref, mx_kn_null, Nat.reduceLT, ofn, n10]; simp
  · rw [show nI 3 = 3 from rfl]
    by_cases e : ty = 2
    · simp only [g171_0, g171_1_1, g171_1_2, g171_1_3, g171_1_4, g171_1_5, g171_1d, g171_36, g171_37, g171_38, g171_39, g171_40, g171_43, g171_44, g171_47, g171_48, mx_isr_ref, mx_isr_null, mx_wt_nil, mx_wt_1, mx_wt_2, mx_wt_3, Option.bind_some, Option.toList_some, Option.toList_none, List.cons_append, List.nil_append, mx_nl_int, mx_nl_ref, mx_nl_null, mx_nl_none, mx_nb0, mx_nb1, mx_fb0, mx_fb1, mx_cat_int, mx_cat_ref, if_true, if_false, not_true_eq_false, not_false_eq_true, mx_wt_4, mx_w4_0, mx_w9_0, mx_w9_1, mx_kn_int, mx_kn_ref, mx_kn_null, Nat.reduceLT, ofn, n10, k2.mpr e]; simp [e]
    · simp only [g171_0, g171_1_1, g171_1_2, g171_1_3, g171_1_4, g171_1_5, g171_1d, g171_36, g171_37, g171_38, g171_39, g171_40, g171_43, g171_44, g171_47, g171_48, mx_isr_ref, mx_isr_null, mx_wt_nil, mx_wt_1, mx_wt_2, mx_wt_3, Option.bind_some, Option.toList_some, Option.toList_none, List.cons_append, List.nil_append, mx_nl_int, mx_nl_ref, mx_nl_null, mx_nl_none, mx_nb0, mx_nb1, mx_fb0, mx_fb1, mx_cat_int, mx_cat_ref, if_true, if_false, not_true_eq_false, not_false_eq_true, mx_wt_4, mx_w4_0, mx_w9_0, mx_w9_1, mx_kn_int, mx_kn_ref, mx_kn_null, Nat.reduceLT, ofn, n10, show ¬ nI (kS ty) = 2 from fun z => e (k2.mp z)]; simp [e]
  · rw [show nI 4 = 4 from rfl]
    by_cases e : ty = 2
    · simp only [g171_0, g171_1_1, g171_1_2, g171_1_3, g171_1_4, g171_1_5, g171_1d, g171_36, g171_37, g171_38, g171_39, g171_40, g171_43, g171_44, g171_47, g171_48, mx_isr_ref, mx_isr_null, mx_wt_nil, mx_wt_1, mx_wt_2, mx_wt_3, Option.bind_some, Option.toList_some, Option.toList_none, List.cons_append, List.nil_append, mx_nl_int, mx_nl_ref, mx_nl_null, mx_nl_none, mx_nb0, mx_nb1, mx_fb0, mx_fb1, mx_cat_int, mx_cat_ref, if_true, if_false, not_true_eq_false, not_false_eq_true, mx_wt_4, mx_w4_0, mx_w9_0, mx_w9_1, mx_kn_int, mx_kn_ref, mx_kn_null, Nat.reduceLT, ofn, n10, k2.mpr e]; simp [e]
    · simp only [g171_0, g171_1_1, g171_1_2, g171_1_3, g171_1_4, g171_1_5, g171_1d, g171_36, g171_37, g171_38, g171_39, g171_40, g171_43, g171_44, g171_47, g171_48, mx_isr_ref, mx_isr_null, mx_wt_nil, mx_wt_1, mx_wt_2, mx_wt_3, Option.bind_some, Option.toList_some, Option.toList_none, List.cons_append, List.nil_append, mx_nl_int, mx_nl_ref, mx_nl_null, mx_nl_none, mx_nb0, mx_nb1, mx_fb0, mx_fb1, mx_cat_int, mx_cat_ref, if_true, if_false, not_true_eq_false, not_false_eq_true, mx_wt_4, mx_w4_0, mx_w9_0, mx_w9_1, mx_kn_int, mx_kn_ref, mx_kn_null, Nat.reduceLT, ofn, n10, show ¬ nI (kS ty) = 2 from fun z => e (k2.mp z)]; simp [e]
  · rw [show nI 5 = 5 from rfl]
    by_cases e : ty = 2
    · simp only [g171_0, g171_1_1, g171_1_2, g171_1_3, g171_1_4, g171_1_5, g171_1d, g171_36, g171_37, g171_38, g171_39, g171_40, g171_43, g171_44, g171_47, g171_48, mx_isr_ref, mx_isr_null, mx_wt_nil, mx_wt_1, mx_wt_2, mx_wt_3, Option.bind_some, Option.toList_some, Option.toList_none, List.cons_append, List.nil_append, mx_nl_int, mx_nl_ref, mx_nl_null, mx_nl_none, mx_nb0, mx_nb1, mx_fb0, mx_fb1, mx_cat_int, mx_cat_ref, if_true, if_false, not_true_eq_false, not_false_eq_true, mx_wt_4, mx_w4_0, mx_w9_0, mx_w9_1, mx_kn_int, mx_kn_ref, mx_kn_null, Nat.reduceLT, ofn, n10, k2.mpr e]; simp [e]
    · simp only [g171_0, g171_1_1, g171_1_2, g171_1_3, g171_1_4, g171_1_5, g171_1d, g171_36, g171_37, g171_38, g171_39, g171_40, g171_43, g171_44, g171_47, g171_48, mx_isr_ref, mx_isr_null, mx_wt_nil, mx_wt_1, mx_wt_2, mx_wt_3, Option.bind_some, Option.toList_some, Option.toList_none, List.cons_append, List.nil_append, mx_nl_int, mx_nl_ref, mx_nl_null, mx_nl_none, mx_nb0, mx_nb1, mx_fb0, mx_fb1, mx_cat_int, mx_cat_ref, if_true, if_false, not_true_eq_false, not_false_eq_true, mx_wt_4, mx_w4_0, mx_w9_0, mx_w9_1, mx_kn_int, mx_kn_ref, mx_kn_null, Nat.reduceLT, ofn, n10, show ¬ nI (kS ty) = 2 from fun z => e (k2.mp z)]; simp [e]
  · have hx : (nI c).toInt < 1 ∨ 5 < (nI c).toInt := Or.inr (by
      have : c = 6 ∨ c = 7 ∨ c = 8 ∨ c = 9 := by omega
      rcases this with rfl | rfl | rfl | rfl <;> decide)
    by_cases e : ty = 3
    · simp only [g171_0, g171_1d hx, g171_49, g171_50, g171_53, g171_54, g171_57, g171_58, mx_isr_ref, mx_isr_null, mx_wt_nil, mx_wt_1, mx_wt_2, mx_wt_3, Option.bind_some, Option.toList_some, Option.toList_none, List.cons_append, List.nil_append, mx_nl_int, mx_nl_ref, mx_nl_null, mx_nl_none, mx_nb0, mx_nb1, mx_fb0, mx_fb1, mx_cat_int, mx_cat_ref, if_true, if_false, not_true_eq_false, not_false_eq_true, mx_wt_4, mx_w4_0, mx_w9_0, mx_w9_1, mx_kn_int, mx_kn_ref, mx_kn_null, Nat.reduceLT, ofn, n10, k0.mpr e]; simp [e]; omega
    · simp only [g171_0, g171_1d hx, g171_49, g171_50, g171_53, g171_54, g171_57, g171_58, mx_isr_ref, mx_isr_null, mx_wt_nil, mx_wt_1, mx_wt_2, mx_wt_3, Option.bind_some, Option.toList_some, Option.toList_none, List.cons_append, List.nil_append, mx_nl_int, mx_nl_ref, mx_nl_null, mx_nl_none, mx_nb0, mx_nb1, mx_fb0, mx_fb1, mx_cat_int, mx_cat_ref, if_true, if_false, not_true_eq_false, not_false_eq_true, mx_wt_4, mx_w4_0, mx_w9_0, mx_w9_1, mx_kn_int, mx_kn_ref, mx_kn_null, Nat.reduceLT, ofn, n10, show ¬ nI (kS ty) = 0 from fun z => e (k0.mp z)]; simp [e]; omega
end
