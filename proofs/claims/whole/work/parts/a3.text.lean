/-! text, words, numbers; equals and foldAll. -/
theorem sli_cons {ls : List Nat} {i e : Nat} (h : i < e) (he : e ≤ ls.length) : sli ls i e = ls.getD i 0 :: sli ls (i + 1) e := by
  unfold sli
  rw [List.drop_eq_getElem_cons (by omega), show e - i = (e - (i + 1)) + 1 by omega, List.take_succ_cons]
  simp [List.getD_eq_getElem?_getD, show i < ls.length by omega]
theorem sli_nil {ls : List Nat} {i e : Nat} (h : e ≤ i) : sli ls i e = [] := by
  unfold sli
  rw [show e - i = 0 by omega, List.take_zero]
theorem uesc_len : ∀ (n : Nat) (l : List Nat), l.length ≤ n → (uesc l).length ≤ l.length := by
  intro n
  induction n with
  | zero =>
    intro l hl
    have : l = [] := List.eq_nil_of_length_eq_zero (by omega)
    subst this
    simp [uesc]
  | succ n ih =>
    intro l hl
    match l, hl with
    | [], _ => simp [uesc]
    | [c], _ => simp [uesc]
    | c :: e :: r, hl =>
      rw [uesc]
      simp only [List.length_cons] at hl ⊢
      split
      · have := ih r (by omega)
        rw [List.length_cons]
        omega
      · have := ih (e :: r) (by simp; omega)
        simp only [List.length_cons] at this ⊢
        omega
section
variable {d : Nat}
theorem jt_textL {ls ks ss es : List Nat} {u t c e : Nat} {q : Int32} (he : e ≤ 120) : ∀ m i (h : mx_H) (x n : Nat) (us : List Nat), e - i ≤ m → i ≤ e → n + (e - i) ≤ 200 → BF h ls u ks ss es t c → SB h 69 x n us →
    ∃ h' x' us', mx_G (d + 6) 55 65 [some (.ref 64), some (.int q), some (.int (nI e)), some (.int (nI i))] [] h = mx_G (d + 6) 55 111 [some (.ref 64), some (.int q), some (.int (nI e)), some (.int (nI e))] [] h' ∧ BF h' ls u ks ss es t c ∧ SB h' 69 x' (n + (uesc (sli ls i e)).length) us' ∧ us'.take (n + (uesc (sli ls i e)).length) = us.take n ++ uesc (sli ls i e) ∧ SBx h 69 x us h' x' us' := by
  intro m
  induction m with
  | zero =>
    intro i h x n us hm hi hn B S
    have : i = e := by omega
    subst this
    refine ⟨h, x, us, ?_, B, ?_, ?_, Fr.rfl _ _, Or.inl rfl, Nat.le_refl _⟩
    · simp only [g55_65, g55_66, g55_67, mx_isr_ref, mx_isr_null, mx_wt_nil, mx_wt_1, mx_wt_2, mx_wt_3, Option.bind_some, Option.toList_some, Option.toList_none, List.cons_append, List.nil_append, mx_nl_int, mx_nl_ref, mx_nl_null, mx_nl_none, mx_nb0, mx_nb1, mx_fb0, mx_fb1, mx_cat_int, mx_cat_ref, if_true, if_false, not_true_eq_false, not_false_eq_true, mx_wt_4, mx_w4_0, mx_w9_0, mx_w9_1, mx_kn_int, mx_kn_ref, mx_kn_null, Nat.reduceLT, ofn, n10, show nI i ≤ nI i from nI_le (Nat.le_refl _) (by omega)]
    · rw [sli_nil (Nat.le_refl _)]; exact S
    · rw [sli_nil (Nat.le_refl _)]; simp [uesc]
  | succ m ih =>
    intro i h x n us hm hi hn B S
    by_cases hie : i = e
    · subst hie
      refine ⟨h, x, us, ?_, B, ?_, ?_, Fr.rfl _ _, Or.inl rfl, Nat.le_refl _⟩
      · simp only [g55_65, g55_66, g55_67, mx_isr_ref, mx_isr_null, mx_wt_nil, mx_wt_1, mx_wt_2, mx_wt_3, Option.bind_some, Option.toList_some, Option.toList_none, List.cons_append, List.nil_append, mx_nl_int, mx_nl_ref, mx_nl_null, mx_nl_none, mx_nb0, mx_nb1, mx_fb0, mx_fb1, mx_cat_int, mx_cat_ref, if_true, if_false, not_true_eq_false, not_false_eq_true, mx_wt_4, mx_w4_0, mx_w9_0, mx_w9_1, mx_kn_int, mx_kn_ref, mx_kn_null, Nat.reduceLT, ofn, n10, show nI i ≤ nI i from nI_le (Nat.le_refl _) (by omega)]
      · rw [sli_nil (Nat.le_refl _)]; exact S
      · rw [sli_nil (Nat.le_refl _)]; simp [uesc]
    · have hlt : i < e := by omega
      obtain ⟨t4, l4, e0, e1, e2, e3, e4, e5, e6, e7, t5, l5, x5, t6, l6, x6, t7, l7, x7, t8, l8, x8⟩ := BF_f B
      have hl5 := B.2.2.2.2.2.1
      have hxn := SB_BF B S
      have hi2 : ¬ nI e ≤ nI i := nI_ge hlt (by omega)
      -- one character more, at j
      have step : ∀ j, i ≤ j → j < e → mx_G (d + 6) 55 65 [some (.ref 64), some (.int q), some (.int (nI e)), some (.int (nI i))] [] h = mx_G (d + 6) 55 91 [some (.ref 64), some (.int q), some (.int (nI e)), some (.int (nI j))] [] h → uesc (sli ls i e) = ls.getD j 0 :: uesc (sli ls (j + 1) e) →
          ∃ h' x' us', mx_G (d + 6) 55 65 [some (.ref 64), some (.int q), some (.int (nI e)), some (.int (nI i))] [] h = mx_G (d + 6) 55 111 [some (.ref 64), some (.int q), some (.int (nI e)), some (.int (nI e))] [] h' ∧ BF h' ls u ks ss es t c ∧ SB h' 69 x' (n + (uesc (sli ls i e)).length) us' ∧ us'.take (n + (uesc (sli ls i e)).length) = us.take n ++ uesc (sli ls i e) ∧ SBx h 69 x us h' x' us' := by
        intro j hij hje hG hU
        have hc := gd_lt B.2.2.2.2.2.2.2.2.2.2 j
        obtain ⟨h1, x1, u1, a1, a2, a3, a4⟩ := jb_app (d := d) S hc (by omega)
        have B1 : BF h1 ls u ks ss es t c := BF_fr B a4.1 (fun a ha => by
          simp only [List.mem_cons, List.not_mem_nil, or_false] at ha
          rcases ha with rfl | rfl
          · omega
          · omega)
        obtain ⟨h', x', us', i1, i2, i3, i4, i5⟩ := ih (j + 1) h1 x1 (n + 1) u1 (by omega) (by omega) (by omega) B1 a2
        have hlen : n + (uesc (sli ls i e)).length = n + 1 + (uesc (sli ls (j + 1) e)).length := by rw [hU, List.length_cons]; omega
        refine ⟨h', x', us', ?_, i2, by rw [hlen]; exact i3, by rw [hlen, i4, a3, hU]; simp, a4.trans i5⟩
        rw [hG, ← i1]
        simp only [g55_91, g55_92, g55_95, g55_96, g55_99, g55_100, g55_101, g55_104, g55_105, g55_108, mx_isr_ref, mx_isr_null, mx_wt_nil, mx_wt_1, mx_wt_2, mx_wt_3, Option.bind_some, Option.toList_some, Option.toList_none, List.cons_append, List.nil_append, mx_nl_int, mx_nl_ref, mx_nl_null, mx_nl_none, mx_nb0, mx_nb1, mx_fb0, mx_fb1, mx_cat_int, mx_cat_ref, if_true, if_false, not_true_eq_false, not_false_eq_true, mx_wt_4, mx_w4_0, mx_w9_0, mx_w9_1, mx_kn_int, mx_kn_ref, mx_kn_null, Nat.reduceLT, ofn, n10, t4, l4, e4, e0, t5, l5, nI_pos' (show j < 2 ^ 31 by omega), nI_clamp (show j < 2 ^ 31 by omega), show j < 120 by omega, x5 j (by omega), (SB_f S).1, a1, nI_1]
      by_cases h92 : ls.getD i 0 = 92
      · have q92 : nI (ls.getD i 0) = 92 := by rw [h92]; rfl
        by_cases hi1 : e ≤ i + 1
        · refine step i (Nat.le_refl _) hlt ?_ ?_
          · simp only [g55_65, g55_66, g55_67, g55_70, g55_71, g55_74, g55_75, g55_76, g55_78, g55_81, g55_82, g55_83, g55_84, g55_85, mx_isr_ref, mx_isr_null, mx_wt_nil, mx_wt_1, mx_wt_2, mx_wt_3, Option.bind_some, Option.toList_some, Option.toList_none, List.cons_append, List.nil_append, mx_nl_int, mx_nl_ref, mx_nl_null, mx_nl_none, mx_nb0, mx_nb1, mx_fb0, mx_fb1, mx_cat_int, mx_cat_ref, if_true, if_false, not_true_eq_false, not_false_eq_true, mx_wt_4, mx_w4_0, mx_w9_0, mx_w9_1, mx_kn_int, mx_kn_ref, mx_kn_null, Nat.reduceLT, ofn, n10, hi2, t4, l4, e0, t5, l5, nI_pos' (show i < 2 ^ 31 by omega), nI_clamp (show i < 2 ^ 31 by omega), show i < 120 by omega, x5 i (by omega), q92, nI_1, nI_leI (show e < 2 ^ 31 by omega) (show i + 1 < 2 ^ 31 by omega), hi1]
          · rw [sli_cons hlt (by omega), sli_nil hi1]
            simp [uesc]
        · refine step (i + 1) (by omega) (by omega) ?_ ?_
          · simp only [g55_65, g55_66, g55_67, g55_70, g55_71, g55_74, g55_75, g55_76, g55_78, g55_81, g55_82, g55_83, g55_84, g55_85, g55_88, mx_isr_ref, mx_isr_null, mx_wt_nil, mx_wt_1, mx_wt_2, mx_wt_3, Option.bind_some, Option.toList_some, Option.toList_none, List.cons_append, List.nil_append, mx_nl_int, mx_nl_ref, mx_nl_null, mx_nl_none, mx_nb0, mx_nb1, mx_fb0, mx_fb1, mx_cat_int, mx_cat_ref, if_true, if_false, not_true_eq_false, not_false_eq_true, mx_wt_4, mx_w4_0, mx_w9_0, mx_w9_1, mx_kn_int, mx_kn_ref, mx_kn_null, Nat.reduceLT, ofn, n10, hi2, t4, l4, e0, t5, l5, nI_pos' (show i < 2 ^ 31 by omega), nI_clamp (show i < 2 ^ 31 by omega), show i < 120 by omega, x5 i (by omega), q92, nI_1, nI_leI (show e < 2 ^ 31 by omega) (show i + 1 < 2 ^ 31 by omega), hi1]
          · rw [sli_cons hlt (by omega), sli_cons (i := i + 1) (by omega) (by omega), h92, uesc, if_pos rfl]
      · have q92 : ¬ nI (ls.getD i 0) = 92 := fun z => h92 ((nI_eq (b := 92) (by have := gd_lt B.2.2.2.2.2.2.2.2.2.2 i; omega) (by decide)).mp z)
        refine step i (Nat.le_refl _) hlt ?_ ?_
        · simp only [g55_65, g55_66, g55_67, g55_70, g55_71, g55_74, g55_75, g55_76, g55_78, mx_isr_ref, mx_isr_null, mx_wt_nil, mx_wt_1, mx_wt_2, mx_wt_3, Option.bind_some, Option.toList_some, Option.toList_none, List.cons_append, List.nil_append, mx_nl_int, mx_nl_ref, mx_nl_null, mx_nl_none, mx_nb0, mx_nb1, mx_fb0, mx_fb1, mx_cat_int, mx_cat_ref, if_true, if_false, not_true_eq_false, not_false_eq_true, mx_wt_4, mx_w4_0, mx_w9_0, mx_w9_1, mx_kn_int, mx_kn_ref, mx_kn_null, Nat.reduceLT, ofn, n10, hi2, t4, l4, e0, t5, l5, nI_pos' (show i < 2 ^ 31 by omega), nI_clamp (show i < 2 ^ 31 by omega), show i < 120 by omega, x5 i (by omega), q92]
        · rw [sli_cons hlt (by omega), uesc_c h92]
variable {h : mx_H} {x cp c : Nat} {ts : List tk}
/-- what a reader of a token may do to the builder -/
def TX (h : mx_H) (x cp : Nat) (h' : mx_H) (x' cp' k : Nat) : Prop := Fr [64, 69, x] h h' ∧ (x' = x ∨ h.length ≤ x') ∧ x' < h'.length ∧ mw h' + 3 * cp ≤ mw h + 3 * cp' + k
theorem TX.trans {h h' h'' : mx_H} {x x' x'' cp cp' cp'' k k' : Nat} (a : TX h x cp h' x' cp' k) (b : TX h' x' cp' h'' x'' cp'' k') : TX h x cp h'' x'' cp'' (k + k') := by
  obtain ⟨a1, a2, a3, a4⟩ := a
  obtain ⟨b1, b2, b3, b4⟩ := b
  have := a1.1
  refine ⟨a1.trans b1 (fun q hq => ?_), ?_, b3, by omega⟩
  · simp only [List.mem_cons, List.not_mem_nil, or_false] at hq ⊢
    rcases hq with rfl | rfl | rfl
    · exact Or.inl (Or.inl rfl)
    · exact Or.inl (Or.inr (Or.inl rfl))
    · exact a2.elim (fun z => Or.inl (Or.inr (Or.inr z))) (fun z => Or.inr z)
  · rcases b2 with rfl | z
    · exact a2
    · exact Or.inr (by omega)
theorem TX.mono {h h' : mx_H} {x x' cp cp' k k' : Nat} (a : TX h x cp h' x' cp' k) (hk : k ≤ k') : TX h x cp h' x' cp' k' := ⟨a.1, a.2.1, a.2.2.1, by have := a.2.2.2; omega⟩
theorem BT.xlt (T : BT h x cp ts c) : x < h.length ∧ 63 ≤ x ∧ (x = 70 ∨ 102 ≤ x) ∧ 102 ≤ h.length ∧ KS h ∧ mx_tag h x = some (.inr .byte) ∧ cp ≤ 1000 := by
  obtain ⟨ls, u, ks, ss, es, n, us, B, R, k0, l1, l2, S, cu, hx, hk, K, hl, hn⟩ := T
  exact ⟨ce_l S.2.1, S.2.2.2.2.2.1, hx, hl, K, ce_t S.2.1, by have := S.2.2.2.2.1; omega⟩
theorem TX.of64 (T : BT h x cp ts c) {h' : mx_H} (f : Fr [64] h h') (w : mw h' = mw h) : TX h x cp h' x cp 0 :=
  ⟨f.mono (by simp), Or.inl rfl, Nat.lt_of_lt_of_le T.xlt.1 f.1, by omega⟩
theorem jt_text (T : BT h x cp ts c) (hk : (tA ts c).1 = 1 ∨ (tA ts c).1 = 3) :
    ∃ (h' : mx_H) (x' cp' s b : Nat), mx_G (d + 8) 55 0 [some (.ref 64), none, none, none] [] h = some (some (.ref s), h') ∧ BT h' x' cp' ts c ∧ sB h' s b (tA ts c).2 ∧ h.length ≤ s ∧ x' < s ∧ s < b ∧ (tA ts c).2.length ≤ 120 ∧ TX h x cp h' x' cp' (28 + (tA ts c).2.length) := by
  have hlt : c < ts.length := by
    rcases hk with z | z
    · exact tI_ltN (k := 1) (by decide) (by simp [tI, z])
    · exact tI_ltN (k := 3) (by decide) (by simp [tI, z])
  obtain ⟨f1, f2, f3, f4, f5, f6, f7, f8, f9, f10, f11, f12⟩ := T.kind
  obtain ⟨ls, u, ks, ss, es, n, us, B, R, k0, l1, l2, S, cu, hx, hkk, K, hl, hn⟩ := T
  have hxn := SB_BF B S
  obtain ⟨h1, s1, s2, s3, s4⟩ := jb_set0 (d := d + 2) S
  have B1 : BF h1 ls u ks ss es ts.length c := BF_fr B s3 (by simp)
  obtain ⟨t4, l4, e0, e1, e2, e3, e4, e5, e6, e7, t5, l5, x5, t6, l6, x6, t7, l7, x7, t8, l8, x8⟩ := BF_f B1
  have hl5 := B.2.2.2.2.2.1
  obtain ⟨r1, r2, r3, -, r5⟩ := (R c hlt).2
  have hk66 : mx_el h1 66 c = .int (nI (tA ts c).1) := by rw [x6 c f10, (R c hlt).1]
  -- where the letters stand
  have key : ∃ (qq a e : Nat), a ≤ e ∧ e ≤ 120 ∧ uesc (sli ls a e) = (tA ts c).2 ∧ mx_G (d + 8) 55 0 [some (.ref 64), none, none, none] [] h = mx_G (d + 8) 55 65 [some (.ref 64), some (.int (nI qq)), some (.int (nI e)), some (.int (nI a))] [] h1 := by
    rcases hk with z | z
    · obtain ⟨z1, z2⟩ := r3 z
      refine ⟨0, ss.getD c 0, es.getD c 0, by omega, r2, by rw [z1, uesc_let _ z2], ?_⟩
      have q3 : ¬ nI (tA ts c).1 = 3 := by rw [z]; decide
      simp only [g55_0, g55_1, g55_4, g55_5, g55_8, g55_11, g55_13, g55_14, g55_15, g55_18, g55_19, g55_22, g55_23, g55_26, g55_27, g55_30, g55_31, g55_32, g55_35, g55_36, g55_39, g55_40, g55_41, g55_42, g55_45, g55_46, g55_49, g55_50, g55_51, g55_52, g55_53, g55_54, g55_57, g55_58, g55_61, g55_62, g55_63, g55_64, mx_isr_ref, mx_isr_null, mx_wt_nil, mx_wt_1, mx_wt_2, mx_wt_3, Option.bind_some, Option.toList_some, Option.toList_none, List.cons_append, List.nil_append, mx_nl_int, mx_nl_ref, mx_nl_null, mx_nl_none, mx_nb0, mx_nb1, mx_fb0, mx_fb1, mx_cat_int, mx_cat_ref, if_true, if_false, not_true_eq_false, not_false_eq_true, mx_wt_4, mx_w4_0, mx_w9_0, mx_w9_1, mx_kn_int, mx_kn_ref, mx_kn_null, Nat.reduceLT, ofn, n10, f1, f2, f5, f4, show nI c < nI ts.length from nI_lt hlt (by omega), (BF_f B).2.2.2.2.2.2.1, (SB_f S).1, s1, t4, l4, e1, e2, e3, e7, t6, l6, t7, l7, t8, l8, nI_pos' (show c < 2 ^ 31 by omega), nI_clamp (show c < 2 ^ 31 by omega), f10, hk66, q3, x7 c f10, x8 c f10, show ∀ n, nI n - 0 = nI n from fun n => by rw [show (0 : Int32) = nI 0 from rfl, nI_sub (Nat.zero_le _), Nat.sub_zero], show ∀ n, nI n + 0 = nI n from fun n => nI_add n 0]
      rfl
    · obtain ⟨z1, z2⟩ := r5 z
      refine ⟨1, ss.getD c 0 + 1, es.getD c 0 - 1, by omega, by omega, z2, ?_⟩
      have q3 : nI (tA ts c).1 = 3 := by rw [z]; rfl
      simp only [g55_0, g55_1, g55_4, g55_5, g55_8, g55_11, g55_13, g55_14, g55_15, g55_18, g55_19, g55_22, g55_23, g55_26, g55_27, g55_30, g55_31, g55_32, g55_35, g55_36, g55_39, g55_40, g55_41, g55_42, g55_45, g55_46, g55_49, g55_50, g55_51, g55_52, g55_53, g55_54, g55_57, g55_58, g55_61, g55_62, g55_63, g55_64, mx_isr_ref, mx_isr_null, mx_wt_nil, mx_wt_1, mx_wt_2, mx_wt_3, Option.bind_some, Option.toList_some, Option.toList_none, List.cons_append, List.nil_append, mx_nl_int, mx_nl_ref, mx_nl_null, mx_nl_none, mx_nb0, mx_nb1, mx_fb0, mx_fb1, mx_cat_int, mx_cat_ref, if_true, if_false, not_true_eq_false, not_false_eq_true, mx_wt_4, mx_w4_0, mx_w9_0, mx_w9_1, mx_kn_int, mx_kn_ref, mx_kn_null, Nat.reduceLT, ofn, n10, f1, f2, f5, f4, show nI c < nI ts.length from nI_lt hlt (by omega), (BF_f B).2.2.2.2.2.2.1, (SB_f S).1, s1, t4, l4, e1, e2, e3, e7, t6, l6, t7, l7, t8, l8, nI_pos' (show c < 2 ^ 31 by omega), nI_clamp (show c < 2 ^ 31 by omega), f10, hk66, q3, x7 c f10, x8 c f10, show nI (es.getD c 0) - 1 = nI (es.getD c 0 - 1) from nI_sub (b := 1) (by omega), nI_1]
      rfl
  obtain ⟨qq, a, e, hae, he, hU, hG⟩ := key
  obtain ⟨h2, x2, u2, i1, i2, i3, i4, i5⟩ := jt_textL (d := d + 2) (q := nI qq) he (e - a) a h1 x 0 us (Nat.le_refl _) hae (by omega) B1 s2
  have hUl : (tA ts c).2.length ≤ 120 := by
    rw [← hU]
    have := uesc_len _ (sli ls a e) (Nat.le_refl _)
    rw [sli_len _ (by omega)] at this
    omega
  rw [hU, Nat.zero_add] at i3 i4
  rw [List.take_zero, List.nil_append] at i4
  obtain ⟨h3, j1, j2, j3, j4⟩ := jb_str (d := d + 0) i3
  rw [i4] at j2
  have S3 : SB h3 69 x2 (tA ts c).2.length u2 := SB_fr i3 j3 (by simp) (by simp)
  have B3 : BF h3 ls u ks ss es ts.length c := BF_fr i2 j3 (by simp)
  have F1 : Fr [69, x] h h2 := (s3.mono (by simp)).trans i5.1 (fun a ha => Or.inl ha)
  have F3 : Fr [69, x] h h3 := F1.trans j3 (fun a ha => absurd ha (by simp))
  have hl3 := F3.1
  have hlx := ce_l i3.2.1
  have l2h := F1.1
  have l1h := s3.1
  have x2h : x2 = x ∨ h.length ≤ x2 := i5.2.1.elim Or.inl (fun z => Or.inr (by omega))
  refine ⟨h3, x2, u2.length, h2.length, h2.length + 1, ?_, ⟨ls, u, ks, ss, es, (tA ts c).2.length, u2, B3, R, k0, l1, l2, S3, rfl, ?_, hkk, K.fr F3 (fun a ha => ?_), by omega, by omega⟩, j2, by omega, hlx, Nat.lt_succ_self _, hUl, F3.mono (by simp), x2h, Nat.lt_of_lt_of_le hlx j3.1, ?_⟩
  · rw [hG, i1]
    obtain ⟨k4, m4, n0, n1, n2, n3, n4, -⟩ := BF_f i2
    simp only [g55_111, g55_112, g55_115, g55_118, mx_isr_ref, mx_isr_null, mx_wt_nil, mx_wt_1, mx_wt_2, mx_wt_3, Option.bind_some, Option.toList_some, Option.toList_none, List.cons_append, List.nil_append, mx_nl_int, mx_nl_ref, mx_nl_null, mx_nl_none, mx_nb0, mx_nb1, mx_fb0, mx_fb1, mx_cat_int, mx_cat_ref, if_true, if_false, not_true_eq_false, not_false_eq_true, mx_wt_4, mx_w4_0, mx_w9_0, mx_w9_1, mx_kn_int, mx_kn_ref, mx_kn_null, Nat.reduceLT, ofn, n10, k4, m4, n4, (SB_f i3).1, j1]
  · rcases x2h with rfl | z
    · exact hx
    · exact Or.inr (by omega)
  · simp only [List.mem_cons, List.not_mem_nil, or_false] at ha
    have := S.2.2.2.2.2.1
    rcases ha with rfl | rfl <;> omega
  · have := i5.2.2
    omega
theorem jt_any (T : BT h x cp ts c) : (¬ (tA ts c).1 = 1 → mx_G (d + 9) 162 0 [some (.ref 64), none] [] h = some (some (.ref 11), h)) ∧
    ((tA ts c).1 = 1 → ∃ (h' : mx_H) (x' cp' s b : Nat), mx_G (d + 9) 162 0 [some (.ref 64), none] [] h = some (some (.ref s), h') ∧ BT h' x' cp' ts (c + 1) ∧ sB h' s b (tA ts c).2 ∧ h.length ≤ s ∧ x' < s ∧ s < b ∧ TX h x cp h' x' cp' (28 + (tA ts c).2.length)) := by
  obtain ⟨f1, f2, f3, f4, f5, f6, f7, f8, f9, f10, f11, f12⟩ := T.kind
  constructor
  · intro hk
    have q1 : ¬ nI (tA ts c).1 = 1 := fun z => hk ((nI_eq (b := 1) (by omega) (by decide)).mp z)
    simp only [g162_0, g162_1, g162_4, g162_5, g162_8, g162_9, g162_10, g162_13, g162_15, g162_16, g162_17, g162_20, g162_21, g162_22, g162_23, g162_26, g162_27, g162_28, g162_31, g162_32, mx_isr_ref, mx_isr_null, mx_wt_nil, mx_wt_1, mx_wt_2, mx_wt_3, Option.bind_some, Option.toList_some, Option.toList_none, List.cons_append, List.nil_append, mx_nl_int, mx_nl_ref, mx_nl_null, mx_nl_none, mx_nb0, mx_nb1, mx_fb0, mx_fb1, mx_cat_int, mx_cat_ref, if_true, if_false, not_true_eq_false, not_false_eq_true, mx_wt_4, mx_w4_0, mx_w9_0, mx_w9_1, mx_kn_int, mx_kn_ref, mx_kn_null, Nat.reduceLT, ofn, n10, f1, f2, f3, f5, f6, f7, nI_pos' (show c < 2 ^ 31 by omega), nI_clamp (show c < 2 ^ 31 by omega), f10, f8, q1]
  · intro hk
    have hlt : c < ts.length := tI_ltN (k := 1) (by decide) (by simp [tI, hk])
    obtain ⟨h1, x1, cp1, s, b, a1, a2, a3, a4, a5, a6, a7, a8⟩ := jt_text (d := d) T (Or.inl hk)
    obtain ⟨g1, g2, g3, g4, g5, -⟩ := a2.kind
    have q1 : nI (tA ts c).1 = 1 := by rw [hk]; rfl
    have T2 := a2.cur (c' := c + 1) (by omega)
    have l102 := a2.xlt.2.2.2.1
    have hl0 := T.xlt.2.2.2.1
    have F : Fr [64] h1 (mx_up h1 64 7 (.int (nI (c + 1)))) := Fr.up (by simp)
    refine ⟨_, x1, cp1, s, b, ?_, T2, ?_, a4, a5, a6, ?_⟩
    · simp only [g162_0, g162_1, g162_4, g162_5, g162_8, g162_9, g162_10, g162_13, g162_15, g162_16, g162_17, g162_20, g162_21, g162_22, g162_23, g162_26, g162_27, g162_28, g162_31, g162_32, mx_isr_ref, mx_isr_null, mx_wt_nil, mx_wt_1, mx_wt_2, mx_wt_3, Option.bind_some, Option.toList_some, Option.toList_none, List.cons_append, List.nil_append, mx_nl_int, mx_nl_ref, mx_nl_null, mx_nl_none, mx_nb0, mx_nb1, mx_fb0, mx_fb1, mx_cat_int, mx_cat_ref, if_true, if_false, not_true_eq_false, not_false_eq_true, mx_wt_4, mx_w4_0, mx_w9_0, mx_w9_1, mx_kn_int, mx_kn_ref, mx_kn_null, Nat.reduceLT, ofn, n10, f1, f2, f3, f5, f6, f7, nI_pos' (show c < 2 ^ 31 by omega), nI_clamp (show c < 2 ^ 31 by omega), f10, f8, q1, a1, g1, g2, g5, nI_1, show mt_nO ≤ 64 by decide]
    · obtain ⟨⟨v2, v3, e1⟩, e2, e3⟩ := a3
      exact ⟨⟨v2, v3, F.at e1 (fun z => by rw [List.mem_singleton] at z; omega)⟩, F.at e2 (fun z => by rw [List.mem_singleton] at z; omega), e3⟩
    · exact (a8.trans (TX.of64 a2 F (mw_up _ _ _ _))).mono (by omega)
end
