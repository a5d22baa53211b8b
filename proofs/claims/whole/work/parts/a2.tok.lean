/-! The tokens, with the mark, and what is asked of them. -/
def BT (h : mx_H) (x cp : Nat) (ts : List tk) (c : Nat) : Prop := ∃ ls u ks ss es n us, BF h ls u ks ss es ts.length c ∧ tsR ls ks ss es ts ∧ ks.getD ts.length 0 = 0 ∧ ts.length ≤ 120 ∧ c ≤ ts.length ∧ SB h 69 x n us ∧ us.length = cp ∧ (x = 70 ∨ 102 ≤ x) ∧ (∀ i, (tA ts i).1 < 128 ∧ ((tA ts i).1 = 2 → numOk (tA ts i).2)) ∧ KS h ∧ 102 ≤ h.length ∧ n ≤ 120
theorem tA_big {ts : List tk} {i : Nat} (h : ts.length ≤ i) : tA ts i = (0, []) := by
  unfold tA
  rw [List.getD_eq_getElem?_getD, List.getElem?_eq_none h]
  rfl
theorem BF_fr {F : List Nat} {h h' : mx_H} {ls ks ss es : List Nat} {u t c : Nat} (B : BF h ls u ks ss es t c) (f : Fr F h h') (hF : ∀ a ∈ F, ¬ (64 ≤ a ∧ a ≤ 68)) : BF h' ls u ks ss es t c := by
  obtain ⟨b4, b5, b6, b7, b8, r⟩ := B
  exact ⟨f.at b4 (fun z => hF _ z (by omega)), f.at b5 (fun z => hF _ z (by omega)), f.at b6 (fun z => hF _ z (by omega)), f.at b7 (fun z => hF _ z (by omega)), f.at b8 (fun z => hF _ z (by omega)), r⟩
theorem BT.fr {F : List Nat} {h h' : mx_H} {x cp c : Nat} {ts : List tk} (T : BT h x cp ts c) (f : Fr F h h') (hF : ∀ a ∈ F, 70 ≤ a ∧ a ≠ x) : BT h' x cp ts c := by
  obtain ⟨ls, u, ks, ss, es, n, us, B, R, k0, l1, l2, S, cu, hx, hk, K, hl, hn⟩ := T
  refine ⟨ls, u, ks, ss, es, n, us, BF_fr B f (fun a ha => by have := hF a ha; omega), R, k0, l1, l2, SB_fr S f (fun z => by have := hF _ z; omega) (fun z => (hF _ z).2 rfl), cu, hx, hk, K.fr f (fun a ha => by have := hF a ha; omega), Nat.le_trans hl f.1, hn⟩
theorem SB_BF {h : mx_H} {ls ks ss es us : List Nat} {u t c x n : Nat} (B : BF h ls u ks ss es t c) (S : SB h 69 x n us) : ¬ (64 ≤ x ∧ x ≤ 69) := by
  obtain ⟨b4, b5, b6, b7, b8, r⟩ := B
  obtain ⟨⟨m, e1⟩, e2, -⟩ := S
  rintro ⟨h1, h2⟩
  have : x = 64 ∨ x = 65 ∨ x = 66 ∨ x = 67 ∨ x = 68 ∨ x = 69 := by omega
  rcases this with rfl | rfl | rfl | rfl | rfl | rfl
  · rw [b4] at e2; cases e2
  · rw [b5] at e2; cases e2
  · rw [b6] at e2; cases e2
  · rw [b7] at e2; cases e2
  · rw [b8] at e2; cases e2
  · rw [e1] at e2; cases e2
section
variable {d : Nat} {h : mx_H} {x cp c : Nat} {ts : List tk}
theorem BT.kind (T : BT h x cp ts c) : mx_tag h 64 = some (.inl 1) ∧ mx_ln h 64 = 8 ∧ mx_el h 64 1 = .ref 66 ∧ mx_el h 64 6 = .int (nI ts.length) ∧ mx_el h 64 7 = .int (nI c) ∧ mx_tag h 66 = some (.inr .int) ∧ mx_ln h 66 = 121 ∧ mx_el h 66 c = .int (nI (tA ts c).1) ∧ (tA ts c).1 < 128 ∧ c < 121 ∧ ts.length ≤ 120 ∧ c ≤ ts.length := by
  obtain ⟨ls, u, ks, ss, es, n, us, B, R, k0, l1, l2, S, cu, hx, hk, K, hl, hn⟩ := T
  obtain ⟨t4, l4, e0, e1, e2, e3, e4, e5, e6, e7, t5, l5, x5, t6, l6, x6, t7, l7, x7, t8, l8, x8⟩ := BF_f B
  refine ⟨t4, l4, e1, e6, e7, t6, l6, ?_, (hk c).1, by omega, l1, l2⟩
  rw [x6 c (by omega)]
  by_cases hc : c < ts.length
  · rw [(R c hc).1]
  · have : c = ts.length := by omega
    subst this
    rw [k0, tA_big (Nat.le_refl _)]
theorem BT.cur (T : BT h x cp ts c) {c' : Nat} (hc : c' ≤ ts.length) : BT (mx_up h 64 7 (.int (nI c'))) x cp ts c' := by
  obtain ⟨ls, u, ks, ss, es, n, us, B, R, k0, l1, l2, S, cu, hx, hk, K, hl, hn⟩ := T
  have hx2 := SB_BF B S
  exact ⟨ls, u, ks, ss, es, n, us, BF_cur B c', R, k0, l1, hc, SB_fr S (F := [64]) (Fr.up (by simp)) (by simp) (by simp; omega), cu, hx, hk, K.fr (Fr.up (F := [64]) (by simp)) (by simp), by rw [mx_len_up]; exact hl, hn⟩
theorem jt_isAt (T : BT h x cp ts c) {k : Nat} (hk : k < 2 ^ 31) : mx_G d 49 0 [some (.ref 64), some (.int (nI k))] [] h = some (some (.int (if tI ts c k = true then 1 else 0)), h) := by
  obtain ⟨f1, f2, f3, f4, f5, f6, f7, f8, f9, f10, f11, f12⟩ := T.kind
  unfold tI
  by_cases e : (tA ts c).1 = k
  · simp only [g49_0, g49_1, g49_4, g49_5, g49_8, g49_9, g49_10, g49_13, g49_14, g49_17, g49_18, mx_isr_ref, mx_isr_null, mx_wt_nil, mx_wt_1, mx_wt_2, mx_wt_3, Option.bind_some, Option.toList_some, Option.toList_none, List.cons_append, List.nil_append, mx_nl_int, mx_nl_ref, mx_nl_null, mx_nl_none, mx_nb0, mx_nb1, mx_fb0, mx_fb1, mx_cat_int, mx_cat_ref, if_true, if_false, not_true_eq_false, not_false_eq_true, mx_wt_4, mx_w4_0, mx_w9_0, mx_w9_1, mx_kn_int, mx_kn_ref, mx_kn_null, Nat.reduceLT, ofn, n10, f1, f2, f3, f5, f6, f7, nI_pos' (show c < 2 ^ 31 by omega), nI_clamp (show c < 2 ^ 31 by omega), f10, f8, e, beq_self_eq_true]
  · have e' : ¬ nI (tA ts c).1 = nI k := fun z => e ((nI_eq (by omega) hk).mp z)
    simp only [g49_0, g49_1, g49_4, g49_5, g49_8, g49_9, g49_10, g49_13, g49_14, g49_17, g49_18, mx_isr_ref, mx_isr_null, mx_wt_nil, mx_wt_1, mx_wt_2, mx_wt_3, Option.bind_some, Option.toList_some, Option.toList_none, List.cons_append, List.nil_append, mx_nl_int, mx_nl_ref, mx_nl_null, mx_nl_none, mx_nb0, mx_nb1, mx_fb0, mx_fb1, mx_cat_int, mx_cat_ref, if_true, if_false, not_true_eq_false, not_false_eq_true, mx_wt_4, mx_w4_0, mx_w9_0, mx_w9_1, mx_kn_int, mx_kn_ref, mx_kn_null, Nat.reduceLT, ofn, n10, f1, f2, f3, f5, f6, f7, nI_pos' (show c < 2 ^ 31 by omega), nI_clamp (show c < 2 ^ 31 by omega), f10, f8, e', show ((tA ts c).1 == k) = false by simpa using e, Bool.false_eq_true]
theorem jt_kind (T : BT h x cp ts c) : mx_G d 158 0 [some (.ref 64)] [] h = some (some (.int (nI (tA ts c).1)), h) := by
  obtain ⟨f1, f2, f3, f4, f5, f6, f7, f8, f9, f10, f11, f12⟩ := T.kind
  simp only [g158_0, g158_1, g158_4, g158_5, g158_8, g158_9, mx_isr_ref, mx_isr_null, mx_wt_nil, mx_wt_1, mx_wt_2, mx_wt_3, Option.bind_some, Option.toList_some, Option.toList_none, List.cons_append, List.nil_append, mx_nl_int, mx_nl_ref, mx_nl_null, mx_nl_none, mx_nb0, mx_nb1, mx_fb0, mx_fb1, mx_cat_int, mx_cat_ref, if_true, if_false, not_true_eq_false, not_false_eq_true, mx_wt_4, mx_w4_0, mx_w9_0, mx_w9_1, mx_kn_int, mx_kn_ref, mx_kn_null, Nat.reduceLT, ofn, n10, f1, f2, f3, f5, f6, f7, nI_pos' (show c < 2 ^ 31 by omega), nI_clamp (show c < 2 ^ 31 by omega), f10, f8]
theorem jt_next (T : BT h x cp ts c) : ∃ h', mx_G d 51 0 [some (.ref 64)] [] h = some (none, h') ∧ BT h' x cp ts (min (c + 1) ts.length) ∧ Fr [64] h h' ∧ mw h' = mw h := by
  obtain ⟨f1, f2, f3, f4, f5, f6, f7, f8, f9, f10, f11, f12⟩ := T.kind
  by_cases e : ts.length ≤ c
  · refine ⟨h, ?_, by rw [show min (c + 1) ts.length = c by omega]; exact T, Fr.rfl _ _, rfl⟩
    simp only [g51_0, g51_1, g51_4, g51_5, g51_8, g51_11, g51_12, g51_13, g51_16, g51_17, g51_18, g51_21, mx_isr_ref, mx_isr_null, mx_wt_nil, mx_wt_1, mx_wt_2, mx_wt_3, Option.bind_some, Option.toList_some, Option.toList_none, List.cons_append, List.nil_append, mx_nl_int, mx_nl_ref, mx_nl_null, mx_nl_none, mx_nb0, mx_nb1, mx_fb0, mx_fb1, mx_cat_int, mx_cat_ref, if_true, if_false, not_true_eq_false, not_false_eq_true, mx_wt_4, mx_w4_0, mx_w9_0, mx_w9_1, mx_kn_int, mx_kn_ref, mx_kn_null, Nat.reduceLT, ofn, n10, f1, f2, f5, f4, nI_leI (show ts.length < 2 ^ 31 by omega) (show c < 2 ^ 31 by omega), e]
  · refine ⟨_, ?_, by rw [show min (c + 1) ts.length = c + 1 by omega]; exact T.cur (by omega), Fr.up (by simp), mw_up _ _ _ _⟩
    simp only [g51_0, g51_1, g51_4, g51_5, g51_8, g51_11, g51_12, g51_13, g51_16, g51_17, g51_18, g51_21, mx_isr_ref, mx_isr_null, mx_wt_nil, mx_wt_1, mx_wt_2, mx_wt_3, Option.bind_some, Option.toList_some, Option.toList_none, List.cons_append, List.nil_append, mx_nl_int, mx_nl_ref, mx_nl_null, mx_nl_none, mx_nb0, mx_nb1, mx_fb0, mx_fb1, mx_cat_int, mx_cat_ref, if_true, if_false, not_true_eq_false, not_false_eq_true, mx_wt_4, mx_w4_0, mx_w9_0, mx_w9_1, mx_kn_int, mx_kn_ref, mx_kn_null, Nat.reduceLT, ofn, n10, f1, f2, f5, f4, nI_leI (show ts.length < 2 ^ 31 by omega) (show c < 2 ^ 31 by omega), e, nI_1, show mt_nO ≤ 64 by decide]
theorem tI_ltN {k : Nat} (hk : k ≠ 0) (e : tI ts c k = true) : c < ts.length := by
  by_cases z : c < ts.length
  · exact z
  · unfold tI at e
    rw [tA_big (by omega)] at e
    exact absurd (by simpa using e) (Ne.symm hk)
theorem jt_take (T : BT h x cp ts c) {k : Nat} (hk : k < 2 ^ 31) (hk0 : k ≠ 0) : ∃ h', mx_G (d + 1) 52 0 [some (.ref 64), some (.int (nI k)), none] [] h = some (some (.int (if tI ts c k = true then 1 else 0)), h') ∧ BT h' x cp ts (if tI ts c k = true then c + 1 else c) ∧ Fr [64] h h' ∧ mw h' = mw h := by
  obtain ⟨f1, f2, f3, f4, f5, f6, f7, f8, f9, f10, f11, f12⟩ := T.kind
  by_cases e : tI ts c k = true
  · have hlt := tI_ltN hk0 e
    obtain ⟨h', n1, n2, n3, n4⟩ := jt_next (d := d) T
    rw [show min (c + 1) ts.length = c + 1 by omega] at n2
    rw [if_pos e, if_pos e]
    refine ⟨h', ?_, n2, n3, n4⟩
    have e' : (tA ts c).1 = k := by simpa [tI] using e
    simp only [g52_0, g52_1, g52_4, g52_5, g52_8, g52_9, g52_10, g52_13, g52_14, g52_17, g52_18, g52_19, g52_20, g52_23, g52_24, g52_27, g52_28, mx_isr_ref, mx_isr_null, mx_wt_nil, mx_wt_1, mx_wt_2, mx_wt_3, Option.bind_some, Option.toList_some, Option.toList_none, List.cons_append, List.nil_append, mx_nl_int, mx_nl_ref, mx_nl_null, mx_nl_none, mx_nb0, mx_nb1, mx_fb0, mx_fb1, mx_cat_int, mx_cat_ref, if_true, if_false, not_true_eq_false, not_false_eq_true, mx_wt_4, mx_w4_0, mx_w9_0, mx_w9_1, mx_kn_int, mx_kn_ref, mx_kn_null, Nat.reduceLT, ofn, n10, f1, f2, f3, f5, f6, f7, nI_pos' (show c < 2 ^ 31 by omega), nI_clamp (show c < 2 ^ 31 by omega), f10, f8, e', n1]
  · rw [if_neg e, if_neg e]
    refine ⟨h, ?_, T, Fr.rfl _ _, rfl⟩
    have e' : ¬ nI (tA ts c).1 = nI k := fun z => e (by simpa [tI] using (nI_eq (by omega) hk).mp z)
    simp only [g52_0, g52_1, g52_4, g52_5, g52_8, g52_9, g52_10, g52_13, g52_14, g52_17, g52_18, g52_19, g52_20, g52_23, g52_24, g52_27, g52_28, mx_isr_ref, mx_isr_null, mx_wt_nil, mx_wt_1, mx_wt_2, mx_wt_3, Option.bind_some, Option.toList_some, Option.toList_none, List.cons_append, List.nil_append, mx_nl_int, mx_nl_ref, mx_nl_null, mx_nl_none, mx_nb0, mx_nb1, mx_fb0, mx_fb1, mx_cat_int, mx_cat_ref, if_true, if_false, not_true_eq_false, not_false_eq_true, mx_wt_4, mx_w4_0, mx_w9_0, mx_w9_1, mx_kn_int, mx_kn_ref, mx_kn_null, Nat.reduceLT, ofn, n10, f1, f2, f3, f5, f6, f7, nI_pos' (show c < 2 ^ 31 by omega), nI_clamp (show c < 2 ^ 31 by omega), f10, f8, e']
/-- the letters of a word are compared -/
theorem jt_wordL {ls ks ss es : List Nat} {u t : Nat} {s b : Nat} {cs : List Nat} (B : BF h ls u ks ss es t c) (hc : c < 121) (S : sB h s b cs) (hb : ss.getD c 0 + cs.length ≤ 120) : ∀ n i, n + i = cs.length → (sli ls (ss.getD c 0) (ss.getD c 0 + cs.length)).take i = cs.take i →
    mx_G (d + 4) 110 43 [some (.ref 64), some (.ref s), some (.int (nI i))] [] h = if sli ls (ss.getD c 0) (ss.getD c 0 + cs.length) = cs then mx_G (d + 4) 110 83 [some (.ref 64), some (.ref s), some (.int (nI cs.length))] [] h else some (some (.int 0), h) := by
  obtain ⟨t4, l4, e0, e1, e2, e3, e4, e5, e6, e7, t5, l5, x5, t6, l6, x6, t7, l7, x7, t8, l8, x8⟩ := BF_f B
  have hl5 := B.2.2.2.2.2.1
  have hl := S.2.2.2.1
  intro n
  induction n with
  | zero =>
    intro i hi hp
    have : i = cs.length := by omega
    subst this
    rw [List.take_length, List.take_of_length_le (by rw [sli_len _ (by omega)]; omega)] at hp
    rw [if_pos hp]
    simp only [g110_43, g110_44, g110_45, g110_48, mx_isr_ref, mx_isr_null, mx_wt_nil, mx_wt_1, mx_wt_2, mx_wt_3, Option.bind_some, Option.toList_some, Option.toList_none, List.cons_append, List.nil_append, mx_nl_int, mx_nl_ref, mx_nl_null, mx_nl_none, mx_nb0, mx_nb1, mx_fb0, mx_fb1, mx_cat_int, mx_cat_ref, if_true, if_false, not_true_eq_false, not_false_eq_true, mx_wt_4, mx_w4_0, mx_w9_0, mx_w9_1, mx_kn_int, mx_kn_ref, mx_kn_null, Nat.reduceLT, ofn, n10, (sB_f S).1, js_len S, show nI cs.length ≤ nI cs.length from nI_le (Nat.le_refl _) (by omega)]
  | succ n ih =>
    intro i hi hp
    have hi2 : i < cs.length := by omega
    have hc1 := gd_lt B.2.2.2.2.2.2.2.2.2.2 (ss.getD c 0 + i)
    have hc2 := sB_lt S i
    have si : (sli ls (ss.getD c 0) (ss.getD c 0 + cs.length))[i]? = some (ls.getD (ss.getD c 0 + i) 0) := by rw [sli_get _ (by omega), gd_get (by omega)]
    rw [g110_43]
    by_cases e : ls.getD (ss.getD c 0 + i) 0 = cs.getD i 0
    · simp only [g110_44, g110_45, g110_48, g110_51, g110_52, g110_55, g110_56, g110_59, g110_60, g110_63, g110_64, g110_65, g110_66, g110_67, g110_68, g110_69, g110_72, g110_75, g110_76, g110_77, g110_80, mx_isr_ref, mx_isr_null, mx_wt_nil, mx_wt_1, mx_wt_2, mx_wt_3, Option.bind_some, Option.toList_some, Option.toList_none, List.cons_append, List.nil_append, mx_nl_int, mx_nl_ref, mx_nl_null, mx_nl_none, mx_nb0, mx_nb1, mx_fb0, mx_fb1, mx_cat_int, mx_cat_ref, if_true, if_false, not_true_eq_false, not_false_eq_true, mx_wt_4, mx_w4_0, mx_w9_0, mx_w9_1, mx_kn_int, mx_kn_ref, mx_kn_null, Nat.reduceLT, ofn, n10, (sB_f S).1, js_len S, nI_ge hi2 (show cs.length < 2 ^ 31 by omega), t4, l4, e0, e2, e7, t7, l7, nI_pos' (show c < 2 ^ 31 by omega), nI_clamp (show c < 2 ^ 31 by omega), hc, x7 c hc, nI_add, t5, l5, nI_pos' (show ss.getD c 0 + i < 2 ^ 31 by omega), nI_clamp (show ss.getD c 0 + i < 2 ^ 31 by omega), show ss.getD c 0 + i < 120 by omega, x5 _ (show ss.getD c 0 + i < 120 by omega), js_char S hi2, e, nI_1]
      refine ih (i + 1) (by omega) ?_
      rw [List.take_add_one, List.take_add_one, hp, si, gd_get hi2, e]
    · have e' : ¬ nI (ls.getD (ss.getD c 0 + i) 0) = nI (cs.getD i 0) := fun z => e ((nI_eq (by omega) (by omega)).mp z)
      simp only [g110_44, g110_45, g110_48, g110_51, g110_52, g110_55, g110_56, g110_59, g110_60, g110_63, g110_64, g110_65, g110_66, g110_67, g110_68, g110_69, g110_72, g110_75, g110_76, mx_isr_ref, mx_isr_null, mx_wt_nil, mx_wt_1, mx_wt_2, mx_wt_3, Option.bind_some, Option.toList_some, Option.toList_none, List.cons_append, List.nil_append, mx_nl_int, mx_nl_ref, mx_nl_null, mx_nl_none, mx_nb0, mx_nb1, mx_fb0, mx_fb1, mx_cat_int, mx_cat_ref, if_true, if_false, not_true_eq_false, not_false_eq_true, mx_wt_4, mx_w4_0, mx_w9_0, mx_w9_1, mx_kn_int, mx_kn_ref, mx_kn_null, Nat.reduceLT, ofn, n10, (sB_f S).1, js_len S, nI_ge hi2 (show cs.length < 2 ^ 31 by omega), t4, l4, e0, e2, e7, t7, l7, nI_pos' (show c < 2 ^ 31 by omega), nI_clamp (show c < 2 ^ 31 by omega), hc, x7 c hc, nI_add, t5, l5, nI_pos' (show ss.getD c 0 + i < 2 ^ 31 by omega), nI_clamp (show ss.getD c 0 + i < 2 ^ 31 by omega), show ss.getD c 0 + i < 120 by omega, x5 _ (show ss.getD c 0 + i < 120 by omega), js_char S hi2, e']
      rw [if_neg (fun z => e ?_)]
      rw [z, gd_get hi2] at si
      exact (Option.some.inj si).symm
theorem jt_word (T : BT h x cp ts c) {s b : Nat} {cs : List Nat} (S : sB h s b cs) : ∃ h', mx_G (d + 4) 110 0 [some (.ref 64), some (.ref s), none] [] h = some (some (.int (if tW ts c cs = true then 1 else 0)), h') ∧ BT h' x cp ts (if tW ts c cs = true then c + 1 else c) ∧ Fr [64] h h' ∧ mw h' = mw h := by
  obtain ⟨f1, f2, f3, f4, f5, f6, f7, f8, f9, f10, f11, f12⟩ := T.kind
  have T0 := T
  obtain ⟨ls, u, ks, ss, es, n, us, B, R, k0, l1, l2, SS, cu, hx, hk, K, hl, hn⟩ := T
  obtain ⟨t4, l4, e0, e1, e2, e3, e4, e5, e6, e7, t5, l5, x5, t6, l6, x6, t7, l7, x7, t8, l8, x8⟩ := BF_f B
  have hl5 := B.2.2.2.2.2.1
  have hcl := S.2.2.2.1
  by_cases hk1 : (tA ts c).1 = 1
  · have hlt : c < ts.length := tI_ltN (k := 1) (by decide) (by simp [tI, hk1])
    obtain ⟨r1, r2, r3, -⟩ := (R c hlt).2
    obtain ⟨r4, -⟩ := r3 hk1
    have htw : (tW ts c cs = true) = (sli ls (ss.getD c 0) (es.getD c 0) = cs) := by
      apply propext
      rw [r4]
      simp only [tW, beq_iff_eq]
      constructor
      · intro z; rw [z]
      · intro z; rw [← z, ← hk1]
    have q0 : nI (es.getD c 0) - nI (ss.getD c 0) = nI (es.getD c 0 - ss.getD c 0) := nI_sub (by omega)
    by_cases hlen : es.getD c 0 - ss.getD c 0 = cs.length
    · have he : es.getD c 0 = ss.getD c 0 + cs.length := by omega
      have L := jt_wordL (d := d) B (by omega) S (by omega) cs.length 0 (by omega) (by simp)
      rw [← he, nI_0] at L
      have pre : mx_G (d + 4) 110 0 [some (.ref 64), some (.ref s), none] [] h = mx_G (d + 4) 110 43 [some (.ref 64), some (.ref s), some (.int 0)] [] h := by
        simp only [g110_0, g110_1, g110_4, g110_5, g110_8, g110_9, g110_10, g110_13, g110_14, g110_17, g110_18, g110_21, g110_22, g110_23, g110_26, g110_27, g110_30, g110_31, g110_32, g110_33, g110_36, g110_39, g110_40, g110_41, g110_42, mx_isr_ref, mx_isr_null, mx_wt_nil, mx_wt_1, mx_wt_2, mx_wt_3, Option.bind_some, Option.toList_some, Option.toList_none, List.cons_append, List.nil_append, mx_nl_int, mx_nl_ref, mx_nl_null, mx_nl_none, mx_nb0, mx_nb1, mx_fb0, mx_fb1, mx_cat_int, mx_cat_ref, if_true, if_false, not_true_eq_false, not_false_eq_true, mx_wt_4, mx_w4_0, mx_w9_0, mx_w9_1, mx_kn_int, mx_kn_ref, mx_kn_null, Nat.reduceLT, ofn, n10, t4, l4, e1, e2, e3, e7, t6, l6, nI_pos' (show c < 2 ^ 31 by omega), nI_clamp (show c < 2 ^ 31 by omega), f10, f8, hk1, show nI 1 = 1 from rfl, t7, l7, x7 c f10, t8, l8, x8 c f10, q0, hlen, (sB_f S).1, js_len S]
      rw [pre, L]
      by_cases e : tW ts c cs = true
      · have e2 := e
        rw [htw] at e2
        rw [if_pos e, if_pos e, if_pos e2]
        refine ⟨_, ?_, T0.cur (c' := c + 1) (by omega), Fr.up (by simp), mw_up _ _ _ _⟩
        simp only [g110_83, g110_84, g110_85, g110_88, g110_89, g110_90, g110_93, g110_94, mx_isr_ref, mx_isr_null, mx_wt_nil, mx_wt_1, mx_wt_2, mx_wt_3, Option.bind_some, Option.toList_some, Option.toList_none, List.cons_append, List.nil_append, mx_nl_int, mx_nl_ref, mx_nl_null, mx_nl_none, mx_nb0, mx_nb1, mx_fb0, mx_fb1, mx_cat_int, mx_cat_ref, if_true, if_false, not_true_eq_false, not_false_eq_true, mx_wt_4, mx_w4_0, mx_w9_0, mx_w9_1, mx_kn_int, mx_kn_ref, mx_kn_null, Nat.reduceLT, ofn, n10, t4, l4, e7, nI_1, show mt_nO ≤ 64 by decide]
      · have e2 := e
        rw [htw] at e2
        rw [if_neg e, if_neg e, if_neg e2]
        exact ⟨h, rfl, T0, Fr.rfl _ _, rfl⟩
    · have e : ¬ tW ts c cs = true := by
        rw [htw]
        intro z
        rw [← z, sli_len _ (by omega)] at hlen
        exact hlen rfl
      rw [if_neg e, if_neg e]
      refine ⟨h, ?_, T0, Fr.rfl _ _, rfl⟩
      have q1 : ¬ nI (es.getD c 0 - ss.getD c 0) = nI cs.length := fun z => hlen ((nI_eq (by omega) (by omega)).mp z)
      simp only [g110_0, g110_1, g110_4, g110_5, g110_8, g110_9, g110_10, g110_13, g110_14, g110_17, g110_18, g110_21, g110_22, g110_23, g110_26, g110_27, g110_30, g110_31, g110_32, g110_33, g110_36, g110_39, g110_40, mx_isr_ref, mx_isr_null, mx_wt_nil, mx_wt_1, mx_wt_2, mx_wt_3, Option.bind_some, Option.toList_some, Option.toList_none, List.cons_append, List.nil_append, mx_nl_int, mx_nl_ref, mx_nl_null, mx_nl_none, mx_nb0, mx_nb1, mx_fb0, mx_fb1, mx_cat_int, mx_cat_ref, if_true, if_false, not_true_eq_false, not_false_eq_true, mx_wt_4, mx_w4_0, mx_w9_0, mx_w9_1, mx_kn_int, mx_kn_ref, mx_kn_null, Nat.reduceLT, ofn, n10, t4, l4, e1, e2, e3, e7, t6, l6, nI_pos' (show c < 2 ^ 31 by omega), nI_clamp (show c < 2 ^ 31 by omega), f10, f8, hk1, show nI 1 = 1 from rfl, t7, l7, x7 c f10, t8, l8, x8 c f10, q0, q1, (sB_f S).1, js_len S]
  · have e : ¬ tW ts c cs = true := by
      simp only [tW, beq_iff_eq]
      intro z
      rw [z] at hk1
      exact hk1 rfl
    rw [if_neg e, if_neg e]
    refine ⟨h, ?_, T0, Fr.rfl _ _, rfl⟩
    have q1 : ¬ nI (tA ts c).1 = 1 := fun z => hk1 ((nI_eq (b := 1) (by omega) (by decide)).mp z)
    simp only [g110_0, g110_1, g110_4, g110_5, g110_8, g110_9, g110_10, g110_13, g110_14, g110_17, g110_18, g110_21, g110_22, g110_23, g110_26, g110_27, g110_30, g110_31, g110_32, g110_33, g110_36, g110_39, g110_40, mx_isr_ref, mx_isr_null, mx_wt_nil, mx_wt_1, mx_wt_2, mx_wt_3, Option.bind_some, Option.toList_some, Option.toList_none, List.cons_append, List.nil_append, mx_nl_int, mx_nl_ref, mx_nl_null, mx_nl_none, mx_nb0, mx_nb1, mx_fb0, mx_fb1, mx_cat_int, mx_cat_ref, if_true, if_false, not_true_eq_false, not_false_eq_true, mx_wt_4, mx_w4_0, mx_w9_0, mx_w9_1, mx_kn_int, mx_kn_ref, mx_kn_null, Nat.reduceLT, ofn, n10, t4, l4, e1, e7, t6, l6, nI_pos' (show c < 2 ^ 31 by omega), nI_clamp (show c < 2 ^ 31 by omega), f10, f8, q1]
theorem jt_clear (T : BT h x cp ts c) : ∃ h', mx_G d 118 0 [some (.ref 64)] [] h = some (none, h') ∧ Fr [64] h h' ∧ mw h' = mw h ∧ h' = mx_up h 64 5 (.int 0) := by
  obtain ⟨f1, f2, f3, f4, f5, f6, f7, f8, f9, f10, f11, f12⟩ := T.kind
  refine ⟨_, ?_, Fr.up (by simp), mw_up _ _ _ _, rfl⟩
  simp only [g118_0, g118_1, g118_2, g118_5, mx_isr_ref, mx_isr_null, mx_wt_nil, mx_wt_1, mx_wt_2, mx_wt_3, Option.bind_some, Option.toList_some, Option.toList_none, List.cons_append, List.nil_append, mx_nl_int, mx_nl_ref, mx_nl_null, mx_nl_none, mx_nb0, mx_nb1, mx_fb0, mx_fb1, mx_cat_int, mx_cat_ref, if_true, if_false, not_true_eq_false, not_false_eq_true, mx_wt_4, mx_w4_0, mx_w9_0, mx_w9_1, mx_kn_int, mx_kn_ref, mx_kn_null, Nat.reduceLT, ofn, n10, f1, show mt_nO ≤ 64 by decide]
end
