/-! Numbers, equals, foldAll. -/
section
variable {d : Nat} {h : mx_H}
theorem jt_numL {ls ks ss es : List Nat} {u t c : Nat} (B : BF h ls u ks ss es t c) (hc : c < 121) (he : es.getD c 0 ≤ 120) {x1 x2 : Int32} : ∀ n i v, n + i = es.getD c 0 → (∀ k ∈ sli ls i (es.getD c 0), isDig k = true) →
    mx_G d 115 57 [some (.ref 64), some (.int x1), some (.int x2), some (.int (nI v)), some (.int (nI i))] [] h = mx_G d 115 93 [some (.ref 64), some (.int x1), some (.int x2), some (.int (nI ((sli ls i (es.getD c 0)).foldl (fun v c => 10 * v + (c - 48)) v))), some (.int (nI (es.getD c 0)))] [] h := by
  obtain ⟨t4, l4, e0, e1, e2, e3, e4, e5, e6, e7, t5, l5, x5, t6, l6, x6, t7, l7, x7, t8, l8, x8⟩ := BF_f B
  have hl5 := B.2.2.2.2.2.1
  intro n
  induction n with
  | zero =>
    intro i v hi hd
    have : i = es.getD c 0 := by omega
    rw [this, sli_nil (Nat.le_refl _)]
    simp only [g115_57, g115_59, g115_60, g115_63, g115_64, g115_67, g115_68, mx_isr_ref, mx_isr_null, mx_wt_nil, mx_wt_1, mx_wt_2, mx_wt_3, Option.bind_some, Option.toList_some, Option.toList_none, List.cons_append, List.nil_append, mx_nl_int, mx_nl_ref, mx_nl_null, mx_nl_none, mx_nb0, mx_nb1, mx_fb0, mx_fb1, mx_cat_int, mx_cat_ref, if_true, if_false, not_true_eq_false, not_false_eq_true, mx_wt_4, mx_w4_0, mx_w9_0, mx_w9_1, mx_kn_int, mx_kn_ref, mx_kn_null, Nat.reduceLT, ofn, n10, t4, l4, e3, e7, t8, l8, nI_pos' (show c < 2 ^ 31 by omega), nI_clamp (show c < 2 ^ 31 by omega), hc, x8 c hc, show nI (es.getD c 0) ≤ nI (es.getD c 0) from nI_le (Nat.le_refl _) (by omega), List.foldl_nil]
  | succ n ih =>
    intro i v hi hd
    have hlt : i < es.getD c 0 := by omega
    rw [sli_cons hlt (by omega)] at hd ⊢
    have hd0 := hd _ List.mem_cons_self
    have hcc := gd_lt B.2.2.2.2.2.2.2.2.2.2 i
    have h48 : 48 ≤ ls.getD i 0 := by
      simp only [isDig, Bool.and_eq_true, decide_eq_true_eq] at hd0
      omega
    have e10 : nI v * 10 = nI (10 * v) := by rw [show (10 : Int32) = nI 10 from rfl, nI_mul, Nat.mul_comm]
    have e48 : nI (ls.getD i 0) - 48 = nI (ls.getD i 0 - 48) := nI_sub (b := 48) h48
    rw [g115_57]
    simp only [g115_59, g115_60, g115_63, g115_64, g115_67, g115_68, g115_71, g115_72, g115_74, g115_75, g115_76, g115_79, g115_81, g115_82, g115_84, g115_85, g115_86, g115_87, g115_90, mx_isr_ref, mx_isr_null, mx_wt_nil, mx_wt_1, mx_wt_2, mx_wt_3, Option.bind_some, Option.toList_some, Option.toList_none, List.cons_append, List.nil_append, mx_nl_int, mx_nl_ref, mx_nl_null, mx_nl_none, mx_nb0, mx_nb1, mx_fb0, mx_fb1, mx_cat_int, mx_cat_ref, if_true, if_false, not_true_eq_false, not_false_eq_true, mx_wt_4, mx_w4_0, mx_w9_0, mx_w9_1, mx_kn_int, mx_kn_ref, mx_kn_null, Nat.reduceLT, ofn, n10, t4, l4, e0, e3, e7, t8, l8, nI_pos' (show c < 2 ^ 31 by omega), nI_clamp (show c < 2 ^ 31 by omega), hc, x8 c hc, nI_ge hlt (show es.getD c 0 < 2 ^ 31 by omega), t5, l5, nI_pos' (show i < 2 ^ 31 by omega), nI_clamp (show i < 2 ^ 31 by omega), show i < 120 by omega, x5 i (by omega), e10, e48, nI_add, nI_1]
    rw [ih (i + 1) _ (by omega) (fun k hk => hd k (List.mem_cons_of_mem _ hk)), List.foldl_cons]
theorem jt_number {x cp c : Nat} {ts : List tk} (T : BT h x cp ts c) (hk : (tA ts c).1 = 2) : mx_G d 115 0 [some (.ref 64), none, none, none, none] [] h = some (some (.int (Int32.ofInt (tv ts c))), h) := by
  have hlt : c < ts.length := tI_ltN (k := 2) (by decide) (by simp [tI, hk])
  obtain ⟨f1, f2, f3, f4, f5, f6, f7, f8, f9, f10, f11, f12⟩ := T.kind
  obtain ⟨ls, u, ks, ss, es, n, us, B, R, k0, l1, l2, S, cu, hx, hkk, K, hl, hn⟩ := T
  obtain ⟨t4, l4, e0, e1, e2, e3, e4, e5, e6, e7, t5, l5, x5, t6, l6, x6, t7, l7, x7, t8, l8, x8⟩ := BF_f B
  have hl5 := B.2.2.2.2.2.1
  obtain ⟨r1, r2, -, r3, -⟩ := (R c hlt).2
  have r3 := r3 hk
  obtain ⟨m, m1, m2, m3, m4⟩ := (hkk c).2 hk
  have hcs : sli ls (ss.getD c 0) (es.getD c 0) = ls.getD (ss.getD c 0) 0 :: sli ls (ss.getD c 0 + 1) (es.getD c 0) := sli_cons r1 (by omega)
  have hcc := gd_lt B.2.2.2.2.2.2.2.2.2.2 (ss.getD c 0)
  have q2 : nI (tA ts c).1 = 2 := by rw [hk]; rfl
  have htv : tv ts c = if (tA ts c).2.head? = some 45 then - (dvl (tA ts c).2.tail : Int) else (dvl (tA ts c).2 : Int) := rfl
  by_cases h45 : ls.getD (ss.getD c 0) 0 = 45
  · have q45 : nI (ls.getD (ss.getD c 0) 0) = 45 := by rw [h45]; rfl
    have hm : m = sli ls (ss.getD c 0 + 1) (es.getD c 0) := by
      rcases m4 with z | z
      · rw [z, hcs, h45] at r3
        have := m3 45 (by rw [← r3]; exact List.mem_cons_self)
        exact absurd this (by decide)
      · rw [z, hcs, h45] at r3
        exact (List.cons.inj r3).2.symm
    have L := jt_numL (d := d) B f10 r2 (x1 := nI (ss.getD c 0)) (x2 := 1) (es.getD c 0 - (ss.getD c 0 + 1)) (ss.getD c 0 + 1) 0 (by omega) (by rw [← hm]; exact m3)
    have hval : tv ts c = - (dvl m : Int) := by
      rw [htv, ← r3, hcs, h45, hm]
      rfl
    have hneg : - nI (dvl m) = Int32.ofInt (tv ts c) := by rw [hval, Int32.ofInt_neg, oI_nat]
    rw [← hm, nI_0] at L
    have pre : mx_G d 115 0 [some (.ref 64), none, none, none, none] [] h = mx_G d 115 57 [some (.ref 64), some (.int (nI (ss.getD c 0))), some (.int 1), some (.int 0), some (.int (nI (ss.getD c 0 + 1)))] [] h := by
      simp only [g115_0, g115_1, g115_4, g115_5, g115_8, g115_9, g115_10, g115_13, g115_14, g115_15, g115_16, g115_19, g115_20, g115_23, g115_24, g115_25, g115_26, g115_29, g115_30, g115_31, g115_33, g115_36, g115_37, g115_40, g115_41, g115_42, g115_43, g115_44, g115_45, g115_48, g115_49, g115_50, g115_51, g115_54, g115_55, mx_isr_ref, mx_isr_null, mx_wt_nil, mx_wt_1, mx_wt_2, mx_wt_3, Option.bind_some, Option.toList_some, Option.toList_none, List.cons_append, List.nil_append, mx_nl_int, mx_nl_ref, mx_nl_null, mx_nl_none, mx_nb0, mx_nb1, mx_fb0, mx_fb1, mx_cat_int, mx_cat_ref, if_true, if_false, not_true_eq_false, not_false_eq_true, mx_wt_4, mx_w4_0, mx_w9_0, mx_w9_1, mx_kn_int, mx_kn_ref, mx_kn_null, Nat.reduceLT, ofn, n10, t4, l4, e0, e1, e2, e7, t6, l6, t7, l7, nI_pos' (show c < 2 ^ 31 by omega), nI_clamp (show c < 2 ^ 31 by omega), f10, f8, q2, x7 c f10, t5, l5, nI_pos' (show ss.getD c 0 < 2 ^ 31 by omega), nI_clamp (show ss.getD c 0 < 2 ^ 31 by omega), show ss.getD c 0 < 120 by omega, x5 _ (show ss.getD c 0 < 120 by omega), q45, nI_1]
    rw [pre, L]
    simp only [g115_93, g115_94, g115_97, g115_98, g115_99, g115_102, g115_103, mx_isr_ref, mx_isr_null, mx_wt_nil, mx_wt_1, mx_wt_2, mx_wt_3, Option.bind_some, Option.toList_some, Option.toList_none, List.cons_append, List.nil_append, mx_nl_int, mx_nl_ref, mx_nl_null, mx_nl_none, mx_nb0, mx_nb1, mx_fb0, mx_fb1, mx_cat_int, mx_cat_ref, if_true, if_false, not_true_eq_false, not_false_eq_true, mx_wt_4, mx_w4_0, mx_w9_0, mx_w9_1, mx_kn_int, mx_kn_ref, mx_kn_null, Nat.reduceLT, ofn, n10]
    rw [← hneg]
    rfl
  · have q45 : ¬ nI (ls.getD (ss.getD c 0) 0) = 45 := fun z => h45 ((nI_eq (b := 45) (by omega) (by decide)).mp z)
    have hm : m = sli ls (ss.getD c 0) (es.getD c 0) := by
      rcases m4 with z | z
      · rw [← z, r3]
      · rw [z, hcs] at r3
        exact absurd (List.cons.inj r3).1 h45
    have L := jt_numL (d := d) B f10 r2 (x1 := nI (ss.getD c 0)) (x2 := 0) (es.getD c 0 - ss.getD c 0) (ss.getD c 0) 0 (by omega) (by rw [← hm]; exact m3)
    have hval : tv ts c = (dvl m : Int) := by
      rw [htv, ← r3, if_neg (by rw [hcs]; simpa using h45), hm]
    have hpos : nI (dvl m) = Int32.ofInt (tv ts c) := by rw [hval, oI_nat]
    rw [← hm, nI_0] at L
    have pre : mx_G d 115 0 [some (.ref 64), none, none, none, none] [] h = mx_G d 115 57 [some (.ref 64), some (.int (nI (ss.getD c 0))), some (.int 0), some (.int 0), some (.int (nI (ss.getD c 0)))] [] h := by
      simp only [g115_0, g115_1, g115_4, g115_5, g115_8, g115_9, g115_10, g115_13, g115_14, g115_15, g115_16, g115_19, g115_20, g115_23, g115_24, g115_25, g115_26, g115_29, g115_30, g115_31, g115_33, g115_36, g115_37, g115_40, g115_41, g115_42, g115_43, g115_44, g115_45, g115_48, g115_49, g115_50, g115_51, g115_54, g115_55, mx_isr_ref, mx_isr_null, mx_wt_nil, mx_wt_1, mx_wt_2, mx_wt_3, Option.bind_some, Option.toList_some, Option.toList_none, List.cons_append, List.nil_append, mx_nl_int, mx_nl_ref, mx_nl_null, mx_nl_none, mx_nb0, mx_nb1, mx_fb0, mx_fb1, mx_cat_int, mx_cat_ref, if_true, if_false, not_true_eq_false, not_false_eq_true, mx_wt_4, mx_w4_0, mx_w9_0, mx_w9_1, mx_kn_int, mx_kn_ref, mx_kn_null, Nat.reduceLT, ofn, n10, t4, l4, e0, e1, e2, e7, t6, l6, t7, l7, nI_pos' (show c < 2 ^ 31 by omega), nI_clamp (show c < 2 ^ 31 by omega), f10, f8, q2, x7 c f10, t5, l5, nI_pos' (show ss.getD c 0 < 2 ^ 31 by omega), nI_clamp (show ss.getD c 0 < 2 ^ 31 by omega), show ss.getD c 0 < 120 by omega, x5 _ (show ss.getD c 0 < 120 by omega), q45]
    rw [pre, L]
    simp only [g115_93, g115_94, g115_97, g115_98, g115_99, g115_102, g115_103, mx_isr_ref, mx_isr_null, mx_wt_nil, mx_wt_1, mx_wt_2, mx_wt_3, Option.bind_some, Option.toList_some, Option.toList_none, List.cons_append, List.nil_append, mx_nl_int, mx_nl_ref, mx_nl_null, mx_nl_none, mx_nb0, mx_nb1, mx_fb0, mx_fb1, mx_cat_int, mx_cat_ref, if_true, if_false, not_true_eq_false, not_false_eq_true, mx_wt_4, mx_w4_0, mx_w9_0, mx_w9_1, mx_kn_int, mx_kn_ref, mx_kn_null, Nat.reduceLT, ofn, n10]
    rw [← hpos]
    rfl
/-- equals -/
theorem nvs_inj {a b : List Nat} (ha : ∀ c ∈ a, c < 128) (hb : ∀ c ∈ b, c < 128) (e : nvs a = nvs b) : a = b := by
  have hl : a.length = b.length := by
    have := congrArg List.length e
    rw [bs_len, bs_len] at this
    exact this
  apply List.ext_getElem?
  intro k
  by_cases hk : k < a.length
  · have e1 := bs_get a k hk
    rw [e, bs_get b k (by omega)] at e1
    have := (nI_eq (by have := gd_lt hb k; omega) (by have := gd_lt ha k; omega)).mp (Value.int.inj e1)
    rw [gd_get hk, gd_get (show k < b.length by omega), this]
  · rw [List.getElem?_eq_none (by omega), List.getElem?_eq_none (by omega)]
theorem js_eqL {s b s' b' : Nat} {cs cs' : List Nat} (S : sB h s b cs) (S' : sB h s' b' cs') (hl : cs.length = cs'.length) : ∀ n i, n + i = cs.length → cs.take i = cs'.take i → mx_G d 106 9 [some (.ref b), some (.ref b'), some (.int (nI i))] [] h = some (some (.int (if cs = cs' then 1 else 0)), h) := by
  obtain ⟨t, l, e0, e1, tb, lb, eb⟩ := sB_f S
  obtain ⟨t', l', e0', e1', tb', lb', eb'⟩ := sB_f S'
  have hk := S.2.2.2.1
  intro n
  induction n with
  | zero =>
    intro i hi hp
    have : i = cs.length := by omega
    subst this
    have : cs = cs' := by
      rw [List.take_length, hl, List.take_length] at hp
      exact hp
    rw [if_pos this]
    simp only [g106_9, g106_10, g106_11, g106_11c, g106_11i, g106_11q, g106_12, g106_15, g106_16, g106_17, g106_17z, g106_18, g106_19, g106_20, g106_20z, g106_21, g106_24, g106_25, g106_26, g106_29, g106_32, g106_33, mx_isr_ref, mx_isr_null, mx_wt_nil, mx_wt_1, mx_wt_2, mx_wt_3, Option.bind_some, Option.toList_some, Option.toList_none, List.cons_append, List.nil_append, mx_nl_int, mx_nl_ref, mx_nl_null, mx_nl_none, mx_nb0, mx_nb1, mx_fb0, mx_fb1, mx_cat_int, mx_cat_ref, if_true, if_false, not_true_eq_false, not_false_eq_true, mx_wt_4, mx_w4_0, mx_w9_0, mx_w9_1, mx_kn_int, mx_kn_ref, mx_kn_null, Nat.reduceLT, ofn, n10, tb, lb, show nI cs.length ≤ nI cs.length from nI_le (Nat.le_refl _) (by omega)]
  | succ n ih =>
    intro i hi hp
    have hi2 : i < cs.length := by omega
    have c1 := sB_lt S i
    have c2 := sB_lt S' i
    rw [g106_9]
    by_cases e : cs.getD i 0 = cs'.getD i 0
    · simp only [g106_10, g106_11, g106_11c, g106_11i, g106_11q, g106_12, g106_15, g106_16, g106_17, g106_17z, g106_18, g106_19, g106_20, g106_20z, g106_21, g106_24, g106_25, g106_26, g106_29, mx_isr_ref, mx_isr_null, mx_wt_nil, mx_wt_1, mx_wt_2, mx_wt_3, Option.bind_some, Option.toList_some, Option.toList_none, List.cons_append, List.nil_append, mx_nl_int, mx_nl_ref, mx_nl_null, mx_nl_none, mx_nb0, mx_nb1, mx_fb0, mx_fb1, mx_cat_int, mx_cat_ref, if_true, if_false, not_true_eq_false, not_false_eq_true, mx_wt_4, mx_w4_0, mx_w9_0, mx_w9_1, mx_kn_int, mx_kn_ref, mx_kn_null, Nat.reduceLT, ofn, n10, tb, lb, nI_ge hi2 (show cs.length < 2 ^ 31 by omega), nI_pos' (show i < 2 ^ 31 by omega), nI_clamp (show i < 2 ^ 31 by omega), hi2, eb i hi2, tb', lb', show i < cs'.length by omega, eb' i (by omega), e, nI_1]
      refine ih (i + 1) (by omega) ?_
      rw [List.take_add_one, List.take_add_one, hp, gd_get hi2, gd_get (show i < cs'.length by omega), e]
    · have e' : ¬ nI (cs.getD i 0) = nI (cs'.getD i 0) := fun z => e ((nI_eq (by omega) (by omega)).mp z)
      rw [if_neg (fun z => e (by rw [z]))]
      simp only [g106_10, g106_11, g106_11c, g106_11i, g106_11q, g106_12, g106_15, g106_16, g106_17, g106_17z, g106_18, g106_19, g106_20, g106_20z, g106_21, g106_24, g106_25, mx_isr_ref, mx_isr_null, mx_wt_nil, mx_wt_1, mx_wt_2, mx_wt_3, Option.bind_some, Option.toList_some, Option.toList_none, List.cons_append, List.nil_append, mx_nl_int, mx_nl_ref, mx_nl_null, mx_nl_none, mx_nb0, mx_nb1, mx_fb0, mx_fb1, mx_cat_int, mx_cat_ref, if_true, if_false, not_true_eq_false, not_false_eq_true, mx_wt_4, mx_w4_0, mx_w9_0, mx_w9_1, mx_kn_int, mx_kn_ref, mx_kn_null, Nat.reduceLT, ofn, n10, tb, lb, nI_ge hi2 (show cs.length < 2 ^ 31 by omega), nI_pos' (show i < 2 ^ 31 by omega), nI_clamp (show i < 2 ^ 31 by omega), hi2, eb i hi2, tb', lb', show i < cs'.length by omega, eb' i (by omega), e']
theorem js_equals {s b s' b' : Nat} {cs cs' : List Nat} (S : sB h s b cs) (S' : sB h s' b' cs') : mx_G (d + 1) 105 0 [some (.ref s), some (.ref s'), none] [] h = some (some (.int (if cs = cs' then 1 else 0)), h) := by
  obtain ⟨t, l, e0, e1, tb, lb, eb⟩ := sB_f S
  obtain ⟨t', l', e0', e1', tb', lb', eb'⟩ := sB_f S'
  have hk := S.2.2.2.1
  have hk' := S'.2.2.2.1
  have sp := sep_str S S'
  by_cases hs : Value.ref s = Value.ref s'
  · cases hs
    rw [e0'] at e0
    cases e0
    have : cs = cs' := nvs_inj S.2.2.1 S'.2.2.1 (by
      have := S.2.1
      rw [S'.2.1] at this
      exact (Prod.mk.inj (Option.some.inj this)).2.symm)
    rw [if_pos this]
    simp only [g105_0, g105_1, g105_2, g105_5, g105_6, g105_7, g105_8, g105_11, g105_14, g105_15n, g105_15, g105_18, g105_19, g105_22, g105_25, g105_26, g105_29, g105_30, g105_33, g105_36, g105_37, g105_40, g105_41, g105_44, g105_47, g105_50, g105_51, g105_54, g105_55, mx_isr_ref, mx_isr_null, mx_wt_nil, mx_wt_1, mx_wt_2, mx_wt_3, Option.bind_some, Option.toList_some, Option.toList_none, List.cons_append, List.nil_append, mx_nl_int, mx_nl_ref, mx_nl_null, mx_nl_none, mx_nb0, mx_nb1, mx_fb0, mx_fb1, mx_cat_int, mx_cat_ref, if_true, if_false, not_true_eq_false, not_false_eq_true, mx_wt_4, mx_w4_0, mx_w9_0, mx_w9_1, mx_kn_int, mx_kn_ref, mx_kn_null, Nat.reduceLT, ofn, n10, sp]
  · have k106 : mx_G d 106 0 [some (.ref b), some (.ref b'), none] [] h = some (some (.int (if cs = cs' then 1 else 0)), h) := by
      by_cases hl : cs.length = cs'.length
      · have L := js_eqL (d := d) S S' hl cs.length 0 (by omega) (by simp)
        rw [nI_0] at L
        simp only [g106_0, g106_1, g106_1c, g106_1i, g106_1q, g106_2, g106_3, g106_3c, g106_3i, g106_3q, g106_4, g106_7, g106_8, mx_isr_ref, mx_isr_null, mx_wt_nil, mx_wt_1, mx_wt_2, mx_wt_3, Option.bind_some, Option.toList_some, Option.toList_none, List.cons_append, List.nil_append, mx_nl_int, mx_nl_ref, mx_nl_null, mx_nl_none, mx_nb0, mx_nb1, mx_fb0, mx_fb1, mx_cat_int, mx_cat_ref, if_true, if_false, not_true_eq_false, not_false_eq_true, mx_wt_4, mx_w4_0, mx_w9_0, mx_w9_1, mx_kn_int, mx_kn_ref, mx_kn_null, Nat.reduceLT, ofn, n10, tb, lb, tb', lb', hl]
        exact L
      · have e' : ¬ nI cs.length = nI cs'.length := fun z => hl ((nI_eq (by omega) (by omega)).mp z)
        rw [if_neg (fun z => hl (by rw [z]))]
        simp only [g106_0, g106_1, g106_1c, g106_1i, g106_1q, g106_2, g106_3, g106_3c, g106_3i, g106_3q, g106_4, g106_34, g106_35, mx_isr_ref, mx_isr_null, mx_wt_nil, mx_wt_1, mx_wt_2, mx_wt_3, Option.bind_some, Option.toList_some, Option.toList_none, List.cons_append, List.nil_append, mx_nl_int, mx_nl_ref, mx_nl_null, mx_nl_none, mx_nb0, mx_nb1, mx_fb0, mx_fb1, mx_cat_int, mx_cat_ref, if_true, if_false, not_true_eq_false, not_false_eq_true, mx_wt_4, mx_w4_0, mx_w9_0, mx_w9_1, mx_kn_int, mx_kn_ref, mx_kn_null, Nat.reduceLT, ofn, n10, tb, lb, tb', lb', e']
    by_cases hc : cs = cs'
    · rw [if_pos hc] at k106 ⊢
      simp only [g105_0, g105_1, g105_2, g105_5, g105_6, g105_7, g105_8, g105_11, g105_14, g105_15n, g105_15, g105_18, g105_19, g105_22, g105_25, g105_26, g105_29, g105_30, g105_33, g105_36, g105_37, g105_40, g105_41, g105_44, g105_47, g105_50, g105_51, g105_54, g105_55, mx_isr_ref, mx_isr_null, mx_wt_nil, mx_wt_1, mx_wt_2, mx_wt_3, Option.bind_some, Option.toList_some, Option.toList_none, List.cons_append, List.nil_append, mx_nl_int, mx_nl_ref, mx_nl_null, mx_nl_none, mx_nb0, mx_nb1, mx_fb0, mx_fb1, mx_cat_int, mx_cat_ref, if_true, if_false, not_true_eq_false, not_false_eq_true, mx_wt_4, mx_w4_0, mx_w9_0, mx_w9_1, mx_kn_int, mx_kn_ref, mx_kn_null, Nat.reduceLT, ofn, n10, sp, hs, t, l, e0, e1, t', l', e0', e1', k106]
    · rw [if_neg hc] at k106 ⊢
      simp only [g105_0, g105_1, g105_2, g105_5, g105_6, g105_7, g105_8, g105_11, g105_14, g105_15n, g105_15, g105_18, g105_19, g105_22, g105_25, g105_26, g105_29, g105_30, g105_33, g105_36, g105_37, g105_40, g105_41, g105_44, g105_47, g105_50, g105_51, g105_54, g105_55, mx_isr_ref, mx_isr_null, mx_wt_nil, mx_wt_1, mx_wt_2, mx_wt_3, Option.bind_some, Option.toList_some, Option.toList_none, List.cons_append, List.nil_append, mx_nl_int, mx_nl_ref, mx_nl_null, mx_nl_none, mx_nb0, mx_nb1, mx_fb0, mx_fb1, mx_cat_int, mx_cat_ref, if_true, if_false, not_true_eq_false, not_false_eq_true, mx_wt_4, mx_w4_0, mx_w9_0, mx_w9_1, mx_kn_int, mx_kn_ref, mx_kn_null, Nat.reduceLT, ofn, n10, sp, hs, t, l, e0, e1, t', l', e0', e1', k106]
/-- a row that is being filled -/
def fl (l : List Nat) (i : Nat) : List Nat := l.take i ++ List.replicate (l.length - i) 0
theorem fl_0 (l : List Nat) : fl l 0 = List.replicate l.length 0 := by simp [fl]
theorem fl_all (l : List Nat) : fl l l.length = l := by simp [fl]
theorem fl_len (l : List Nat) {i : Nat} (hi : i ≤ l.length) : (fl l i).length = l.length := by simp [fl]; omega
theorem fl_set {l : List Nat} {i : Nat} (hi : i < l.length) : (fl l i).set i (l.getD i 0) = fl l (i + 1) := by
  unfold fl
  have e1 : (l.take i).length = i := by simp; omega
  rw [List.set_append_right _ _ (by omega), e1, Nat.sub_self, show l.length - i = (l.length - (i + 1)) + 1 by omega, List.replicate_succ, List.set_cons_zero, List.take_add_one, gd_get hi]
  simp
theorem jf_inflL {cs : List Nat} {b A : Nat} (hA63 : 63 ≤ A) (hcs : ∀ c ∈ cs, c < 128) (hl : cs.length ≤ 1000) (hne : b ≠ A) : ∀ n i (h : mx_H), n + i = cs.length → h[b]? = some (.inr .byte, nvs cs) → h[A]? = some (.inr .char, nvs (fl cs i)) →
    ∃ h', mx_G d 97 3 [some (.ref b), some (.int (nI i)), some (.ref A), some (.int (nI i)), some (.int (nI cs.length)), some (.int (nI i))] [] h = some (none, h') ∧ h'[A]? = some (.inr .char, nvs cs) ∧ Fr [A] h h' ∧ mw h' = mw h := by
  intro n
  induction n with
  | zero =>
    intro i h hi eb eA
    have : i = cs.length := by omega
    subst this
    refine ⟨h, ?_, by rw [eA, fl_all], Fr.rfl _ _, rfl⟩
    simp only [g97_3, g97_5, g97_7, g97_10, g97_11, g97_12, g97_15, g97_16, g97_17, g97_20, g97_20z, g97_21, g97_24, g97_25, g97_26, g97_27, g97_30, g97_33, mx_isr_ref, mx_isr_null, mx_wt_nil, mx_wt_1, mx_wt_2, mx_wt_3, Option.bind_some, Option.toList_some, Option.toList_none, List.cons_append, List.nil_append, mx_nl_int, mx_nl_ref, mx_nl_null, mx_nl_none, mx_nb0, mx_nb1, mx_fb0, mx_fb1, mx_cat_int, mx_cat_ref, if_true, if_false, not_true_eq_false, not_false_eq_true, mx_wt_4, mx_w4_0, mx_w9_0, mx_w9_1, mx_kn_int, mx_kn_ref, mx_kn_null, Nat.reduceLT, ofn, n10, show nI cs.length ≤ nI cs.length from nI_le (Nat.le_refl _) (by omega)]
  | succ n ih =>
    intro i h hi eb eA
    have hi2 : i < cs.length := by omega
    have cc := gd_lt hcs i
    obtain ⟨h', i1, i2, i3, i4⟩ := ih (i + 1) (mx_up h A i (.int (nI (cs.getD i 0)))) (by omega) (by rw [c_upn hne]; exact eb) (by rw [c_up eA, bs_set, fl_set hi2])
    refine ⟨h', ?_, i2, (Fr.up (by simp)).trans i3 (fun a ha => Or.inl ha), by rw [i4, mw_up]⟩
    rw [g97_3]
    simp only [g97_5, g97_7, g97_10, g97_11, g97_12, g97_15, g97_16, g97_17, g97_20, g97_20z, g97_21, g97_24, g97_25, g97_26, g97_27, g97_30, mx_isr_ref, mx_isr_null, mx_wt_nil, mx_wt_1, mx_wt_2, mx_wt_3, Option.bind_some, Option.toList_some, Option.toList_none, List.cons_append, List.nil_append, mx_nl_int, mx_nl_ref, mx_nl_null, mx_nl_none, mx_nb0, mx_nb1, mx_fb0, mx_fb1, mx_cat_int, mx_cat_ref, if_true, if_false, not_true_eq_false, not_false_eq_true, mx_wt_4, mx_w4_0, mx_w9_0, mx_w9_1, mx_kn_int, mx_kn_ref, mx_kn_null, Nat.reduceLT, ofn, n10, nI_ge hi2 (show cs.length < 2 ^ 31 by omega), ce_t eb, ce_n eb, bs_len, nI_pos' (show i < 2 ^ 31 by omega), nI_clamp (show i < 2 ^ 31 by omega), hi2, ce_e eb, bs_get cs i hi2, (nI_c cc).1, ce_t eA, ce_n eA, fl_len cs (Nat.le_of_lt hi2), show mt_nO ≤ A by rw [show mt_nO = 63 by decide]; exact hA63, (nI_c cc).2.2.2.2.1, nI_1]
    exact i1
theorem jf_foldL {cs : List Nat} {A s : Nat} (hA63 : 63 ≤ A) (hcs : ∀ c ∈ cs, c < 128) (hl : cs.length ≤ 1000) : ∀ n i (h : mx_H), n + i = cs.length → h[A]? = some (.inr .char, nvs ((cs.take i).map sml ++ cs.drop i)) →
    ∃ h', mx_G (d + 1) 94 7 [some (.ref s), some (.ref A), some (.int (nI i))] [] h = mx_G (d + 1) 94 28 [some (.ref s), some (.ref A), some (.int (nI cs.length))] [] h' ∧ h'[A]? = some (.inr .char, nvs (cs.map sml)) ∧ Fr [A] h h' ∧ mw h' = mw h := by
  intro n
  induction n with
  | zero =>
    intro i h hi eA
    have : i = cs.length := by omega
    subst this
    refine ⟨h, ?_, by rw [eA, List.take_length, List.drop_length, List.append_nil], Fr.rfl _ _, rfl⟩
    simp only [g94_7, g94_8, g94_9, g94_9c, g94_9i, g94_9q, g94_10, mx_isr_ref, mx_isr_null, mx_wt_nil, mx_wt_1, mx_wt_2, mx_wt_3, Option.bind_some, Option.toList_some, Option.toList_none, List.cons_append, List.nil_append, mx_nl_int, mx_nl_ref, mx_nl_null, mx_nl_none, mx_nb0, mx_nb1, mx_fb0, mx_fb1, mx_cat_int, mx_cat_ref, if_true, if_false, not_true_eq_false, not_false_eq_true, mx_wt_4, mx_w4_0, mx_w9_0, mx_w9_1, mx_kn_int, mx_kn_ref, mx_kn_null, Nat.reduceLT, ofn, n10, ce_t eA, ce_n eA, bs_len, List.length_append, List.length_map, List.length_take, List.length_drop, Nat.min_self, Nat.sub_self, Nat.add_zero, show nI cs.length ≤ nI cs.length from nI_le (Nat.le_refl _) (by omega)]
  | succ n ih =>
    intro i h hi eA
    have hi2 : i < cs.length := by omega
    have cc := gd_lt hcs i
    have ln : ((cs.take i).map sml ++ cs.drop i).length = cs.length := by simp; omega
    have lt1 : ((cs.take i).map sml).length = i := by simp; omega
    have hd : cs.drop i = cs.getD i 0 :: cs.drop (i + 1) := by
      rw [List.drop_eq_getElem_cons hi2]
      simp [List.getD_eq_getElem?_getD, hi2]
    have ge : ((cs.take i).map sml ++ cs.drop i).getD i 0 = cs.getD i 0 := by
      rw [List.getD_eq_getElem?_getD, List.getElem?_append_right (by omega), lt1, Nat.sub_self, hd]
      rfl
    have se : ((cs.take i).map sml ++ cs.drop i).set i (sml (cs.getD i 0)) = (cs.take (i + 1)).map sml ++ cs.drop (i + 1) := by
      rw [List.set_append_right _ _ (by omega), lt1, Nat.sub_self, hd, List.set_cons_zero, List.take_add_one, gd_get hi2]
      simp
    obtain ⟨h', i1, i2, i3, i4⟩ := ih (i + 1) (mx_up h A i (.int (nI (sml (cs.getD i 0))))) (by omega) (by rw [c_up eA, bs_set, se])
    refine ⟨h', ?_, i2, (Fr.up (by simp)).trans i3 (fun a ha => Or.inl ha), by rw [i4, mw_up]⟩
    rw [g94_7]
    simp only [g94_8, g94_9, g94_9c, g94_9i, g94_9q, g94_10, g94_13, g94_14, g94_15, g94_16, g94_17, g94_18, g94_21, g94_22, g94_25, mx_isr_ref, mx_isr_null, mx_wt_nil, mx_wt_1, mx_wt_2, mx_wt_3, Option.bind_some, Option.toList_some, Option.toList_none, List.cons_append, List.nil_append, mx_nl_int, mx_nl_ref, mx_nl_null, mx_nl_none, mx_nb0, mx_nb1, mx_fb0, mx_fb1, mx_cat_int, mx_cat_ref, if_true, if_false, not_true_eq_false, not_false_eq_true, mx_wt_4, mx_w4_0, mx_w9_0, mx_w9_1, mx_kn_int, mx_kn_ref, mx_kn_null, Nat.reduceLT, ofn, n10, ce_t eA, ce_n eA, bs_len, ln, nI_ge hi2 (show cs.length < 2 ^ 31 by omega), nI_pos' (show i < 2 ^ 31 by omega), nI_clamp (show i < 2 ^ 31 by omega), hi2, ce_e eA, bs_get _ i (by rw [ln]; exact hi2), ge, jc_fold cc, show mt_nO ≤ A by rw [show mt_nO = 63 by decide]; exact hA63, (nI_c (sml_lt cc)).2.2.2.2.1, nI_1]
    exact i1
theorem jf_compL {cs : List Nat} {A b : Nat} (hb63 : 63 ≤ b) (hcs : ∀ c ∈ cs, c < 128) (hl : cs.length ≤ 1000) (hne : A ≠ b) : ∀ n i (h : mx_H) (l6 : Option Value), n + i = cs.length → h[A]? = some (.inr .char, nvs cs) → h[b]? = some (.inr .byte, nvs (fl cs i)) →
    ∃ h', mx_G d 103 3 [some (.ref A), some (.int (nI i)), some (.ref b), some (.int (nI i)), some (.int (nI cs.length)), some (.int (nI i)), l6] [] h = some (some (.int (nI cs.length)), h') ∧ h'[b]? = some (.inr .byte, nvs cs) ∧ Fr [b] h h' ∧ mw h' = mw h := by
  intro n
  induction n with
  | zero =>
    intro i h l6 hi eA eb
    have : i = cs.length := by omega
    subst this
    refine ⟨h, ?_, by rw [eb, fl_all], Fr.rfl _ _, rfl⟩
    simp only [g103_3, g103_5, g103_7, g103_44, g103_46, mx_isr_ref, mx_isr_null, mx_wt_nil, mx_wt_1, mx_wt_2, mx_wt_3, Option.bind_some, Option.toList_some, Option.toList_none, List.cons_append, List.nil_append, mx_nl_int, mx_nl_ref, mx_nl_null, mx_nl_none, mx_nb0, mx_nb1, mx_fb0, mx_fb1, mx_cat_int, mx_cat_ref, if_true, if_false, not_true_eq_false, not_false_eq_true, mx_wt_4, mx_w4_0, mx_w9_0, mx_w9_1, mx_kn_int, mx_kn_ref, mx_kn_null, Nat.reduceLT, ofn, n10, show nI cs.length ≤ nI cs.length from nI_le (Nat.le_refl _) (by omega)]
  | succ n ih =>
    intro i h l6 hi eA eb
    have hi2 : i < cs.length := by omega
    have cc := gd_lt hcs i
    obtain ⟨h', i1, i2, i3, i4⟩ := ih (i + 1) (mx_up h b i (.int (nI (cs.getD i 0)))) (some (.int (nI (cs.getD i 0)))) (by omega) (by rw [c_upn hne]; exact eA) (by rw [c_up eb, bs_set, fl_set hi2])
    refine ⟨h', ?_, i2, (Fr.up (by simp)).trans i3 (fun a ha => Or.inl ha), by rw [i4, mw_up]⟩
    have q : nI (cs.getD i 0) ≤ 255 := nI_le (b := 255) (by omega) (by decide)
    rw [g103_3]
    simp only [g103_5, g103_7, g103_10, g103_11, g103_12, g103_13, g103_15, g103_17, g103_20, g103_23, g103_25, g103_26, g103_27, g103_28, g103_30, g103_31, g103_31z, g103_32, g103_35, g103_38, g103_41, mx_isr_ref, mx_isr_null, mx_wt_nil, mx_wt_1, mx_wt_2, mx_wt_3, Option.bind_some, Option.toList_some, Option.toList_none, List.cons_append, List.nil_append, mx_nl_int, mx_nl_ref, mx_nl_null, mx_nl_none, mx_nb0, mx_nb1, mx_fb0, mx_fb1, mx_cat_int, mx_cat_ref, if_true, if_false, not_true_eq_false, not_false_eq_true, mx_wt_4, mx_w4_0, mx_w9_0, mx_w9_1, mx_kn_int, mx_kn_ref, mx_kn_null, Nat.reduceLT, ofn, n10, nI_ge hi2 (show cs.length < 2 ^ 31 by omega), ce_t eA, ce_n eA, bs_len, nI_pos' (show i < 2 ^ 31 by omega), nI_clamp (show i < 2 ^ 31 by omega), hi2, ce_e eA, bs_get cs i hi2, q, (nI_c cc).2.1, ce_t eb, ce_n eb, fl_len cs (Nat.le_of_lt hi2), show mt_nO ≤ b by rw [show mt_nO = 63 by decide]; exact hb63, (nI_c cc).2.2.2.1, nI_1]
    exact i1
/-- a String made of the characters at A, in the object at s -/
theorem jf_new {cs : List Nat} {A s : Nat} (K : KS h) (hl : 63 ≤ h.length) (hcs : ∀ c ∈ cs, c < 128) (hlen : cs.length ≤ 1000) (hs63 : 63 ≤ s) (hsA : s ≠ A) (eA : h[A]? = some (.inr .char, nvs cs)) (es : h[s]? = some (.inl 5, [.null, .int 0, .int 0, .int 0])) :
    ∃ (h' : mx_H) (b : Nat), mx_G (d + 4) 100 0 [some (.ref s), some (.ref A)] [] h = some (none, h') ∧ sB h' s b cs ∧ (b = 12 ∨ h.length ≤ b) ∧ Fr [s] h h' ∧ mw h' ≤ mw h + 12 + cs.length := by
  have hsl := ce_l es
  have hAl := ce_l eA
  have hn : ∀ k, 63 ≤ k → mt_nO ≤ k := fun k hk => by rw [show mt_nO = 63 by decide]; exact hk
  by_cases h0 : cs = []
  · subst h0
    have K2 := K 2 (by decide)
    have K2 : sB h 11 12 [] := K2
    obtain ⟨t, l, e0, e1, tb, lb, eb⟩ := sB_f K2
    obtain ⟨k1, k2, k3⟩ := K2
    refine ⟨mx_up (mx_up h s 0 (.ref 12)) s 1 (.int 0), 12, ?_, ⟨⟨.int 0, .int 0, by rw [c_up (c_up es)]; rfl⟩, by rw [c_upn (by omega), c_upn (by omega)]; exact k2, by simp, by simp, Or.inl hs63⟩, Or.inl rfl, (Fr.up (by simp)).trans (Fr.up (F := [s]) (by simp)) (fun a ha => Or.inl ha), by rw [mw_up, mw_up]; omega⟩
    have n11 : ∀ v k, mx_el (mx_up h s 0 v) 11 k = mx_el h 11 k := fun v k => by rw [mx_el_up, if_neg (fun z => by omega)]
    have k101 : mx_G (d + 3) 101 0 [some (.ref s), some (.ref A), some (.int 0), some (.int 0), some .null, none] [] h = some (none, mx_up (mx_up h s 0 (.ref 12)) s 1 (.int 0)) := by
      simp only [g101_0, g101_1, g101_4, g101_5, g101_8, g101_9, g101_11, g101_14, g101_17, g101_18, g101_20, g101_23, g101_26, g101_27, g101_30, g101_33, g101_34, g101_35, g101_36, g101_39, g101_41, g101_42, g101_44, g101_45, g101_48, g101_51, g101_52, g101_54, g101_57, g101_58, g101_59, g101_60, g101_63, g101_64, g101_65, g101_66, g101_67, g101_70, g101_73, mx_isr_ref, mx_isr_null, mx_wt_nil, mx_wt_1, mx_wt_2, mx_wt_3, Option.bind_some, Option.toList_some, Option.toList_none, List.cons_append, List.nil_append, mx_nl_int, mx_nl_ref, mx_nl_null, mx_nl_none, mx_nb0, mx_nb1, mx_fb0, mx_fb1, mx_cat_int, mx_cat_ref, if_true, if_false, not_true_eq_false, not_false_eq_true, mx_wt_4, mx_w4_0, mx_w9_0, mx_w9_1, mx_kn_int, mx_kn_ref, mx_kn_null, Nat.reduceLT, ofn, n10, ce_t es, hn s hs63, t, l, e0, e1, mx_tag_up, mx_ln_up, n11, show narrow .byte (.int 0) = .int 0 by decide, show fits .byte (.int 0) = true by decide]
    simp only [g100_0, g100_1, g100_2, g100_3, g100_4, g100_4c, g100_4i, g100_4q, g100_5, g100_6, g100_9, mx_isr_ref, mx_isr_null, mx_wt_nil, mx_wt_1, mx_wt_2, mx_wt_3, Option.bind_some, Option.toList_some, Option.toList_none, List.cons_append, List.nil_append, mx_nl_int, mx_nl_ref, mx_nl_null, mx_nl_none, mx_nb0, mx_nb1, mx_fb0, mx_fb1, mx_cat_int, mx_cat_ref, if_true, if_false, not_true_eq_false, not_false_eq_true, mx_wt_4, mx_w4_0, mx_w9_0, mx_w9_1, mx_kn_int, mx_kn_ref, mx_kn_null, Nat.reduceLT, ofn, n10, ce_t es, ce_t eA, ce_n eA, bs_len, List.length_nil, show nI 0 = 0 from rfl, k101]
  · have hpos : 0 < cs.length := List.length_pos_iff.mpr h0
    have q0 : ¬ nI cs.length = 0 := nI_ne0 hpos (by omega)
    generalize hh : h ++ [((.inr .byte : Nat ⊕ FieldType), List.replicate cs.length (Value.int 0))] = h1
    have l1 : h1.length = h.length + 1 := by rw [← hh]; simp
    have F1 : Fr [] h h1 := by rw [← hh]; exact Fr.app _ _ _
    have eb1 : h1[h.length]? = some (.inr .byte, nvs (fl cs 0)) := by rw [← hh, c_app, bs_rep, fl_0]
    have eA1 := F1.at eA (by simp)
    have es1 := F1.at es (by simp)
    obtain ⟨h2, c1, c2, c3, c4⟩ := jf_compL (d := d + 1) (A := A) (b := h.length) hl hcs hlen (by omega) cs.length 0 h1 none (by omega) eA1 eb1
    have es2 := c3.at es1 (by simp; omega)
    have k103 : mx_G (d + 1) 103 0 [some (.ref A), some (.int 0), some (.ref h.length), some (.int 0), some (.int (nI cs.length)), none, none] [] h1 = some (some (.int (nI cs.length)), h2) := by
      rw [nI_0] at c1
      simp only [g103_0, g103_1, mx_isr_ref, mx_isr_null, mx_wt_nil, mx_wt_1, mx_wt_2, mx_wt_3, Option.bind_some, Option.toList_some, Option.toList_none, List.cons_append, List.nil_append, mx_nl_int, mx_nl_ref, mx_nl_null, mx_nl_none, mx_nb0, mx_nb1, mx_fb0, mx_fb1, mx_cat_int, mx_cat_ref, if_true, if_false, not_true_eq_false, not_false_eq_true, mx_wt_4, mx_w4_0, mx_w9_0, mx_w9_1, mx_kn_int, mx_kn_ref, mx_kn_null, Nat.reduceLT, ofn, n10]
      exact c1
    have k102 : mx_G (d + 2) 102 0 [some (.ref A), some (.int 0), some (.int (nI cs.length)), none, none, none] [] h = some (some (.ref h.length), h2) := by
      simp only [g102_0, g102_1, g102_3, g102_4, g102_5, g102_6, g102_7, g102_8, g102_9, g102_12, g102_14, g102_16, g102_17, g102_20, g102_21, g102_22, g102_23, g102_26, g102_28, g102_30, g102_32, g102_35, g102_38, g102_41, g102_43, g102_44, g102_45, g102_46, g102_47, g102_50, g102_51, g102_54, g102_56, g102_57, g102_58, mx_isr_ref, mx_isr_null, mx_wt_nil, mx_wt_1, mx_wt_2, mx_wt_3, Option.bind_some, Option.toList_some, Option.toList_none, List.cons_append, List.nil_append, mx_nl_int, mx_nl_ref, mx_nl_null, mx_nl_none, mx_nb0, mx_nb1, mx_fb0, mx_fb1, mx_cat_int, mx_cat_ref, if_true, if_false, not_true_eq_false, not_false_eq_true, mx_wt_4, mx_w4_0, mx_w9_0, mx_w9_1, mx_kn_int, mx_kn_ref, mx_kn_null, Nat.reduceLT, ofn, n10, nI_pos' (show cs.length < 2 ^ 31 by omega), nI_clamp (show cs.length < 2 ^ 31 by omega), show cs.length ≤ 1000000 by omega, show defaultValue FieldType.byte = Value.int 0 from rfl, hh, k103]
    have k93 : mx_G (d + 2) 93 0 [some (.ref h.length), some (.int (nI cs.length))] [] h2 = some (some (.int 0), h2) := by
      simp only [g93_0, g93_1, g93_2, g93_2c, g93_2i, g93_2q, g93_3, g93_4, g93_6, g93_7, g93_8, mx_isr_ref, mx_isr_null, mx_wt_nil, mx_wt_1, mx_wt_2, mx_wt_3, Option.bind_some, Option.toList_some, Option.toList_none, List.cons_append, List.nil_append, mx_nl_int, mx_nl_ref, mx_nl_null, mx_nl_none, mx_nb0, mx_nb1, mx_fb0, mx_fb1, mx_cat_int, mx_cat_ref, if_true, if_false, not_true_eq_false, not_false_eq_true, mx_wt_4, mx_w4_0, mx_w9_0, mx_w9_1, mx_kn_int, mx_kn_ref, mx_kn_null, Nat.reduceLT, ofn, n10, ce_t c2, ce_n c2, bs_len, nI_sub (Nat.le_refl cs.length), Nat.sub_self, show nI 0 = 0 from rfl, show ((0 : Int32).toUInt32 >>> ((31 : Int32).toUInt32 &&& Int32.toUInt32 31)).toInt32.toInt8.toInt32 = 0 by decide, show narrow .byte (.int 0) = .int 0 by decide]
    refine ⟨mx_up (mx_up h2 s 1 (.int 0)) s 0 (.ref h.length), h.length, ?_, ⟨⟨.int 0, .int 0, by rw [c_up (c_up es2)]; rfl⟩, by rw [c_upn (by omega), c_upn (by omega)]; exact c2, hcs, hlen, Or.inl hs63⟩, Or.inr (Nat.le_refl _), ?_, ?_⟩
    · have k101 : mx_G (d + 3) 101 0 [some (.ref s), some (.ref A), some (.int 0), some (.int (nI cs.length)), some .null, none] [] h = some (none, mx_up (mx_up h2 s 1 (.int 0)) s 0 (.ref h.length)) := by
        simp only [g101_0, g101_1, g101_4, g101_5, g101_8, g101_9, g101_11, g101_14, g101_17, g101_18, g101_20, g101_23, g101_26, g101_27, g101_30, g101_33, g101_34, g101_35, g101_36, g101_39, g101_41, g101_42, g101_44, g101_45, g101_48, g101_51, g101_52, g101_54, g101_57, g101_58, g101_59, g101_60, g101_63, g101_64, g101_65, g101_66, g101_67, g101_70, g101_73, mx_isr_ref, mx_isr_null, mx_wt_nil, mx_wt_1, mx_wt_2, mx_wt_3, Option.bind_some, Option.toList_some, Option.toList_none, List.cons_append, List.nil_append, mx_nl_int, mx_nl_ref, mx_nl_null, mx_nl_none, mx_nb0, mx_nb1, mx_fb0, mx_fb1, mx_cat_int, mx_cat_ref, if_true, if_false, not_true_eq_false, not_false_eq_true, mx_wt_4, mx_w4_0, mx_w9_0, mx_w9_1, mx_kn_int, mx_kn_ref, mx_kn_null, Nat.reduceLT, ofn, n10, q0, ce_t es, hn s hs63, k102, k93, ce_t es2, mx_tag_up, show narrow .byte (.int 0) = .int 0 by decide, show fits .byte (.int 0) = true by decide]
      simp only [g100_0, g100_1, g100_2, g100_3, g100_4, g100_4c, g100_4i, g100_4q, g100_5, g100_6, g100_9, mx_isr_ref, mx_isr_null, mx_wt_nil, mx_wt_1, mx_wt_2, mx_wt_3, Option.bind_some, Option.toList_some, Option.toList_none, List.cons_append, List.nil_append, mx_nl_int, mx_nl_ref, mx_nl_null, mx_nl_none, mx_nb0, mx_nb1, mx_fb0, mx_fb1, mx_cat_int, mx_cat_ref, if_true, if_false, not_true_eq_false, not_false_eq_true, mx_wt_4, mx_w4_0, mx_w9_0, mx_w9_1, mx_kn_int, mx_kn_ref, mx_kn_null, Nat.reduceLT, ofn, n10, ce_t es, ce_t eA, ce_n eA, bs_len, k101]
    · refine ((F1.mono (by simp)).trans c3 (fun a ha => ?_)).trans ((Fr.up (F := [s]) (by simp)).trans (Fr.up (F := [s]) (by simp)) (fun a ha => Or.inl ha)) (fun a ha => Or.inl ha)
      rw [List.mem_singleton] at ha
      exact Or.inr (by omega)
    · rw [mw_up, mw_up, c4, ← hh, mw_app]
      simp
      omega
theorem jf_foldAll {s b : Nat} {cs : List Nat} (K : KS h) (hl : 63 ≤ h.length) (S : sB h s b cs) :
    ∃ (h' : mx_H) (s' b' : Nat), mx_G (d + 5) 94 0 [some (.ref s), none, none] [] h = some (some (.ref s'), h') ∧ sB h' s' b' (cs.map sml) ∧ h.length ≤ s' ∧ (b' = 12 ∨ h.length ≤ b') ∧ Fr [] h h' ∧ mw h' ≤ mw h + 40 + 2 * cs.length := by
  obtain ⟨t, l, e0, e1, tb, lb, eb⟩ := sB_f S
  obtain ⟨hs1, hb1, hcs, hlen, hs63⟩ := S
  have S : sB h s b cs := ⟨hs1, hb1, hcs, hlen, hs63⟩
  have hbl := ce_l hb1
  generalize hh : h ++ [((.inr .char : Nat ⊕ FieldType), List.replicate cs.length (Value.int 0))] = h1
  have l1 : h1.length = h.length + 1 := by rw [← hh]; simp
  have F1 : Fr [] h h1 := by rw [← hh]; exact Fr.app _ _ _
  have eA1 : h1[h.length]? = some (.inr .char, nvs (fl cs 0)) := by rw [← hh, c_app, bs_rep, fl_0]
  obtain ⟨h2, a1, a2, a3, a4⟩ := jf_inflL (d := d + 2) (b := b) (A := h.length) hl hcs hlen (by omega) cs.length 0 h1 (by omega) (F1.at hb1 (by simp)) eA1
  obtain ⟨h3, b1, b2, b3, b4⟩ := jf_foldL (d := d + 4) (A := h.length) (s := s) hl hcs hlen cs.length 0 h2 (by omega) (by simpa using a2)
  generalize hg : h3 ++ [((.inl 5 : Nat ⊕ FieldType), [Value.null, .int 0, .int 0, .int 0])] = h4
  have l2 : h1.length ≤ h2.length := a3.1
  have l3 : h2.length ≤ h3.length := b3.1
  have l4 : h4.length = h3.length + 1 := by rw [← hg]; simp
  have F4 : Fr [] h3 h4 := by rw [← hg]; exact Fr.app _ _ _
  have F3 : Fr [] h h3 := (F1.trans (a3.trans b3 (fun a ha => Or.inl ha)) (fun a ha => by rw [List.mem_singleton] at ha; exact Or.inr (by omega)))
  have es4 : h4[h3.length]? = some (.inl 5, [.null, .int 0, .int 0, .int 0]) := by rw [← hg, c_app]
  have hcs2 : ∀ c ∈ cs.map sml, c < 128 := by
    intro c hc
    obtain ⟨y, hy, rfl⟩ := List.mem_map.mp hc
    exact sml_lt (hcs y hy)
  obtain ⟨h5, b', n1, n2, n3, n4, n5⟩ := jf_new (d := d) (h := h4) (cs := cs.map sml) (A := h.length) (s := h3.length) ((K.fr F3 (by simp)).fr F4 (by simp)) (by omega) hcs2 (by rw [List.length_map]; exact hlen) (by omega) (by omega) (F4.at b2 (by simp)) es4
  refine ⟨h5, h3.length, b', ?_, n2, by omega, n3.elim Or.inl (fun z => Or.inr (by omega)), (F3.trans F4 (fun a ha => absurd ha (by simp))).trans n4 (fun a ha => by rw [List.mem_singleton] at ha; exact Or.inr (by omega)), ?_⟩
  · have k96 : mx_G (d + 3) 96 0 [some (.ref b), none] [] h = some (some (.ref h.length), h2) := by
      have k97 : mx_G (d + 2) 97 0 [some (.ref b), some (.int 0), some (.ref h.length), some (.int 0), some (.int (nI cs.length)), none] [] h1 = some (none, h2) := by
        rw [nI_0] at a1
        simp only [g97_0, g97_1, mx_isr_ref, mx_isr_null, mx_wt_nil, mx_wt_1, mx_wt_2, mx_wt_3, Option.bind_some, Option.toList_some, Option.toList_none, List.cons_append, List.nil_append, mx_nl_int, mx_nl_ref, mx_nl_null, mx_nl_none, mx_nb0, mx_nb1, mx_fb0, mx_fb1, mx_cat_int, mx_cat_ref, if_true, if_false, not_true_eq_false, not_false_eq_true, mx_wt_4, mx_w4_0, mx_w9_0, mx_w9_1, mx_kn_int, mx_kn_ref, mx_kn_null, Nat.reduceLT, ofn, n10]
        exact a1
      have tb1 : mx_tag h1 b = some (.inr .byte) := ce_t (F1.at hb1 (by simp))
      have lb1 : mx_ln h1 b = cs.length := by rw [ce_n (F1.at hb1 (by simp)), bs_len]
      simp only [g96_0, g96_1, g96_1c, g96_1i, g96_1q, g96_2, g96_4, g96_5, g96_6, g96_7, g96_8, g96_9, g96_10, g96_10c, g96_10i, g96_10q, g96_11, g96_14, g96_15, mx_isr_ref, mx_isr_null, mx_wt_nil, mx_wt_1, mx_wt_2, mx_wt_3, Option.bind_some, Option.toList_some, Option.toList_none, List.cons_append, List.nil_append, mx_nl_int, mx_nl_ref, mx_nl_null, mx_nl_none, mx_nb0, mx_nb1, mx_fb0, mx_fb1, mx_cat_int, mx_cat_ref, if_true, if_false, not_true_eq_false, not_false_eq_true, mx_wt_4, mx_w4_0, mx_w9_0, mx_w9_1, mx_kn_int, mx_kn_ref, mx_kn_null, Nat.reduceLT, ofn, n10, tb, lb, nI_pos' (show cs.length < 2 ^ 31 by omega), nI_clamp (show cs.length < 2 ^ 31 by omega), show cs.length ≤ 1000000 by omega, show defaultValue FieldType.char = Value.int 0 from rfl, hh, tb1, lb1, k97]
    have k95 : mx_G (d + 4) 95 0 [some (.ref s)] [] h = some (some (.ref h.length), h2) := by
      simp only [g95_0, g95_1, g95_4, g95_7, g95_8, g95_11, g95_14, g95_17, g95_18, g95_21, g95_24, mx_isr_ref, mx_isr_null, mx_wt_nil, mx_wt_1, mx_wt_2, mx_wt_3, Option.bind_some, Option.toList_some, Option.toList_none, List.cons_append, List.nil_append, mx_nl_int, mx_nl_ref, mx_nl_null, mx_nl_none, mx_nb0, mx_nb1, mx_fb0, mx_fb1, mx_cat_int, mx_cat_ref, if_true, if_false, not_true_eq_false, not_false_eq_true, mx_wt_4, mx_w4_0, mx_w9_0, mx_w9_1, mx_kn_int, mx_kn_ref, mx_kn_null, Nat.reduceLT, ofn, n10, t, l, e0, js_latin S, k96]
    rw [nI_0] at b1
    simp only [g94_0, g94_1, g94_4, g94_5, g94_6, mx_isr_ref, mx_isr_null, mx_wt_nil, mx_wt_1, mx_wt_2, mx_wt_3, Option.bind_some, Option.toList_some, Option.toList_none, List.cons_append, List.nil_append, mx_nl_int, mx_nl_ref, mx_nl_null, mx_nl_none, mx_nb0, mx_nb1, mx_fb0, mx_fb1, mx_cat_int, mx_cat_ref, if_true, if_false, not_true_eq_false, not_false_eq_true, mx_wt_4, mx_w4_0, mx_w9_0, mx_w9_1, mx_kn_int, mx_kn_ref, mx_kn_null, Nat.reduceLT, ofn, n10, t, k95]
    rw [b1]
    simp only [g94_28, g94_31, g94_32, g94_33, g94_36, mx_isr_ref, mx_isr_null, mx_wt_nil, mx_wt_1, mx_wt_2, mx_wt_3, Option.bind_some, Option.toList_some, Option.toList_none, List.cons_append, List.nil_append, mx_nl_int, mx_nl_ref, mx_nl_null, mx_nl_none, mx_nb0, mx_nb1, mx_fb0, mx_fb1, mx_cat_int, mx_cat_ref, if_true, if_false, not_true_eq_false, not_false_eq_true, mx_wt_4, mx_w4_0, mx_w9_0, mx_w9_1, mx_kn_int, mx_kn_ref, mx_kn_null, Nat.reduceLT, ofn, n10, hg, ce_t es4, n1]
  · have := mw_app h3 ((.inl 5 : Nat ⊕ FieldType), [Value.null, .int 0, .int 0, .int 0])
    rw [hg] at this
    have e1 := mw_app h ((.inr .char : Nat ⊕ FieldType), List.replicate cs.length (Value.int 0))
    rw [hh] at e1
    simp only [List.length_replicate, List.length_cons, List.length_nil, List.length_map] at this e1 n5
    omega
end
