section
variable {d : Nat} {h : mx_H} {ts : List tk}
def ltr (op : List Nat) : Prop := ∀ c ∈ op, 97 ≤ c ∧ c ≤ 122
theorem opF {op : List Nat} (hop : ltr op) : (w27 op = 450) = (op = w_pr) ∧ (w27 op = 152) = (op = w_eq) ∧ (w27 op = 383) = (op = w_ne) ∧ (w27 op = 96) = (op = w_co) ∧ (w27 op = 536) = (op = w_sw) ∧ (w27 op = 158) = (op = w_ew) ∧
    (w27 op = 209) = (op = w_gt) ∧ (w27 op = 194) = (op = w_ge) ∧ (w27 op = 344) = (op = w_lt) ∧ (w27 op = 329) = (op = w_le) :=
  ⟨w27_eq (w := w_pr) hop (by decide) (by decide), w27_eq (w := w_eq) hop (by decide) (by decide), w27_eq (w := w_ne) hop (by decide) (by decide), w27_eq (w := w_co) hop (by decide) (by decide), w27_eq (w := w_sw) hop (by decide) (by decide), w27_eq (w := w_ew) hop (by decide) (by decide), w27_eq (w := w_gt) hop (by decide) (by decide), w27_eq (w := w_ge) hop (by decide) (by decide), w27_eq (w := w_lt) hop (by decide) (by decide), w27_eq (w := w_le) hop (by decide) (by decide)⟩
theorem askO_eq (c : Int) : (askO w_eq c = true) = (c = 0) := by
  unfold askO
  rw [decide_eq_true_eq]
  apply propext
  constructor
  · rintro (z | z | z | z | z)
    · exact z.2
    all_goals exact absurd z.1 (by decide)
  · exact fun z => Or.inl ⟨rfl, z⟩
theorem askO_gt (c : Int) : (askO w_gt c = true) = (0 < c) := by
  unfold askO
  rw [decide_eq_true_eq]
  apply propext
  constructor
  · rintro (z | z | z | z | z)
    · exact absurd z.1 (by decide)
    · exact z.2
    all_goals exact absurd z.1 (by decide)
  · exact fun z => Or.inr (Or.inl ⟨rfl, z⟩)
theorem askO_ge (c : Int) : (askO w_ge c = true) = (0 ≤ c) := by
  unfold askO
  rw [decide_eq_true_eq]
  apply propext
  constructor
  · rintro (z | z | z | z | z)
    · exact absurd z.1 (by decide)
    · exact absurd z.1 (by decide)
    · exact z.2
    all_goals exact absurd z.1 (by decide)
  · exact fun z => Or.inr (Or.inr (Or.inl ⟨rfl, z⟩))
theorem askO_lt (c : Int) : (askO w_lt c = true) = (c < 0) := by
  unfold askO
  rw [decide_eq_true_eq]
  apply propext
  constructor
  · rintro (z | z | z | z | z)
    · exact absurd z.1 (by decide)
    · exact absurd z.1 (by decide)
    · exact absurd z.1 (by decide)
    · exact z.2
    · exact absurd z.1 (by decide)
  · exact fun z => Or.inr (Or.inr (Or.inr (Or.inl ⟨rfl, z⟩)))
theorem askO_le (c : Int) : (askO w_le c = true) = (c ≤ 0) := by
  unfold askO
  rw [decide_eq_true_eq]
  apply propext
  constructor
  · rintro (z | z | z | z | z)
    · exact absurd z.1 (by decide)
    · exact absurd z.1 (by decide)
    · exact absurd z.1 (by decide)
    · exact absurd z.1 (by decide)
    · exact z.2
  · exact fun z => Or.inr (Or.inr (Or.inr (Or.inr ⟨rfl, z⟩)))
theorem rm_asks {op : List Nat} (hop : ltr op) (hp : op ≠ w_pr) {x : Int32} {c : Int} (g : sgE x c) : mx_G d 307 0 [some (.ref 76), some (.long (w27 op)), none, some (.int x)] [] h = some (some (.int (if askO op c = true then 1 else 0)), h) := by
  have E := opF hop
  obtain ⟨g1, g2, g3, g4, g5⟩ := g
  by_cases c1 : op = w_eq
  · have n2 : ¬ op = w_gt := by rw [c1]; decide
    have n3 : ¬ op = w_ge := by rw [c1]; decide
    have n4 : ¬ op = w_lt := by rw [c1]; decide
    have n5 : ¬ op = w_le := by rw [c1]; decide
    have a : (askO op c = true) = (c = 0) := by rw [c1]; exact askO_eq c
    by_cases z : x = 0
    · simp only [r307_0, r307_1, r307_4, r307_5, r307_8, r307_9, r307_12, r307_13, r307_16, r307_17, r307_20, r307_21, r307_24, r307_25, r307_28, r307_29, r307_32, r307_33, r307_36, r307_37, r307_40, r307_41, r307_44, r307_45, r307_48, r307_49, r307_52, r307_53, r307_56, r307_57, r307_60, r307_61, r307_64, r307_65, r307_68, r307_69, r307_72, r307_73, mx_isr_ref, mx_isr_null, mx_wt_nil, mx_wt_1, mx_wt_2, mx_wt_3, Option.bind_some, Option.toList_some, Option.toList_none, List.cons_append, List.nil_append, mx_nl_int, mx_nl_ref, mx_nl_null, mx_nl_none, mx_nb0, mx_nb1, mx_fb0, mx_fb1, mx_cat_int, mx_cat_ref, if_true, if_false, not_true_eq_false, not_false_eq_true, lg_cmp0, E, eq_false hp, eq_true c1, eq_true z, a, eq_true (g1.1 z)]
    · simp only [r307_0, r307_1, r307_4, r307_5, r307_8, r307_9, r307_12, r307_13, r307_16, r307_17, r307_20, r307_21, r307_24, r307_25, r307_28, r307_29, r307_32, r307_33, r307_36, r307_37, r307_40, r307_41, r307_44, r307_45, r307_48, r307_49, r307_52, r307_53, r307_56, r307_57, r307_60, r307_61, r307_64, r307_65, r307_68, r307_69, r307_72, r307_73, mx_isr_ref, mx_isr_null, mx_wt_nil, mx_wt_1, mx_wt_2, mx_wt_3, Option.bind_some, Option.toList_some, Option.toList_none, List.cons_append, List.nil_append, mx_nl_int, mx_nl_ref, mx_nl_null, mx_nl_none, mx_nb0, mx_nb1, mx_fb0, mx_fb1, mx_cat_int, mx_cat_ref, if_true, if_false, not_true_eq_false, not_false_eq_true, lg_cmp0, E, eq_false hp, eq_true c1, eq_false n2, eq_false n3, eq_false n4, eq_false n5, eq_false z, a, eq_false (fun y => z (g1.2 y))]
  · by_cases c2 : op = w_gt
    · have n3 : ¬ op = w_ge := by rw [c2]; decide
      have n4 : ¬ op = w_lt := by rw [c2]; decide
      have n5 : ¬ op = w_le := by rw [c2]; decide
      have a : (askO op c = true) = (0 < c) := by rw [c2]; exact askO_gt c
      by_cases z : 0 < x
      · simp only [r307_0, r307_1, r307_4, r307_5, r307_8, r307_9, r307_12, r307_13, r307_16, r307_17, r307_20, r307_21, r307_24, r307_25, r307_28, r307_29, r307_32, r307_33, r307_36, r307_37, r307_40, r307_41, r307_44, r307_45, r307_48, r307_49, r307_52, r307_53, r307_56, r307_57, r307_60, r307_61, r307_64, r307_65, r307_68, r307_69, r307_72, r307_73, mx_isr_ref, mx_isr_null, mx_wt_nil, mx_wt_1, mx_wt_2, mx_wt_3, Option.bind_some, Option.toList_some, Option.toList_none, List.cons_append, List.nil_append, mx_nl_int, mx_nl_ref, mx_nl_null, mx_nl_none, mx_nb0, mx_nb1, mx_fb0, mx_fb1, mx_cat_int, mx_cat_ref, if_true, if_false, not_true_eq_false, not_false_eq_true, lg_cmp0, E, eq_false hp, eq_false c1, eq_true c2, eq_true z, a, eq_true (g3.1 z)]
      · simp only [r307_0, r307_1, r307_4, r307_5, r307_8, r307_9, r307_12, r307_13, r307_16, r307_17, r307_20, r307_21, r307_24, r307_25, r307_28, r307_29, r307_32, r307_33, r307_36, r307_37, r307_40, r307_41, r307_44, r307_45, r307_48, r307_49, r307_52, r307_53, r307_56, r307_57, r307_60, r307_61, r307_64, r307_65, r307_68, r307_69, r307_72, r307_73, mx_isr_ref, mx_isr_null, mx_wt_nil, mx_wt_1, mx_wt_2, mx_wt_3, Option.bind_some, Option.toList_some, Option.toList_none, List.cons_append, List.nil_append, mx_nl_int, mx_nl_ref, mx_nl_null, mx_nl_none, mx_nb0, mx_nb1, mx_fb0, mx_fb1, mx_cat_int, mx_cat_ref, if_true, if_false, not_true_eq_false, not_false_eq_true, lg_cmp0, E, eq_false hp, eq_false c1, eq_true c2, eq_false n3, eq_false n4, eq_false n5, eq_false z, a, eq_false (fun y => z (g3.2 y))]
    · by_cases c3 : op = w_ge
      · have n4 : ¬ op = w_lt := by rw [c3]; decide
        have n5 : ¬ op = w_le := by rw [c3]; decide
        have a : (askO op c = true) = (0 ≤ c) := by rw [c3]; exact askO_ge c
        by_cases z : 0 ≤ x
        · simp only [r307_0, r307_1, r307_4, r307_5, r307_8, r307_9, r307_12, r307_13, r307_16, r307_17, r307_20, r307_21, r307_24, r307_25, r307_28, r307_29, r307_32, r307_33, r307_36, r307_37, r307_40, r307_41, r307_44, r307_45, r307_48, r307_49, r307_52, r307_53, r307_56, r307_57, r307_60, r307_61, r307_64, r307_65, r307_68, r307_69, r307_72, r307_73, mx_isr_ref, mx_isr_null, mx_wt_nil, mx_wt_1, mx_wt_2, mx_wt_3, Option.bind_some, Option.toList_some, Option.toList_none, List.cons_append, List.nil_append, mx_nl_int, mx_nl_ref, mx_nl_null, mx_nl_none, mx_nb0, mx_nb1, mx_fb0, mx_fb1, mx_cat_int, mx_cat_ref, if_true, if_false, not_true_eq_false, not_false_eq_true, lg_cmp0, E, eq_false hp, eq_false c1, eq_false c2, eq_true c3, eq_true z, a, eq_true (g4.1 z)]
        · simp only [r307_0, r307_1, r307_4, r307_5, r307_8, r307_9, r307_12, r307_13, r307_16, r307_17, r307_20, r307_21, r307_24, r307_25, r307_28, r307_29, r307_32, r307_33, r307_36, r307_37, r307_40, r307_41, r307_44, r307_45, r307_48, r307_49, r307_52, r307_53, r307_56, r307_57, r307_60, r307_61, r307_64, r307_65, r307_68, r307_69, r307_72, r307_73, mx_isr_ref, mx_isr_null, mx_wt_nil, mx_wt_1, mx_wt_2, mx_wt_3, Option.bind_some, Option.toList_some, Option.toList_none, List.cons_append, List.nil_append, mx_nl_int, mx_nl_ref, mx_nl_null, mx_nl_none, mx_nb0, mx_nb1, mx_fb0, mx_fb1, mx_cat_int, mx_cat_ref, if_true, if_false, not_true_eq_false, not_false_eq_true, lg_cmp0, E, eq_false hp, eq_false c1, eq_false c2, eq_true c3, eq_false n4, eq_false n5, eq_false z, a, eq_false (fun y => z (g4.2 y))]
      · by_cases c4 : op = w_lt
        · have n5 : ¬ op = w_le := by rw [c4]; decide
          have a : (askO op c = true) = (c < 0) := by rw [c4]; exact askO_lt c
          by_cases z : x < 0
          · simp only [r307_0, r307_1, r307_4, r307_5, r307_8, r307_9, r307_12, r307_13, r307_16, r307_17, r307_20, r307_21, r307_24, r307_25, r307_28, r307_29, r307_32, r307_33, r307_36, r307_37, r307_40, r307_41, r307_44, r307_45, r307_48, r307_49, r307_52, r307_53, r307_56, r307_57, r307_60, r307_61, r307_64, r307_65, r307_68, r307_69, r307_72, r307_73, mx_isr_ref, mx_isr_null, mx_wt_nil, mx_wt_1, mx_wt_2, mx_wt_3, Option.bind_some, Option.toList_some, Option.toList_none, List.cons_append, List.nil_append, mx_nl_int, mx_nl_ref, mx_nl_null, mx_nl_none, mx_nb0, mx_nb1, mx_fb0, mx_fb1, mx_cat_int, mx_cat_ref, if_true, if_false, not_true_eq_false, not_false_eq_true, lg_cmp0, E, eq_false hp, eq_false c1, eq_false c2, eq_false c3, eq_true c4, eq_true z, a, eq_true (g2.1 z)]
          · simp only [r307_0, r307_1, r307_4, r307_5, r307_8, r307_9, r307_12, r307_13, r307_16, r307_17, r307_20, r307_21, r307_24, r307_25, r307_28, r307_29, r307_32, r307_33, r307_36, r307_37, r307_40, r307_41, r307_44, r307_45, r307_48, r307_49, r307_52, r307_53, r307_56, r307_57, r307_60, r307_61, r307_64, r307_65, r307_68, r307_69, r307_72, r307_73, mx_isr_ref, mx_isr_null, mx_wt_nil, mx_wt_1, mx_wt_2, mx_wt_3, Option.bind_some, Option.toList_some, Option.toList_none, List.cons_append, List.nil_append, mx_nl_int, mx_nl_ref, mx_nl_null, mx_nl_none, mx_nb0, mx_nb1, mx_fb0, mx_fb1, mx_cat_int, mx_cat_ref, if_true, if_false, not_true_eq_false, not_false_eq_true, lg_cmp0, E, eq_false hp, eq_false c1, eq_false c2, eq_false c3, eq_true c4, eq_false n5, eq_false z, a, eq_false (fun y => z (g2.2 y))]
        · by_cases c5 : op = w_le
          · have a : (askO op c = true) = (c ≤ 0) := by rw [c5]; exact askO_le c
            have zz : (0 < x) = ¬ (x ≤ 0) := by
              apply propext
              rw [Int32.lt_iff_toInt_lt, Int32.le_iff_toInt_le]
              omega
            by_cases z : x ≤ 0
            · simp only [r307_0, r307_1, r307_4, r307_5, r307_8, r307_9, r307_12, r307_13, r307_16, r307_17, r307_20, r307_21, r307_24, r307_25, r307_28, r307_29, r307_32, r307_33, r307_36, r307_37, r307_40, r307_41, r307_44, r307_45, r307_48, r307_49, r307_52, r307_53, r307_56, r307_57, r307_60, r307_61, r307_64, r307_65, r307_68, r307_69, r307_72, r307_73, mx_isr_ref, mx_isr_null, mx_wt_nil, mx_wt_1, mx_wt_2, mx_wt_3, Option.bind_some, Option.toList_some, Option.toList_none, List.cons_append, List.nil_append, mx_nl_int, mx_nl_ref, mx_nl_null, mx_nl_none, mx_nb0, mx_nb1, mx_fb0, mx_fb1, mx_cat_int, mx_cat_ref, if_true, if_false, not_true_eq_false, not_false_eq_true, lg_cmp0, E, eq_false hp, eq_false c1, eq_false c2, eq_false c3, eq_false c4, eq_true c5, zz, eq_true z, a, eq_true (g5.1 z)]
            · simp only [r307_0, r307_1, r307_4, r307_5, r307_8, r307_9, r307_12, r307_13, r307_16, r307_17, r307_20, r307_21, r307_24, r307_25, r307_28, r307_29, r307_32, r307_33, r307_36, r307_37, r307_40, r307_41, r307_44, r307_45, r307_48, r307_49, r307_52, r307_53, r307_56, r307_57, r307_60, r307_61, r307_64, r307_65, r307_68, r307_69, r307_72, r307_73, mx_isr_ref, mx_isr_null, mx_wt_nil, mx_wt_1, mx_wt_2, mx_wt_3, Option.bind_some, Option.toList_some, Option.toList_none, List.cons_append, List.nil_append, mx_nl_int, mx_nl_ref, mx_nl_null, mx_nl_none, mx_nb0, mx_nb1, mx_fb0, mx_fb1, mx_cat_int, mx_cat_ref, if_true, if_false, not_true_eq_false, not_false_eq_true, lg_cmp0, E, eq_false hp, eq_false c1, eq_false c2, eq_false c3, eq_false c4, eq_true c5, zz, eq_false z, a, eq_false (fun y => z (g5.2 y))]
          · have a : askO op c = false := by
              unfold askO
              rw [decide_eq_false_iff_not]
              rintro (z | z | z | z | z)
              · exact c1 z.1
              · exact c2 z.1
              · exact c3 z.1
              · exact c4 z.1
              · exact c5 z.1
            simp only [r307_0, r307_1, r307_4, r307_5, r307_8, r307_9, r307_12, r307_13, r307_16, r307_17, r307_20, r307_21, r307_24, r307_25, r307_28, r307_29, r307_32, r307_33, r307_36, r307_37, r307_40, r307_41, r307_44, r307_45, r307_48, r307_49, r307_52, r307_53, r307_56, r307_57, r307_60, r307_61, r307_64, r307_65, r307_68, r307_69, r307_72, r307_73, mx_isr_ref, mx_isr_null, mx_wt_nil, mx_wt_1, mx_wt_2, mx_wt_3, Option.bind_some, Option.toList_some, Option.toList_none, List.cons_append, List.nil_append, mx_nl_int, mx_nl_ref, mx_nl_null, mx_nl_none, mx_nb0, mx_nb1, mx_fb0, mx_fb1, mx_cat_int, mx_cat_ref, if_true, if_false, not_true_eq_false, not_false_eq_true, lg_cmp0, E, eq_false hp, eq_false c1, eq_false c2, eq_false c3, eq_false c4, eq_false c5, a, Bool.false_eq_true]
theorem rm_poI (S : rm_TK h ts) {s o t : Nat} {l : List Nat} (R : txR h s o l) (h3 : (tA ts t).1 = 3) (b : Bool) {u : Int64} {pl : Nat} (hpl : pl + (tx ts t).length ≤ l.length) : ∀ (sb : List Nat) (k : Nat), (al b (tx ts t)).drop k = sb → k ≤ (tx ts t).length →
    ∃ x, mx_G (d + 2) 309 81 [some (.ref 76), some (.int (nI s)), some (.int (nI o)), some (.int (nI t)), some (.int (if b = true then 1 else 0)), some (.long u), none, some (.int (nI l.length)), some (.int (nI (tx ts t).length)), some (.int (nI pl)), some (.int 1), some (.int (nI k))] [] h =
      mx_G (d + 2) 309 132 [some (.ref 76), some (.int (nI s)), some (.int (nI o)), some (.int (nI t)), some (.int (if b = true then 1 else 0)), some (.long u), none, some (.int (nI l.length)), some (.int (nI (tx ts t).length)), some (.int (nI pl)), some (.int (if ((al b l).drop (pl + k)).take sb.length = sb then 1 else 0)), some (.int x)] [] h := by
  have T := S.1.1
  have hl := S.1.2.1
  have l12 := R.1
  intro sb
  induction sb with
  | nil =>
    intro k hsb hk
    have k1 : (tx ts t).length ≤ k := by have := List.drop_eq_nil_iff.1 hsb; rw [al_len] at this; exact this
    have e1 : nI (tx ts t).length ≤ nI k := nI_le (by omega) (by omega)
    refine ⟨nI k, ?_⟩
    rw [List.length_nil, List.take_zero, if_pos rfl]
    simp only [r309_81, r309_83, r309_85, mx_isr_ref, mx_isr_null, mx_wt_nil, mx_wt_1, mx_wt_2, mx_wt_3, Option.bind_some, Option.toList_some, Option.toList_none, List.cons_append, List.nil_append, mx_nl_int, mx_nl_ref, mx_nl_null, mx_nl_none, mx_nb0, mx_nb1, mx_fb0, mx_fb1, mx_cat_int, mx_cat_ref, if_true, if_false, not_true_eq_false, not_false_eq_true, e1]
  | cons c' sb ih =>
    intro k hsb hk
    obtain ⟨d1', d2', d3'⟩ := drop_cons hsb
    rw [al_len] at d2'
    have e1 : ¬ nI (tx ts t).length ≤ nI k := nI_ge d2' (by omega)
    have e0' : (al b (tx ts t)).getD k 0 = c' := by rw [List.getD_eq_getElem?_getD, d3']; rfl
    have hc' : c' < 128 := al_lt (tx_lt S.2 h3) c' (List.mem_of_getElem? d3')
    have lk : pl + k < (al b l).length := by rw [al_len]; omega
    have dr : (al b l).drop (pl + k) = (al b l)[pl + k] :: (al b l).drop (pl + k + 1) := List.drop_eq_getElem_cons lk
    have e0 : (al b l).getD (pl + k) 0 = (al b l)[pl + k] := by rw [List.getD_eq_getElem?_getD, List.getElem?_eq_getElem lk]; rfl
    have hc : (al b l)[pl + k] < 128 := al_lt R.2.1 _ (List.getElem_mem lk)
    generalize (al b l)[pl + k] = c at dr e0 hc
    have a1 := rm_at (d := d) T R (k := pl + k) (by omega) b
    have a2 := rm_atT (d := d) S h3 d2' b
    rw [e0] at a1
    rw [e0'] at a2
    rw [dr, List.length_cons, List.take_succ_cons]
    by_cases e : c = c'
    · subst e
      obtain ⟨x, r⟩ := ih (k + 1) d1' (by omega)
      refine ⟨x, ?_⟩
      have ee : (c :: ((al b l).drop (pl + k + 1)).take sb.length = c :: sb) = (((al b l).drop (pl + (k + 1))).take sb.length = sb) := by
        rw [show pl + (k + 1) = pl + k + 1 by omega]
        simp
      simp only [ee]
      rw [← r, r309_81]
      simp only [r309_83, r309_85, r309_88, r309_90, r309_93, r309_94, r309_95, r309_96, r309_98, r309_100, r309_101, r309_103, r309_106, r309_107, r309_108, r309_109, r309_111, r309_113, r309_116, r309_119, r309_120, r309_123, r309_124, r309_126, r309_129, mx_isr_ref, mx_isr_null, mx_wt_nil, mx_wt_1, mx_wt_2, mx_wt_3, Option.bind_some, Option.toList_some, Option.toList_none, List.cons_append, List.nil_append, mx_nl_int, mx_nl_ref, mx_nl_null, mx_nl_none, mx_nb0, mx_nb1, mx_fb0, mx_fb1, mx_cat_int, mx_cat_ref, if_true, if_false, not_true_eq_false, not_false_eq_true, T, e1, a1, a2, nI_add, nI_1, show ¬ (1 : Int32) = 0 by decide]
    · have e' : ¬ nI c = nI c' := fun z => e ((nI_eq (by omega) (by omega)).mp z)
      have ne : ¬ (c :: ((al b l).drop (pl + k + 1)).take sb.length = c' :: sb) := fun z => e (List.cons.inj z).1
      refine ⟨nI (k + 1), ?_⟩
      rw [if_neg ne, r309_81]
      simp only [r309_83, r309_85, r309_88, r309_90, r309_93, r309_94, r309_95, r309_96, r309_98, r309_100, r309_101, r309_103, r309_106, r309_107, r309_108, r309_109, r309_111, r309_113, r309_116, r309_119, r309_120, r309_123, r309_124, r309_126, r309_129, mx_isr_ref, mx_isr_null, mx_wt_nil, mx_wt_1, mx_wt_2, mx_wt_3, Option.bind_some, Option.toList_some, Option.toList_none, List.cons_append, List.nil_append, mx_nl_int, mx_nl_ref, mx_nl_null, mx_nl_none, mx_nb0, mx_nb1, mx_fb0, mx_fb1, mx_cat_int, mx_cat_ref, if_true, if_false, not_true_eq_false, not_false_eq_true, T, e1, a1, a2, nI_add, nI_1, e', show ¬ (1 : Int32) = 0 by decide]
      rw [r309_81]
      by_cases e2 : nI (tx ts t).length ≤ nI (k + 1)
      · simp only [r309_83, r309_85, r309_88, r309_90, mx_isr_ref, mx_isr_null, mx_wt_nil, mx_wt_1, mx_wt_2, mx_wt_3, Option.bind_some, Option.toList_some, Option.toList_none, List.cons_append, List.nil_append, mx_nl_int, mx_nl_ref, mx_nl_null, mx_nl_none, mx_nb0, mx_nb1, mx_fb0, mx_fb1, mx_cat_int, mx_cat_ref, if_true, if_false, not_true_eq_false, not_false_eq_true, e2]
      · simp only [r309_83, r309_85, r309_88, r309_90, mx_isr_ref, mx_isr_null, mx_wt_nil, mx_wt_1, mx_wt_2, mx_wt_3, Option.bind_some, Option.toList_some, Option.toList_none, List.cons_append, List.nil_append, mx_nl_int, mx_nl_ref, mx_nl_null, mx_nl_none, mx_nb0, mx_nb1, mx_fb0, mx_fb1, mx_cat_int, mx_cat_ref, if_true, if_false, not_true_eq_false, not_false_eq_true, e2]
theorem rm_poO (S : rm_TK h ts) {s o t : Nat} {l : List Nat} (R : txR h s o l) (h3 : (tA ts t).1 = 3) (b : Bool) {op : List Nat} (hop : ltr op) : ∀ (n pl : Nat) (l10 l11 : Option Value), pl + n = l.length + 1 - (tx ts t).length →
    mx_G (d + 2) 309 19 [some (.ref 76), some (.int (nI s)), some (.int (nI o)), some (.int (nI t)), some (.int (if b = true then 1 else 0)), some (.long (w27 op)), none, some (.int (nI l.length)), some (.int (nI (tx ts t).length)), some (.int (nI pl)), l10, l11] [] h =
      some (some (.int (if ((List.range' pl n).any fun k => (op == w_co || (op == w_sw && k == 0) || (op == w_ew && k + (tx ts t).length == l.length)) && atP (al b l) (al b (tx ts t)) k) = true then 1 else 0)), h) := by
  have T := S.1.1
  have hl := S.1.2.1
  have l12 := R.1
  have E := opF hop
  obtain ⟨f, fa, -⟩ := rm_str S.1 h3
  intro n
  induction n with
  | zero =>
    intro pl l10 l11 hn
    have e1 : nI l.length < nI (pl + (tx ts t).length) := nI_lt (by omega) (by omega)
    rw [List.range'_zero, List.any_nil]
    simp only [r309_19, r309_21, r309_23, r309_24, r309_26, r309_145, r309_146, mx_isr_ref, mx_isr_null, mx_wt_nil, mx_wt_1, mx_wt_2, mx_wt_3, Option.bind_some, Option.toList_some, Option.toList_none, List.cons_append, List.nil_append, mx_nl_int, mx_nl_ref, mx_nl_null, mx_nl_none, mx_nb0, mx_nb1, mx_fb0, mx_fb1, mx_cat_int, mx_cat_ref, if_true, if_false, not_true_eq_false, not_false_eq_true, nI_add, e1, Bool.false_eq_true]
  | succ n ih =>
    intro pl l10 l11 hn
    have e1 : ¬ nI l.length < nI (pl + (tx ts t).length) := nI_nlt (by omega) (by omega)
    rw [List.range'_succ, List.any_cons]
    have nxt : ∀ x : Int32, mx_G (d + 2) 309 132 [some (.ref 76), some (.int (nI s)), some (.int (nI o)), some (.int (nI t)), some (.int (if b = true then 1 else 0)), some (.long (w27 op)), none, some (.int (nI l.length)), some (.int (nI (tx ts t).length)), some (.int (nI pl)), some (.int 0), some (.int x)] [] h =
        mx_G (d + 2) 309 19 [some (.ref 76), some (.int (nI s)), some (.int (nI o)), some (.int (nI t)), some (.int (if b = true then 1 else 0)), some (.long (w27 op)), none, some (.int (nI l.length)), some (.int (nI (tx ts t).length)), some (.int (nI (pl + 1))), some (.int 0), some (.int x)] [] h := by
      intro x
      simp only [r309_132, r309_134, r309_137, r309_138, r309_139, r309_142, mx_isr_ref, mx_isr_null, mx_wt_nil, mx_wt_1, mx_wt_2, mx_wt_3, Option.bind_some, Option.toList_some, Option.toList_none, List.cons_append, List.nil_append, mx_nl_int, mx_nl_ref, mx_nl_null, mx_nl_none, mx_nb0, mx_nb1, mx_fb0, mx_fb1, mx_cat_int, mx_cat_ref, if_true, if_false, not_true_eq_false, not_false_eq_true, nI_1]
    -- the condition of this place
    have cond : ∀ q : Bool, (op == w_co || (op == w_sw && pl == 0) || (op == w_ew && pl + (tx ts t).length == l.length)) = q → mx_G (d + 2) 309 19 [some (.ref 76), some (.int (nI s)), some (.int (nI o)), some (.int (nI t)), some (.int (if b = true then 1 else 0)), some (.long (w27 op)), none, some (.int (nI l.length)), some (.int (nI (tx ts t).length)), some (.int (nI pl)), l10, l11] [] h =
        mx_G (d + 2) 309 81 [some (.ref 76), some (.int (nI s)), some (.int (nI o)), some (.int (nI t)), some (.int (if b = true then 1 else 0)), some (.long (w27 op)), none, some (.int (nI l.length)), some (.int (nI (tx ts t).length)), some (.int (nI pl)), some (.int (if q = true then 1 else 0)), some (.int (nI 0))] [] h := by
      intro q hq
      subst hq
      by_cases c1 : op = w_co
      · rw [show (op == w_co) = true from beq_iff_eq.2 c1]
        simp only [r309_19, r309_21, r309_23, r309_24, r309_26, r309_29, r309_31, r309_34, r309_35, r309_38, r309_40, r309_43, r309_44, r309_47, r309_49, r309_52, r309_54, r309_57, r309_58, r309_61, r309_63, r309_65, r309_66, r309_68, r309_71, r309_72, r309_75, r309_76, r309_78, r309_79, mx_isr_ref, mx_isr_null, mx_wt_nil, mx_wt_1, mx_wt_2, mx_wt_3, Option.bind_some, Option.toList_some, Option.toList_none, List.cons_append, List.nil_append, mx_nl_int, mx_nl_ref, mx_nl_null, mx_nl_none, mx_nb0, mx_nb1, mx_fb0, mx_fb1, mx_cat_int, mx_cat_ref, if_true, if_false, not_true_eq_false, not_false_eq_true, nI_add, e1, lg_cmp0, E, eq_true c1, Bool.true_or]
        rfl
      · rw [show (op == w_co) = false from beq_eq_false_iff_ne.2 c1]
        by_cases c2 : op = w_sw
        · have c3 : ¬ op = w_ew := by rw [c2]; decide
          rw [show (op == w_sw) = true from beq_iff_eq.2 c2, show (op == w_ew) = false from beq_eq_false_iff_ne.2 c3]
          by_cases z : pl = 0
          · have z' : nI pl = 0 := by rw [z]; rfl
            rw [show (pl == 0) = true from beq_iff_eq.2 z]
            simp only [r309_19, r309_21, r309_23, r309_24, r309_26, r309_29, r309_31, r309_34, r309_35, r309_38, r309_40, r309_43, r309_44, r309_47, r309_49, r309_52, r309_54, r309_57, r309_58, r309_61, r309_63, r309_65, r309_66, r309_68, r309_71, r309_72, r309_75, r309_76, r309_78, r309_79, mx_isr_ref, mx_isr_null, mx_wt_nil, mx_wt_1, mx_wt_2, mx_wt_3, Option.bind_some, Option.toList_some, Option.toList_none, List.cons_append, List.nil_append, mx_nl_int, mx_nl_ref, mx_nl_null, mx_nl_none, mx_nb0, mx_nb1, mx_fb0, mx_fb1, mx_cat_int, mx_cat_ref, if_true, if_false, not_true_eq_false, not_false_eq_true, nI_add, e1, lg_cmp0, E, eq_false c1, eq_true c2, eq_true z', Bool.false_or, Bool.true_and, Bool.true_or, Bool.false_and]
            rfl
          · have z' : ¬ nI pl = 0 := nI_ne0 (by omega) (by omega)
            rw [show (pl == 0) = false from beq_eq_false_iff_ne.2 z]
            simp only [r309_19, r309_21, r309_23, r309_24, r309_26, r309_29, r309_31, r309_34, r309_35, r309_38, r309_40, r309_43, r309_44, r309_47, r309_49, r309_52, r309_54, r309_57, r309_58, r309_61, r309_63, r309_65, r309_66, r309_68, r309_71, r309_72, r309_75, r309_76, r309_78, r309_79, mx_isr_ref, mx_isr_null, mx_wt_nil, mx_wt_1, mx_wt_2, mx_wt_3, Option.bind_some, Option.toList_some, Option.toList_none, List.cons_append, List.nil_append, mx_nl_int, mx_nl_ref, mx_nl_null, mx_nl_none, mx_nb0, mx_nb1, mx_fb0, mx_fb1, mx_cat_int, mx_cat_ref, if_true, if_false, not_true_eq_false, not_false_eq_true, nI_add, e1, lg_cmp0, E, eq_false c1, eq_true c2, eq_false c3, z', Bool.false_or, Bool.and_false, Bool.false_and, Bool.false_eq_true]
            rfl
        · rw [show (op == w_sw) = false from beq_eq_false_iff_ne.2 c2]
          by_cases c3 : op = w_ew
          · rw [show (op == w_ew) = true from beq_iff_eq.2 c3]
            by_cases z : pl + (tx ts t).length = l.length
            · have z' : nI (pl + (tx ts t).length) = nI l.length := by rw [z]
              rw [show (pl + (tx ts t).length == l.length) = true from beq_iff_eq.2 z]
              simp only [r309_19, r309_21, r309_23, r309_24, r309_26, r309_29, r309_31, r309_34, r309_35, r309_38, r309_40, r309_43, r309_44, r309_47, r309_49, r309_52, r309_54, r309_57, r309_58, r309_61, r309_63, r309_65, r309_66, r309_68, r309_71, r309_72, r309_75, r309_76, r309_78, r309_79, mx_isr_ref, mx_isr_null, mx_wt_nil, mx_wt_1, mx_wt_2, mx_wt_3, Option.bind_some, Option.toList_some, Option.toList_none, List.cons_append, List.nil_append, mx_nl_int, mx_nl_ref, mx_nl_null, mx_nl_none, mx_nb0, mx_nb1, mx_fb0, mx_fb1, mx_cat_int, mx_cat_ref, if_true, if_false, not_true_eq_false, not_false_eq_true, nI_add, e1, lg_cmp0, E, eq_false c1, eq_false c2, eq_true c3, eq_true z', Bool.false_or, Bool.true_and, Bool.false_and]
              rfl
            · have z' : ¬ nI (pl + (tx ts t).length) = nI l.length := fun y => z ((nI_eq (by omega) (by omega)).mp y)
              rw [show (pl + (tx ts t).length == l.length) = false from beq_eq_false_iff_ne.2 z]
              simp only [r309_19, r309_21, r309_23, r309_24, r309_26, r309_29, r309_31, r309_34, r309_35, r309_38, r309_40, r309_43, r309_44, r309_47, r309_49, r309_52, r309_54, r309_57, r309_58, r309_61, r309_63, r309_65, r309_66, r309_68, r309_71, r309_72, r309_75, r309_76, r309_78, r309_79, mx_isr_ref, mx_isr_null, mx_wt_nil, mx_wt_1, mx_wt_2, mx_wt_3, Option.bind_some, Option.toList_some, Option.toList_none, List.cons_append, List.nil_append, mx_nl_int, mx_nl_ref, mx_nl_null, mx_nl_none, mx_nb0, mx_nb1, mx_fb0, mx_fb1, mx_cat_int, mx_cat_ref, if_true, if_false, not_true_eq_false, not_false_eq_true, nI_add, e1, lg_cmp0, E, eq_false c1, eq_false c2, eq_true c3, z', Bool.false_or, Bool.and_false, Bool.false_and, Bool.false_eq_true]
              rfl
          · rw [show (op == w_ew) = false from beq_eq_false_iff_ne.2 c3]
            simp only [r309_19, r309_21, r309_23, r309_24, r309_26, r309_29, r309_31, r309_34, r309_35, r309_38, r309_40, r309_43, r309_44, r309_47, r309_49, r309_52, r309_54, r309_57, r309_58, r309_61, r309_63, r309_65, r309_66, r309_68, r309_71, r309_72, r309_75, r309_76, r309_78, r309_79, mx_isr_ref, mx_isr_null, mx_wt_nil, mx_wt_1, mx_wt_2, mx_wt_3, Option.bind_some, Option.toList_some, Option.toList_none, List.cons_append, List.nil_append, mx_nl_int, mx_nl_ref, mx_nl_null, mx_nl_none, mx_nb0, mx_nb1, mx_fb0, mx_fb1, mx_cat_int, mx_cat_ref, if_true, if_false, not_true_eq_false, not_false_eq_true, nI_add, e1, lg_cmp0, E, eq_false c1, eq_false c2, eq_false c3, Bool.false_or, Bool.false_and, Bool.false_eq_true]
            rfl
    cases hq : (op == w_co || (op == w_sw && pl == 0) || (op == w_ew && pl + (tx ts t).length == l.length)) with
    | false =>
      rw [cond false hq, Bool.false_and, Bool.false_or, ← ih (pl + 1) (some (.int 0)) (some (.int (nI 0))) (by omega), ← nxt, r309_81]
      by_cases e2 : nI (tx ts t).length ≤ nI 0
      · simp only [r309_83, r309_85, r309_88, r309_90, mx_isr_ref, mx_isr_null, mx_wt_nil, mx_wt_1, mx_wt_2, mx_wt_3, Option.bind_some, Option.toList_some, Option.toList_none, List.cons_append, List.nil_append, mx_nl_int, mx_nl_ref, mx_nl_null, mx_nl_none, mx_nb0, mx_nb1, mx_fb0, mx_fb1, mx_cat_int, mx_cat_ref, if_true, if_false, not_true_eq_false, not_false_eq_true, e2, Bool.false_eq_true]
      · simp only [r309_83, r309_85, r309_88, r309_90, mx_isr_ref, mx_isr_null, mx_wt_nil, mx_wt_1, mx_wt_2, mx_wt_3, Option.bind_some, Option.toList_some, Option.toList_none, List.cons_append, List.nil_append, mx_nl_int, mx_nl_ref, mx_nl_null, mx_nl_none, mx_nb0, mx_nb1, mx_fb0, mx_fb1, mx_cat_int, mx_cat_ref, if_true, if_false, not_true_eq_false, not_false_eq_true, e2, Bool.false_eq_true]
    | true =>
      obtain ⟨x, r⟩ := rm_poI (d := d) S R h3 b (u := w27 op) (pl := pl) (by omega) _ 0 rfl (Nat.zero_le _)
      rw [cond true hq, Bool.true_and]
      simp only [if_true]
      rw [r]
      have ea : atP (al b l) (al b (tx ts t)) pl = decide (((al b l).drop (pl + 0)).take ((al b (tx ts t)).drop 0).length = (al b (tx ts t)).drop 0) := by
        unfold atP
        rw [Nat.add_zero, List.drop_zero, Bool.beq_eq_decide_eq]
      rw [ea]
      by_cases c : ((al b l).drop (pl + 0)).take ((al b (tx ts t)).drop 0).length = (al b (tx ts t)).drop 0
      · rw [if_pos c, decide_eq_true c, Bool.true_or, if_pos rfl]
        simp only [r309_132, r309_134, r309_137, r309_138, mx_isr_ref, mx_isr_null, mx_wt_nil, mx_wt_1, mx_wt_2, mx_wt_3, Option.bind_some, Option.toList_some, Option.toList_none, List.cons_append, List.nil_append, mx_nl_int, mx_nl_ref, mx_nl_null, mx_nl_none, mx_nb0, mx_nb1, mx_fb0, mx_fb1, mx_cat_int, mx_cat_ref, if_true, if_false, not_true_eq_false, not_false_eq_true, show ¬ (1 : Int32) = 0 by decide]
      · rw [if_neg c, decide_eq_false c, Bool.false_or, nxt]
        exact ih (pl + 1) _ _ (by omega)
end
