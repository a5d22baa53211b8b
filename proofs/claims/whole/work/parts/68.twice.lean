section
variable {d : Nat} {h : mx_H} {ts : List tk}
theorem getD_ext {x y : List Nat} (hl : x.length = y.length) (he : ∀ j, j < x.length → x.getD j 0 = y.getD j 0) : x = y := by
  apply List.ext_getElem? 
  intro j
  by_cases c : j < x.length
  · have := he j c
    rw [List.getD_eq_getElem?_getD, List.getD_eq_getElem?_getD, List.getElem?_eq_getElem c, List.getElem?_eq_getElem (by omega)] at this
    rw [List.getElem?_eq_getElem c, List.getElem?_eq_getElem (by omega)]
    exact congrArg some this
  · rw [List.getElem?_eq_none (by omega), List.getElem?_eq_none (by omega)]
theorem getD_lt {x : List Nat} (h : ∀ c ∈ x, c < 128) (j : Nat) : x.getD j 0 < 128 := by
  rw [List.getD_eq_getElem?_getD]
  by_cases c : j < x.length
  · rw [List.getElem?_eq_getElem c]; exact h _ (List.getElem_mem c)
  · rw [List.getElem?_eq_none (by omega)]; decide
theorem te_inj {x y : List Nat} (hx : txOk x) (hy : txOk y) (he : ∀ j, j < 13 → te x j = te y j) : x = y := by
  have h0 := he 0 (by decide)
  unfold te at h0
  rw [if_pos rfl, if_pos rfl] at h0
  have hl : x.length = y.length := (nI_eq (by have := hx.2.1; omega) (by have := hy.2.1; omega)).mp h0
  refine getD_ext hl fun j hj => ?_
  have := he (j + 1) (by have := hx.2.1; omega)
  unfold te at this
  rw [if_neg (by omega), if_neg (by omega), Nat.add_sub_cancel] at this
  exact (nI_eq (by have := getD_lt hx.2.2 j; omega) (by have := getD_lt hy.2.2 j; omega)).mp this
/-- the items of the draft -/
def wIt8 (h : mx_H) (l : List itm) : Prop := l.length ≤ 4 ∧ mi h 77 659 = nI l.length ∧ (∀ x ∈ l, txOk x.1) ∧ ∀ k, k < l.length → itR h 8 k (iG l k)
theorem wIt8_te {l : List itm} (W : wIt8 h l) {k j : Nat} (hk : k < l.length) (hj : j < 13) : mi h 77 (80 * 8 + (20 + 14 * k + j)) = te (iG l k).1 j := by
  have := W.2.2.2 k hk j (by omega)
  unfold ie at this
  rw [if_pos hj] at this
  rw [← this]
  congr 1
  omega
theorem wIt8_p {l : List itm} (W : wIt8 h l) {k : Nat} (hk : k < l.length) : mi h 77 (80 * 8 + (20 + 14 * k + 13)) = nI (pB (iG l k).2) := by
  have := W.2.2.2 k hk 13 (by omega)
  unfold ie at this
  rw [if_neg (by omega)] at this
  rw [← this]
  congr 1
  omega
theorem rm_f19 (T : mr_T h) {l : List itm} (W : wIt8 h l) : mx_G d 274 0 [some (.ref 76), some (.int 8), some (.int 19)] [] h = some (some (.int (nI l.length)), h) := by
  have := rm_f (d := d) T (s := 8) (o := 19) (by decide)
  rw [show 80 * 8 + 19 = 659 from rfl, W.2.1] at this
  exact this
theorem rm_tw0 {a : Option Value} {b : Int32} : ∀ n k, k + n = 13 → mx_G (d + 1) 273 26 [some (.ref 76), a, some (.int b), some (.int 0), some (.int (nI k))] [] h = mx_G (d + 1) 273 80 [some (.ref 76), a, some (.int b), some (.int 0), some (.int (nI 13))] [] h := by
  intro n
  induction n with
  | zero =>
    intro k hk
    have : k = 13 := by omega
    subst this
    simp only [r273_26, r273_28, r273_30, mx_isr_ref, mx_isr_null, mx_wt_nil, mx_wt_1, mx_wt_2, mx_wt_3, Option.bind_some, Option.toList_some, Option.toList_none, List.cons_append, List.nil_append, mx_nl_int, mx_nl_ref, mx_nl_null, mx_nl_none, mx_nb0, mx_nb1, mx_fb0, mx_fb1, mx_cat_int, mx_cat_ref, if_true, if_false, not_true_eq_false, not_false_eq_true, show (13 : Int32) ≤ nI 13 by decide]
  | succ n ih =>
    intro k hk
    have e1 : ¬ (13 : Int32) ≤ nI k := nI_ge (b := 13) (by omega) (by decide)
    rw [← ih (k + 1) (by omega), r273_26]
    simp only [r273_28, r273_30, r273_33, r273_34, r273_72, r273_73, r273_74, r273_77, mx_isr_ref, mx_isr_null, mx_wt_nil, mx_wt_1, mx_wt_2, mx_wt_3, Option.bind_some, Option.toList_some, Option.toList_none, List.cons_append, List.nil_append, mx_nl_int, mx_nl_ref, mx_nl_null, mx_nl_none, mx_nb0, mx_nb1, mx_fb0, mx_fb1, mx_cat_int, mx_cat_ref, if_true, if_false, not_true_eq_false, not_false_eq_true, e1, nI_1]
theorem rm_tw1 (T : mr_T h) {l : List itm} (W : wIt8 h l) {a b : Nat} (ha : a < l.length) (hb : b < l.length) : ∀ n k, k + n = 13 →
    ((∀ j, k ≤ j → j < 13 → te (iG l a).1 j = te (iG l b).1 j) → mx_G (d + 1) 273 26 [some (.ref 76), some (.int (nI a)), some (.int (nI b)), some (.int 1), some (.int (nI k))] [] h = mx_G (d + 1) 273 80 [some (.ref 76), some (.int (nI a)), some (.int (nI b)), some (.int 1), some (.int (nI 13))] [] h) ∧
    (¬ (∀ j, k ≤ j → j < 13 → te (iG l a).1 j = te (iG l b).1 j) → mx_G (d + 1) 273 26 [some (.ref 76), some (.int (nI a)), some (.int (nI b)), some (.int 1), some (.int (nI k))] [] h = mx_G (d + 1) 273 80 [some (.ref 76), some (.int (nI a)), some (.int (nI b)), some (.int 0), some (.int (nI 13))] [] h) := by
  have hl := W.1
  intro n
  induction n with
  | zero =>
    intro k hk
    have : k = 13 := by omega
    subst this
    refine ⟨fun _ => ?_, fun z => absurd (fun j h1 h2 => by omega) z⟩
    simp only [r273_26, r273_28, r273_30, mx_isr_ref, mx_isr_null, mx_wt_nil, mx_wt_1, mx_wt_2, mx_wt_3, Option.bind_some, Option.toList_some, Option.toList_none, List.cons_append, List.nil_append, mx_nl_int, mx_nl_ref, mx_nl_null, mx_nl_none, mx_nb0, mx_nb1, mx_fb0, mx_fb1, mx_cat_int, mx_cat_ref, if_true, if_false, not_true_eq_false, not_false_eq_true, show (13 : Int32) ≤ nI 13 by decide]
  | succ n ih =>
    intro k hk
    have e1 : ¬ (13 : Int32) ≤ nI k := nI_ge (b := 13) (by omega) (by decide)
    have ia := rm_item (d := d) (h := h) (k := a)
    have ib := rm_item (d := d) (h := h) (k := b)
    have fa := rm_f (d := d) T (s := 8) (o := 20 + 14 * a + k) (by omega)
    have fb := rm_f (d := d) T (s := 8) (o := 20 + 14 * b + k) (by omega)
    rw [wIt8_te W ha (by omega), show nI 8 = 8 from rfl] at fa
    rw [wIt8_te W hb (by omega), show nI 8 = 8 from rfl] at fb
    by_cases e : te (iG l a).1 k = te (iG l b).1 k
    · have st : mx_G (d + 1) 273 26 [some (.ref 76), some (.int (nI a)), some (.int (nI b)), some (.int 1), some (.int (nI k))] [] h = mx_G (d + 1) 273 26 [some (.ref 76), some (.int (nI a)), some (.int (nI b)), some (.int 1), some (.int (nI (k + 1)))] [] h := by
        rw [r273_26]
        simp only [r273_28, r273_30, r273_33, r273_34, r273_37, r273_38, r273_40, r273_41, r273_42, r273_45, r273_47, r273_48, r273_51, r273_52, r273_54, r273_55, r273_56, r273_59, r273_61, r273_62, r273_65, r273_68, r273_69, r273_72, r273_73, r273_74, r273_77, mx_isr_ref, mx_isr_null, mx_wt_nil, mx_wt_1, mx_wt_2, mx_wt_3, Option.bind_some, Option.toList_some, Option.toList_none, List.cons_append, List.nil_append, mx_nl_int, mx_nl_ref, mx_nl_null, mx_nl_none, mx_nb0, mx_nb1, mx_fb0, mx_fb1, mx_cat_int, mx_cat_ref, if_true, if_false, not_true_eq_false, not_false_eq_true, T, e1, ia, ib, nI_add, fa, fb, e, nI_1, show ¬ (1 : Int32) = 0 by decide]
      rw [st]
      obtain ⟨i1, i2⟩ := ih (k + 1) (by omega)
      refine ⟨fun z => i1 fun j h1 h2 => z j (by omega) h2, fun z => i2 fun y => z fun j h1 h2 => ?_⟩
      by_cases c : j = k
      · rw [c]; exact e
      · exact y j (by omega) h2
    · refine ⟨fun z => absurd (z k (Nat.le_refl _) (by omega)) e, fun _ => ?_⟩
      rw [← rm_tw0 n (k + 1) (by omega), r273_26]
      simp only [r273_28, r273_30, r273_33, r273_34, r273_37, r273_38, r273_40, r273_41, r273_42, r273_45, r273_47, r273_48, r273_51, r273_52, r273_54, r273_55, r273_56, r273_59, r273_61, r273_62, r273_65, r273_68, r273_69, r273_72, r273_73, r273_74, r273_77, mx_isr_ref, mx_isr_null, mx_wt_nil, mx_wt_1, mx_wt_2, mx_wt_3, Option.bind_some, Option.toList_some, Option.toList_none, List.cons_append, List.nil_append, mx_nl_int, mx_nl_ref, mx_nl_null, mx_nl_none, mx_nb0, mx_nb1, mx_fb0, mx_fb1, mx_cat_int, mx_cat_ref, if_true, if_false, not_true_eq_false, not_false_eq_true, T, e1, ia, ib, nI_add, fa, fb, e, nI_1, show ¬ (1 : Int32) = 0 by decide]
theorem rm_twB (T : mr_T h) {l : List itm} (W : wIt8 h l) {a : Nat} (ha : a < l.length) : ∀ n b l3 l4, b + n = a →
    ((∃ b', b ≤ b' ∧ b' < a ∧ (iG l a).1 = (iG l b').1) → mx_G (d + 1) 273 16 [some (.ref 76), some (.int (nI a)), some (.int (nI b)), l3, l4] [] h = some (some (.int 1), h)) ∧
    ((¬ ∃ b', b ≤ b' ∧ b' < a ∧ (iG l a).1 = (iG l b').1) → ∃ l2' l3' l4', mx_nl l2' = true ∧ mx_G (d + 1) 273 16 [some (.ref 76), some (.int (nI a)), some (.int (nI b)), l3, l4] [] h = mx_G (d + 1) 273 92 [some (.ref 76), some (.int (nI a)), l2', l3', l4'] [] h) := by
  have hl := W.1
  intro n
  induction n with
  | zero =>
    intro b l3 l4 hb
    have e1 : nI a ≤ nI b := nI_le (by omega) (by omega)
    refine ⟨fun ⟨b', h1, h2, _⟩ => by omega, fun _ => ⟨some (.int (nI b)), l3, l4, rfl, ?_⟩⟩
    simp only [r273_16, r273_17, r273_18, mx_isr_ref, mx_isr_null, mx_wt_nil, mx_wt_1, mx_wt_2, mx_wt_3, Option.bind_some, Option.toList_some, Option.toList_none, List.cons_append, List.nil_append, mx_nl_int, mx_nl_ref, mx_nl_null, mx_nl_none, mx_nb0, mx_nb1, mx_fb0, mx_fb1, mx_cat_int, mx_cat_ref, if_true, if_false, not_true_eq_false, not_false_eq_true, e1]
  | succ n ih =>
    intro b l3 l4 hb
    have e1 : ¬ nI a ≤ nI b := nI_ge (by omega) (by omega)
    have L := rm_tw1 (d := d) T W ha (b := b) (by omega) 13 0 rfl
    have st : mx_G (d + 1) 273 16 [some (.ref 76), some (.int (nI a)), some (.int (nI b)), l3, l4] [] h = mx_G (d + 1) 273 26 [some (.ref 76), some (.int (nI a)), some (.int (nI b)), some (.int 1), some (.int 0)] [] h := by
      simp only [r273_16, r273_17, r273_18, r273_21, r273_22, r273_23, r273_24, mx_isr_ref, mx_isr_null, mx_wt_nil, mx_wt_1, mx_wt_2, mx_wt_3, Option.bind_some, Option.toList_some, Option.toList_none, List.cons_append, List.nil_append, mx_nl_int, mx_nl_ref, mx_nl_null, mx_nl_none, mx_nb0, mx_nb1, mx_fb0, mx_fb1, mx_cat_int, mx_cat_ref, if_true, if_false, not_true_eq_false, not_false_eq_true, e1]
    rw [st]
    by_cases e : (iG l a).1 = (iG l b).1
    · have L := L.1 fun j _ _ => by rw [e]
      rw [show nI 0 = 0 from rfl] at L
      refine ⟨fun _ => ?_, fun z => absurd ⟨b, Nat.le_refl _, by omega, e⟩ z⟩
      rw [L]
      simp only [r273_80, r273_81, r273_84, r273_85, mx_isr_ref, mx_isr_null, mx_wt_nil, mx_wt_1, mx_wt_2, mx_wt_3, Option.bind_some, Option.toList_some, Option.toList_none, List.cons_append, List.nil_append, mx_nl_int, mx_nl_ref, mx_nl_null, mx_nl_none, mx_nb0, mx_nb1, mx_fb0, mx_fb1, mx_cat_int, mx_cat_ref, if_true, if_false, not_true_eq_false, not_false_eq_true, show ¬ (1 : Int32) = 0 by decide]
    · have L := L.2 fun z => e (te_inj (W.2.2.1 _ (iG_mem ha)) (W.2.2.1 _ (iG_mem (by omega))) fun j hj => z j (Nat.zero_le _) hj)
      rw [show nI 0 = 0 from rfl] at L
      rw [L]
      have s2 : mx_G (d + 1) 273 80 [some (.ref 76), some (.int (nI a)), some (.int (nI b)), some (.int 0), some (.int (nI 13))] [] h = mx_G (d + 1) 273 16 [some (.ref 76), some (.int (nI a)), some (.int (nI (b + 1))), some (.int 0), some (.int (nI 13))] [] h := by
        simp only [r273_80, r273_81, r273_84, r273_85, r273_86, r273_89, mx_isr_ref, mx_isr_null, mx_wt_nil, mx_wt_1, mx_wt_2, mx_wt_3, Option.bind_some, Option.toList_some, Option.toList_none, List.cons_append, List.nil_append, mx_nl_int, mx_nl_ref, mx_nl_null, mx_nl_none, mx_nb0, mx_nb1, mx_fb0, mx_fb1, mx_cat_int, mx_cat_ref, if_true, if_false, not_true_eq_false, not_false_eq_true, nI_1]
      rw [s2]
      obtain ⟨i1, i2⟩ := ih (b + 1) (some (.int 0)) (some (.int (nI 13))) (by omega)
      refine ⟨fun ⟨b', h1, h2, h3⟩ => i1 ⟨b', ?_, h2, h3⟩, fun z => i2 fun ⟨b', h1, h2, h3⟩ => z ⟨b', by omega, h2, h3⟩⟩
      rcases Nat.lt_or_ge b b' with c | c
      · exact c
      · have : b' = b := by omega
        subst this
        exact absurd h3 e
theorem rm_twA (T : mr_T h) {l : List itm} (W : wIt8 h l) : ∀ n a l2 l3 l4, mx_nl l2 = true → a + n = l.length →
    ((∃ a', a ≤ a' ∧ a' < l.length ∧ ∃ b', b' < a' ∧ (iG l a').1 = (iG l b').1) → mx_G (d + 1) 273 2 [some (.ref 76), some (.int (nI a)), l2, l3, l4] [] h = some (some (.int 1), h)) ∧
    ((¬ ∃ a', a ≤ a' ∧ a' < l.length ∧ ∃ b', b' < a' ∧ (iG l a').1 = (iG l b').1) → mx_G (d + 1) 273 2 [some (.ref 76), some (.int (nI a)), l2, l3, l4] [] h = some (some (.int 0), h)) := by
  have hl := W.1
  have f19 := rm_f19 (d := d) T W
  intro n
  induction n with
  | zero =>
    intro a l2 l3 l4 hn ha
    have e1 : nI l.length ≤ nI a := nI_le (by omega) (by omega)
    refine ⟨fun ⟨a', h1, h2, _⟩ => by omega, fun _ => ?_⟩
    simp only [r273_2, r273_3, r273_4, r273_6, r273_8, r273_11, r273_98, r273_99, mx_isr_ref, mx_isr_null, mx_wt_nil, mx_wt_1, mx_wt_2, mx_wt_3, Option.bind_some, Option.toList_some, Option.toList_none, List.cons_append, List.nil_append, mx_nl_int, mx_nl_ref, mx_nl_null, mx_nl_none, mx_nb0, mx_nb1, mx_fb0, mx_fb1, mx_cat_int, mx_cat_ref, if_true, if_false, not_true_eq_false, not_false_eq_true, T, f19, e1]
  | succ n ih =>
    intro a l2 l3 l4 hn ha
    have e1 : ¬ nI l.length ≤ nI a := nI_ge (by omega) (by omega)
    have B := rm_twB (d := d) T W (a := a) (by omega) a 0 l3 l4 (by omega)
    have st : mx_G (d + 1) 273 2 [some (.ref 76), some (.int (nI a)), l2, l3, l4] [] h = mx_G (d + 1) 273 16 [some (.ref 76), some (.int (nI a)), some (.int 0), l3, l4] [] h := by
      simp only [r273_2, r273_3, r273_4, r273_6, r273_8, r273_11, r273_14, r273_15, mx_isr_ref, mx_isr_null, mx_wt_nil, mx_wt_1, mx_wt_2, mx_wt_3, Option.bind_some, Option.toList_some, Option.toList_none, List.cons_append, List.nil_append, mx_nl_int, mx_nl_ref, mx_nl_null, mx_nl_none, mx_nb0, mx_nb1, mx_fb0, mx_fb1, mx_cat_int, mx_cat_ref, if_true, if_false, not_true_eq_false, not_false_eq_true, T, f19, e1]
    rw [st]
    rw [show nI 0 = 0 from rfl] at B
    by_cases e : ∃ b', 0 ≤ b' ∧ b' < a ∧ (iG l a).1 = (iG l b').1
    · refine ⟨fun _ => B.1 e, fun z => absurd ?_ z⟩
      obtain ⟨b', -, h2, h3⟩ := e
      exact ⟨a, Nat.le_refl _, by omega, b', h2, h3⟩
    · obtain ⟨l2', l3', l4', hn', r⟩ := B.2 e
      rw [r]
      have s2 : mx_G (d + 1) 273 92 [some (.ref 76), some (.int (nI a)), l2', l3', l4'] [] h = mx_G (d + 1) 273 2 [some (.ref 76), some (.int (nI (a + 1))), l2', l3', l4'] [] h := by
        simp only [r273_92, r273_95, mx_isr_ref, mx_isr_null, mx_wt_nil, mx_wt_1, mx_wt_2, mx_wt_3, Option.bind_some, Option.toList_some, Option.toList_none, List.cons_append, List.nil_append, mx_nl_int, mx_nl_ref, mx_nl_null, mx_nl_none, mx_nb0, mx_nb1, mx_fb0, mx_fb1, mx_cat_int, mx_cat_ref, if_true, if_false, not_true_eq_false, not_false_eq_true, hn', nI_1]
      rw [s2]
      obtain ⟨i1, i2⟩ := ih (a + 1) l2' l3' l4' hn' (by omega)
      refine ⟨fun ⟨a', h1, h2, b', h3, h4⟩ => i1 ⟨a', ?_, h2, b', h3, h4⟩, fun z => i2 fun ⟨a', h1, h2, h3⟩ => z ⟨a', by omega, h2, h3⟩⟩
      rcases Nat.lt_or_ge a a' with c | c
      · exact c
      · have : a' = a := by omega
        subst this
        exact absurd ⟨b', Nat.zero_le _, h3, h4⟩ e
theorem twn_ex (l : List itm) : twn l = true ↔ ∃ a, 0 ≤ a ∧ a < l.length ∧ ∃ b, b < a ∧ (iG l a).1 = (iG l b).1 := by
  unfold twn
  rw [List.any_eq_true]
  constructor
  · rintro ⟨a, h1, h2⟩
    obtain ⟨b, h3, h4⟩ := List.any_eq_true.1 h2
    exact ⟨a, Nat.zero_le _, List.mem_range.1 h1, b, List.mem_range.1 h3, beq_iff_eq.1 h4⟩
  · rintro ⟨a, -, h1, b, h2, h3⟩
    exact ⟨a, List.mem_range.2 h1, List.any_eq_true.2 ⟨b, List.mem_range.2 h2, beq_iff_eq.2 h3⟩⟩
theorem rm_twice (T : mr_T h) {l : List itm} (W : wIt8 h l) : mx_G (d + 1) 273 0 [some (.ref 76), none, none, none, none] [] h = some (some (.int (if twn l = true then 1 else 0)), h) := by
  have A := rm_twA (d := d) T W l.length 0 none none none rfl (Nat.zero_add _)
  have st : mx_G (d + 1) 273 0 [some (.ref 76), none, none, none, none] [] h = mx_G (d + 1) 273 2 [some (.ref 76), some (.int 0), none, none, none] [] h := by simp only [r273_0, r273_1, mx_isr_ref, mx_isr_null, mx_wt_nil, mx_wt_1, mx_wt_2, mx_wt_3, Option.bind_some, Option.toList_some, Option.toList_none, List.cons_append, List.nil_append, mx_nl_int, mx_nl_ref, mx_nl_null, mx_nl_none, mx_nb0, mx_nb1, mx_fb0, mx_fb1, mx_cat_int, mx_cat_ref, if_true, if_false, not_true_eq_false, not_false_eq_true]
  rw [st]
  rw [show nI 0 = 0 from rfl] at A
  by_cases e : twn l = true
  · rw [if_pos e]; exact A.1 ((twn_ex l).1 e)
  · rw [if_neg e]; exact A.2 fun z => e ((twn_ex l).2 z)
theorem trs_take (l : List itm) {k : Nat} (hk : k < l.length) : trs (l.take (k + 1)) = trs (l.take k) + (if (iG l k).2 = some true then 1 else 0) := by
  unfold trs iG
  rw [List.take_add_one, List.getElem?_eq_getElem hk, List.filter_append, List.length_append, List.getD_eq_getElem?_getD, List.getElem?_eq_getElem hk]
  congr 1
  simp only [Option.toList_some, Option.getD_some]
  by_cases e : l[k].2 = some true
  · rw [if_pos e, List.filter_cons_of_pos (by rw [e]; rfl)]; rfl
  · rw [if_neg e, List.filter_cons_of_neg (by simpa using e)]; rfl
theorem rm_truL (T : mr_T h) {l : List itm} (W : wIt8 h l) : ∀ n k, k + n = l.length → mx_G (d + 1) 275 4 [some (.ref 76), some (.int (nI (trs (l.take k)))), some (.int (nI k))] [] h = some (some (.int (nI (trs l))), h) := by
  have hl := W.1
  have f19 := rm_f19 (d := d) T W
  intro n
  induction n with
  | zero =>
    intro k hk
    have e1 : nI l.length ≤ nI k := nI_le (by omega) (by omega)
    rw [List.take_of_length_le (by omega)]
    simp only [r275_4, r275_5, r275_6, r275_8, r275_10, r275_13, r275_48, r275_49, mx_isr_ref, mx_isr_null, mx_wt_nil, mx_wt_1, mx_wt_2, mx_wt_3, Option.bind_some, Option.toList_some, Option.toList_none, List.cons_append, List.nil_append, mx_nl_int, mx_nl_ref, mx_nl_null, mx_nl_none, mx_nb0, mx_nb1, mx_fb0, mx_fb1, mx_cat_int, mx_cat_ref, if_true, if_false, not_true_eq_false, not_false_eq_true, T, f19, e1]
  | succ n ih =>
    intro k hk
    have e1 : ¬ nI l.length ≤ nI k := nI_ge (by omega) (by omega)
    have im := rm_item (d := d) (h := h) (k := k)
    have e2 : nI (20 + 14 * k) + 13 = nI (20 + 14 * k + 13) := nI_add (20 + 14 * k) 13
    have fa := rm_f (d := d) T (s := 8) (o := 20 + 14 * k + 13) (by omega)
    rw [wIt8_p W (by omega), show nI 8 = 8 from rfl] at fa
    have hi := ih (k + 1) (by omega)
    rw [trs_take l (by omega)] at hi
    by_cases e : (iG l k).2 = some true
    · rw [if_pos e] at hi
      rw [← hi, r275_4]
      have e3 : nI (pB (iG l k).2) = 1 := by rw [e]; rfl
      simp only [r275_5, r275_6, r275_8, r275_10, r275_13, r275_16, r275_17, r275_19, r275_20, r275_21, r275_24, r275_26, r275_27, r275_30, r275_31, r275_34, r275_35, r275_36, r275_37, r275_40, r275_41, r275_42, r275_45, mx_isr_ref, mx_isr_null, mx_wt_nil, mx_wt_1, mx_wt_2, mx_wt_3, Option.bind_some, Option.toList_some, Option.toList_none, List.cons_append, List.nil_append, mx_nl_int, mx_nl_ref, mx_nl_null, mx_nl_none, mx_nb0, mx_nb1, mx_fb0, mx_fb1, mx_cat_int, mx_cat_ref, if_true, if_false, not_true_eq_false, not_false_eq_true, T, f19, e1, im, e2, fa, e3, nI_1]
    · rw [if_neg e] at hi
      rw [← hi, r275_4]
      have e3 : ¬ nI (pB (iG l k).2) = 1 := by
        cases z : (iG l k).2 with
        | none => decide
        | some b =>
          cases b with
          | true => exact absurd z e
          | false => decide
      simp only [r275_5, r275_6, r275_8, r275_10, r275_13, r275_16, r275_17, r275_19, r275_20, r275_21, r275_24, r275_26, r275_27, r275_30, r275_31, r275_34, r275_35, r275_36, r275_37, r275_40, r275_41, r275_42, r275_45, mx_isr_ref, mx_isr_null, mx_wt_nil, mx_wt_1, mx_wt_2, mx_wt_3, Option.bind_some, Option.toList_some, Option.toList_none, List.cons_append, List.nil_append, mx_nl_int, mx_nl_ref, mx_nl_null, mx_nl_none, mx_nb0, mx_nb1, mx_fb0, mx_fb1, mx_cat_int, mx_cat_ref, if_true, if_false, not_true_eq_false, not_false_eq_true, T, f19, e1, im, e2, fa, e3, nI_1]
      rfl
theorem rm_trues (T : mr_T h) {l : List itm} (W : wIt8 h l) : mx_G (d + 1) 275 0 [some (.ref 76), none, none] [] h = some (some (.int (nI (trs l))), h) := by
  have L := rm_truL (d := d) T W l.length 0 (Nat.zero_add _)
  rw [List.take_zero, show trs [] = 0 from rfl, show nI 0 = 0 from rfl] at L
  simp only [r275_0, r275_1, r275_2, r275_3, mx_isr_ref, mx_isr_null, mx_wt_nil, mx_wt_1, mx_wt_2, mx_wt_3, Option.bind_some, Option.toList_some, Option.toList_none, List.cons_append, List.nil_append, mx_nl_int, mx_nl_ref, mx_nl_null, mx_nl_none, mx_nb0, mx_nb1, mx_fb0, mx_fb1, mx_cat_int, mx_cat_ref, if_true, if_false, not_true_eq_false, not_false_eq_true]
  exact L
end
