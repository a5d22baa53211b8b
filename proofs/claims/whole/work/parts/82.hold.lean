section
variable {d : Nat} {h : mx_H} {ts : List tk}
theorem i64_tri (x y : Int64) : x < y ∨ x = y ∨ y < x := by
  rcases Int.lt_trichotomy x.toInt y.toInt with c | c | c
  · exact Or.inl (Int64.lt_iff_toInt_lt.2 c)
  · exact Or.inr (Or.inl (Int64.toInt_inj.1 c))
  · exact Or.inr (Or.inr (Int64.lt_iff_toInt_lt.2 c))
theorem lg_ge (x y : Int64) : (0 ≤ lg_cmp x y) = ¬ (x < y) := by
  apply propext
  have irr : ∀ z : Int64, ¬ z < z := fun z c => by have := Int64.lt_iff_toInt_lt.1 c; omega
  have asy : ∀ a b : Int64, a < b → ¬ b < a := fun a b c e => by have := Int64.lt_iff_toInt_lt.1 c; have := Int64.lt_iff_toInt_lt.1 e; omega
  rcases i64_tri x y with c | c | c
  · have : lg_cmp x y = -1 := by
      unfold lg_cmp
      rw [if_neg (asy _ _ c), if_neg (fun z => irr y (by rw [z] at c; exact c))]
    rw [this]
    exact ⟨fun z => absurd z (by decide), fun z => absurd c z⟩
  · have : lg_cmp x y = 0 := by rw [lg_cmp0]; exact c
    rw [this, c]
    exact ⟨fun _ => irr y, fun _ => by decide⟩
  · have : lg_cmp x y = 1 := by
      unfold lg_cmp
      rw [if_pos c]
    rw [this]
    exact ⟨fun _ => asy _ _ c, fun _ => by decide⟩
theorem lg_le (x y : Int64) : (lg_cmp x y ≤ 0) = ¬ (y < x) := by
  apply propext
  have irr : ∀ z : Int64, ¬ z < z := fun z c => by have := Int64.lt_iff_toInt_lt.1 c; omega
  have asy : ∀ a b : Int64, a < b → ¬ b < a := fun a b c e => by have := Int64.lt_iff_toInt_lt.1 c; have := Int64.lt_iff_toInt_lt.1 e; omega
  rcases i64_tri x y with c | c | c
  · have : lg_cmp x y = -1 := by
      unfold lg_cmp
      rw [if_neg (asy _ _ c), if_neg (fun z => irr y (by rw [z] at c; exact c))]
    rw [this]
    exact ⟨fun _ => asy _ _ c, fun _ => by decide⟩
  · have : lg_cmp x y = 0 := by rw [lg_cmp0]; exact c
    rw [this, c]
    exact ⟨fun _ => irr y, fun _ => by decide⟩
  · have : lg_cmp x y = 1 := by
      unfold lg_cmp
      rw [if_pos c]
    rw [this]
    exact ⟨fun z => absurd z (by decide), fun z => absurd c z⟩
/-- a text in the row of people -/
def txR (h : mx_H) (s o : Nat) (l : List Nat) : Prop := l.length ≤ 12 ∧ (∀ c ∈ l, c < 128) ∧ 80 * s + o + 13 ≤ 800 ∧ ∀ j, j < 13 → mi h 77 (80 * s + o + j) = te l j
def al (b : Bool) (l : List Nat) : List Nat := if b = true then l.map sml else l
theorem al_len (b : Bool) (l : List Nat) : (al b l).length = l.length := by unfold al; split <;> simp
theorem al_lt {b : Bool} {l : List Nat} (hl : ∀ c ∈ l, c < 128) : ∀ c ∈ al b l, c < 128 := by
  unfold al
  split
  · intro c hc
    obtain ⟨y, hy, e⟩ := List.mem_map.1 hc
    rw [← e]; exact sml_lt (hl y hy)
  · exact hl
theorem al_getD (b : Bool) (l : List Nat) (j : Nat) : (al b l).getD j 0 = if b = true then sml (l.getD j 0) else l.getD j 0 := by
  unfold al
  split
  · rw [List.getD_eq_getElem?_getD, List.getD_eq_getElem?_getD, List.getElem?_map]
    cases l[j]? <;> rfl
  · rfl
theorem rm_at (T : mr_T h) {s o : Nat} {l : List Nat} (R : txR h s o l) {k : Nat} (hk : k < 12) (b : Bool) : mx_G (d + 1) 310 0 [some (.ref 76), some (.int (nI s)), some (.int (nI o)), some (.int (nI k)), some (.int (if b = true then 1 else 0)), none] [] h = some (some (.int (nI ((al b l).getD k 0))), h) := by
  have rb := R.2.2.1
  have o0 : (0 : Int32) ≤ nI o := nI_pos' (by omega)
  have f := rm_f (d := d) T (s := s) (o := o + 1 + k) (by omega)
  have rd : mi h 77 (80 * s + (o + 1 + k)) = nI (l.getD k 0) := by
    have := R.2.2.2 (1 + k) (by omega)
    rw [show 80 * s + (o + 1 + k) = 80 * s + o + (1 + k) by omega, this]
    unfold te
    rw [if_neg (by omega), show 1 + k - 1 = k by omega]
  rw [rd] at f
  have hc := getD_lt R.2.1 k
  rw [al_getD]
  cases b with
  | true => simp only [r310_0, r310_1, r310_4, r310_5, r310_8, r310_9, r310_12, r310_13, r310_14, r310_15, r310_16, r310_17, r310_20, r310_21, r310_22, r310_23, r310_24, r310_25, r310_26, r310_27, r310_30, r310_32, r310_34, r310_37, r310_39, r310_42, r310_45, r310_47, mx_isr_ref, mx_isr_null, mx_wt_nil, mx_wt_1, mx_wt_2, mx_wt_3, Option.bind_some, Option.toList_some, Option.toList_none, List.cons_append, List.nil_append, mx_nl_int, mx_nl_ref, mx_nl_null, mx_nl_none, mx_nb0, mx_nb1, mx_fb0, mx_fb1, mx_cat_int, mx_cat_ref, if_true, if_false, not_true_eq_false, not_false_eq_true, T, o0, nI_1, nI_add, f, rm_small hc, show ¬ (1 : Int32) = 0 by decide]
  | false => simp only [r310_0, r310_1, r310_4, r310_5, r310_8, r310_9, r310_12, r310_13, r310_14, r310_15, r310_16, r310_17, r310_20, r310_21, r310_22, r310_23, r310_24, r310_25, r310_26, r310_27, r310_30, r310_32, r310_34, r310_37, r310_39, r310_42, r310_45, r310_47, mx_isr_ref, mx_isr_null, mx_wt_nil, mx_wt_1, mx_wt_2, mx_wt_3, Option.bind_some, Option.toList_some, Option.toList_none, List.cons_append, List.nil_append, mx_nl_int, mx_nl_ref, mx_nl_null, mx_nl_none, mx_nb0, mx_nb1, mx_fb0, mx_fb1, mx_cat_int, mx_cat_ref, if_true, if_false, not_true_eq_false, not_false_eq_true, T, o0, nI_1, nI_add, f, Bool.false_eq_true]
theorem rm_atT (S : rm_TK h ts) {t : Nat} (h3 : (tA ts t).1 = 3) {k : Nat} (hk : k < (tx ts t).length) (b : Bool) : mx_G (d + 1) 310 0 [some (.ref 76), some (.int (nI t)), some (.int (-1)), some (.int (nI k)), some (.int (if b = true then 1 else 0)), none] [] h = some (some (.int (nI ((al b (tx ts t)).getD k 0))), h) := by
  have T := S.1.1
  have hl := S.1.2.1
  have tl := tA3_lt h3
  obtain ⟨f, fa, f1, f2, f3⟩ := rm_str S.1 h3
  have t1 : (nI t).toNatClampNeg = t := nI_clamp (by omega)
  have t2 : (0 : Int32) ≤ nI t := nI_pos' (by omega)
  have t3 : t < 130 := by omega
  have k1 : (nI (f + k)).toNatClampNeg = f + k := nI_clamp (by omega)
  have k2 : (0 : Int32) ≤ nI (f + k) := nI_pos' (by omega)
  have k3 : f + k < 130 := by omega
  have f4 := f3 k hk
  have hc := getD_lt (tx_lt S.2 h3) k
  rw [al_getD]
  cases b with
  | true => simp only [r310_0, r310_1, r310_4, r310_5, r310_8, r310_9, r310_12, r310_13, r310_14, r310_15, r310_16, r310_17, r310_20, r310_21, r310_22, r310_23, r310_24, r310_25, r310_26, r310_27, r310_30, r310_32, r310_34, r310_37, r310_39, r310_42, r310_45, r310_47, mx_isr_ref, mx_isr_null, mx_wt_nil, mx_wt_1, mx_wt_2, mx_wt_3, Option.bind_some, Option.toList_some, Option.toList_none, List.cons_append, List.nil_append, mx_nl_int, mx_nl_ref, mx_nl_null, mx_nl_none, mx_nb0, mx_nb1, mx_fb0, mx_fb1, mx_cat_int, mx_cat_ref, if_true, if_false, not_true_eq_false, not_false_eq_true, T, mr_ty_77, mr_n_77, mr_isI_77, mr_ty_78, mr_n_78, mr_isI_78, mr_ty_79, mr_n_79, mr_isI_79, mr_ty_80, mr_n_80, mr_isI_80, mr_ty_81, mr_n_81, mr_isI_81, mr_ty_82, mr_n_82, mr_isJ_82, mr_ty_83, mr_n_83, mr_isI_83, mr_ty_84, mr_n_84, mr_isI_84, mr_ty_85, mr_n_85, mr_isI_85, mr_ty_86, mr_n_86, mr_isI_86, mr_ty_87, mr_n_87, mr_isI_87, mr_ty_88, mr_n_88, mr_isI_88, mr_ty_89, mr_n_89, mr_isJ_89, mr_ty_90, mr_n_90, mr_isI_90, mr_ty_91, mr_n_91, mr_isI_91, mr_ty_92, mr_n_92, mr_isI_92, mr_ty_93, mr_n_93, mr_isI_93, mr_ty_94, mr_n_94, mr_isI_94, mr_ty_95, mr_n_95, mr_isI_95, mr_ty_96, mr_n_96, mr_isI_96, mr_ty_97, mr_n_97, mr_isI_97, mr_ty_98, mr_n_98, mr_isI_98, mr_ty_99, mr_n_99, mr_isI_99, mr_ty_100, mr_n_100, mr_isI_100, mr_ty_101, mr_n_101, mr_isI_101, mr_isF_1, mr_isF_3, mr_isF_4, mr_isF_10, mr_isF_12, mr_isF_18, mr_isF_19, mr_isF_21, mr_isF_22, mr_isF_23, mr_isF_26, mr_isF_34, mr_isF_37, mr_isF_38, mr_isF_39, mr_T_up, mr_T_upJ, mr_T_f, show ¬ (0 : Int32) ≤ -1 by decide, t1, t2, t3, f1, nI_add, k1, k2, k3, f4, rm_small hc, show ¬ (1 : Int32) = 0 by decide]
  | false => simp only [r310_0, r310_1, r310_4, r310_5, r310_8, r310_9, r310_12, r310_13, r310_14, r310_15, r310_16, r310_17, r310_20, r310_21, r310_22, r310_23, r310_24, r310_25, r310_26, r310_27, r310_30, r310_32, r310_34, r310_37, r310_39, r310_42, r310_45, r310_47, mx_isr_ref, mx_isr_null, mx_wt_nil, mx_wt_1, mx_wt_2, mx_wt_3, Option.bind_some, Option.toList_some, Option.toList_none, List.cons_append, List.nil_append, mx_nl_int, mx_nl_ref, mx_nl_null, mx_nl_none, mx_nb0, mx_nb1, mx_fb0, mx_fb1, mx_cat_int, mx_cat_ref, if_true, if_false, not_true_eq_false, not_false_eq_true, T, mr_ty_77, mr_n_77, mr_isI_77, mr_ty_78, mr_n_78, mr_isI_78, mr_ty_79, mr_n_79, mr_isI_79, mr_ty_80, mr_n_80, mr_isI_80, mr_ty_81, mr_n_81, mr_isI_81, mr_ty_82, mr_n_82, mr_isJ_82, mr_ty_83, mr_n_83, mr_isI_83, mr_ty_84, mr_n_84, mr_isI_84, mr_ty_85, mr_n_85, mr_isI_85, mr_ty_86, mr_n_86, mr_isI_86, mr_ty_87, mr_n_87, mr_isI_87, mr_ty_88, mr_n_88, mr_isI_88, mr_ty_89, mr_n_89, mr_isJ_89, mr_ty_90, mr_n_90, mr_isI_90, mr_ty_91, mr_n_91, mr_isI_91, mr_ty_92, mr_n_92, mr_isI_92, mr_ty_93, mr_n_93, mr_isI_93, mr_ty_94, mr_n_94, mr_isI_94, mr_ty_95, mr_n_95, mr_isI_95, mr_ty_96, mr_n_96, mr_isI_96, mr_ty_97, mr_n_97, mr_isI_97, mr_ty_98, mr_n_98, mr_isI_98, mr_ty_99, mr_n_99, mr_isI_99, mr_ty_100, mr_n_100, mr_isI_100, mr_ty_101, mr_n_101, mr_isI_101, mr_isF_1, mr_isF_3, mr_isF_4, mr_isF_10, mr_isF_12, mr_isF_18, mr_isF_19, mr_isF_21, mr_isF_22, mr_isF_23, mr_isF_26, mr_isF_34, mr_isF_37, mr_isF_38, mr_isF_39, mr_T_up, mr_T_upJ, mr_T_f, show ¬ (0 : Int32) ≤ -1 by decide, t1, t2, t3, f1, nI_add, k1, k2, k3, f4, Bool.false_eq_true]
/-- of one sign -/
def sgE (x : Int32) (c : Int) : Prop := (x = 0 ↔ c = 0) ∧ (x < 0 ↔ c < 0) ∧ (0 < x ↔ 0 < c) ∧ (0 ≤ x ↔ 0 ≤ c) ∧ (x ≤ 0 ↔ c ≤ 0)
theorem sgE_int {x : Int32} {c : Int} (h1 : x.toInt < 0 ↔ c < 0) (h2 : 0 < x.toInt ↔ 0 < c) : sgE x c := by
  have z : (0 : Int32).toInt = 0 := by decide
  refine ⟨?_, ?_, ?_, ?_, ?_⟩
  · rw [← Int32.toInt_inj, z]; omega
  · rw [Int32.lt_iff_toInt_lt, z]; exact h1
  · rw [Int32.lt_iff_toInt_lt, z]; exact h2
  · rw [Int32.le_iff_toInt_le, z]; omega
  · rw [Int32.le_iff_toInt_le, z]; omega
theorem nI_subI {a b : Nat} (ha : a < 2 ^ 30) (hb : b < 2 ^ 30) : (nI a - nI b).toInt = (a : Int) - b := by
  rw [Int32.toInt_sub, nI_toInt (by omega), nI_toInt (by omega)]
  apply Int.bmod_eq_of_le <;> omega
theorem rm_cmpL (S : rm_TK h ts) {s o t : Nat} {l : List Nat} (R : txR h s o l) (h3 : (tA ts t).1 = 3) (b : Bool) {l8 : Option Value} : ∀ (sa sb : List Nat) (k : Nat) (l8 : Option Value), (al b l).drop k = sa → (al b (tx ts t)).drop k = sb → k ≤ l.length → k ≤ (tx ts t).length →
    ∃ x, mx_G (d + 2) 311 19 [some (.ref 76), some (.int (nI s)), some (.int (nI o)), some (.int (nI t)), some (.int (if b = true then 1 else 0)), some (.int (nI l.length)), some (.int (nI (tx ts t).length)), some (.int (nI k)), l8] [] h = some (some (.int x), h) ∧ sgE x (cmpL sa sb) := by
  have T := S.1.1
  have hl := S.1.2.1
  have tl := tA3_lt h3
  obtain ⟨f, fa, -⟩ := rm_str S.1 h3
  have l12 := R.1
  intro sa
  induction sa with
  | nil =>
    intro sb k l8 hsa hsb hk hk'
    have k1 : l.length ≤ k := by have := List.drop_eq_nil_iff.1 hsa; rw [al_len] at this; exact this
    have e1 : nI l.length ≤ nI k := nI_le (by omega) (by omega)
    have sl : sb.length = (tx ts t).length - k := by rw [← hsb, List.length_drop, al_len]
    refine ⟨nI l.length - nI (tx ts t).length, ?_, ?_⟩
    · simp only [r311_19, r311_21, r311_23, r311_70, r311_72, r311_74, r311_75, mx_isr_ref, mx_isr_null, mx_wt_nil, mx_wt_1, mx_wt_2, mx_wt_3, Option.bind_some, Option.toList_some, Option.toList_none, List.cons_append, List.nil_append, mx_nl_int, mx_nl_ref, mx_nl_null, mx_nl_none, mx_nb0, mx_nb1, mx_fb0, mx_fb1, mx_cat_int, mx_cat_ref, if_true, if_false, not_true_eq_false, not_false_eq_true, e1]
    · apply sgE_int <;> rw [nI_subI (by omega) (by omega)]
      · cases sb with
        | nil => simp only [List.length_nil] at sl; rw [cmpL]; omega
        | cons c sb => simp only [List.length_cons] at sl; rw [cmpL]; omega
      · cases sb with
        | nil => simp only [List.length_nil] at sl; rw [cmpL]; omega
        | cons c sb => simp only [List.length_cons] at sl; rw [cmpL]; omega
  | cons c sa ih =>
    intro sb k l8 hsa hsb hk hk'
    obtain ⟨d1, d2, d3⟩ := drop_cons hsa
    rw [al_len] at d2
    have e1 : ¬ nI l.length ≤ nI k := nI_ge d2 (by omega)
    cases sb with
    | nil =>
      have k1 : (tx ts t).length ≤ k := by have := List.drop_eq_nil_iff.1 hsb; rw [al_len] at this; exact this
      have e2 : nI (tx ts t).length ≤ nI k := nI_le (by omega) (by omega)
      refine ⟨nI l.length - nI (tx ts t).length, ?_, ?_⟩
      · simp only [r311_19, r311_21, r311_23, r311_26, r311_28, r311_30, r311_70, r311_72, r311_74, r311_75, mx_isr_ref, mx_isr_null, mx_wt_nil, mx_wt_1, mx_wt_2, mx_wt_3, Option.bind_some, Option.toList_some, Option.toList_none, List.cons_append, List.nil_append, mx_nl_int, mx_nl_ref, mx_nl_null, mx_nl_none, mx_nb0, mx_nb1, mx_fb0, mx_fb1, mx_cat_int, mx_cat_ref, if_true, if_false, not_true_eq_false, not_false_eq_true, e1, e2]
      · apply sgE_int <;> rw [nI_subI (by omega) (by omega), cmpL] <;> omega
    | cons c' sb =>
      obtain ⟨d1', d2', d3'⟩ := drop_cons hsb
      rw [al_len] at d2'
      have e2 : ¬ nI (tx ts t).length ≤ nI k := nI_ge d2' (by omega)
      have e0 : (al b l).getD k 0 = c := by rw [List.getD_eq_getElem?_getD, d3]; rfl
      have e0' : (al b (tx ts t)).getD k 0 = c' := by rw [List.getD_eq_getElem?_getD, d3']; rfl
      have hc : c < 128 := al_lt R.2.1 c (List.mem_of_getElem? d3)
      have hc' : c' < 128 := al_lt (tx_lt S.2 h3) c' (List.mem_of_getElem? d3')
      have a1 := rm_at (d := d) T R (k := k) (by omega) b
      have a2 := rm_atT (d := d) S h3 d2' b
      rw [e0] at a1
      rw [e0'] at a2
      have sg : (nI c - nI c').toInt = (c : Int) - c' := nI_subI (by omega) (by omega)
      by_cases e : c = c'
      · subst e
        have z : nI c - nI c = 0 := Int32.toInt_inj.1 (by rw [sg]; simp)
        obtain ⟨x, r, g⟩ := ih sb (k + 1) (some (.int 0)) d1 d1' (by omega) (by omega)
        refine ⟨x, ?_, ?_⟩
        · rw [← r, r311_19]
          simp only [r311_21, r311_23, r311_26, r311_28, r311_30, r311_33, r311_34, r311_35, r311_36, r311_38, r311_40, r311_43, r311_44, r311_45, r311_46, r311_48, r311_50, r311_53, r311_54, r311_56, r311_58, r311_61, r311_63, r311_64, r311_67, mx_isr_ref, mx_isr_null, mx_wt_nil, mx_wt_1, mx_wt_2, mx_wt_3, Option.bind_some, Option.toList_some, Option.toList_none, List.cons_append, List.nil_append, mx_nl_int, mx_nl_ref, mx_nl_null, mx_nl_none, mx_nb0, mx_nb1, mx_fb0, mx_fb1, mx_cat_int, mx_cat_ref, if_true, if_false, not_true_eq_false, not_false_eq_true, T, e1, e2, a1, a2, z, nI_1]
        · rw [cmpL, if_neg (by omega), if_neg (by omega)]; exact g
      · have z : ¬ nI c - nI c' = 0 := fun y => by
          have := congrArg Int32.toInt y
          rw [sg] at this
          have : (0 : Int32).toInt = 0 := by decide
          omega
        refine ⟨nI c - nI c', ?_, ?_⟩
        · rw [r311_19]
          simp only [r311_21, r311_23, r311_26, r311_28, r311_30, r311_33, r311_34, r311_35, r311_36, r311_38, r311_40, r311_43, r311_44, r311_45, r311_46, r311_48, r311_50, r311_53, r311_54, r311_56, r311_58, r311_61, r311_63, r311_64, r311_67, mx_isr_ref, mx_isr_null, mx_wt_nil, mx_wt_1, mx_wt_2, mx_wt_3, Option.bind_some, Option.toList_some, Option.toList_none, List.cons_append, List.nil_append, mx_nl_int, mx_nl_ref, mx_nl_null, mx_nl_none, mx_nb0, mx_nb1, mx_fb0, mx_fb1, mx_cat_int, mx_cat_ref, if_true, if_false, not_true_eq_false, not_false_eq_true, T, e1, e2, a1, a2, z]
        · apply sgE_int <;> rw [sg, cmpL]
          · by_cases y : c < c'
            · rw [if_pos y]; omega
            · rw [if_neg y, if_pos (by omega)]; omega
          · by_cases y : c < c'
            · rw [if_pos y]; omega
            · rw [if_neg y, if_pos (by omega)]; omega
theorem rm_cmpText (S : rm_TK h ts) {s o t : Nat} {l : List Nat} (R : txR h s o l) (h3 : (tA ts t).1 = 3) (b : Bool) : ∃ x, mx_G (d + 2) 311 0 [some (.ref 76), some (.int (nI s)), some (.int (nI o)), some (.int (nI t)), some (.int (if b = true then 1 else 0)), none, none, none, none] [] h = some (some (.int x), h) ∧ sgE x (cmpL (al b l) (al b (tx ts t))) := by
  have T := S.1.1
  have hl := S.1.2.1
  have tl := tA3_lt h3
  have rb := R.2.2.1
  obtain ⟨f, fa, f1, f2, -⟩ := rm_str S.1 h3
  have t1 : (nI t).toNatClampNeg = t := nI_clamp (by omega)
  have t2 : (0 : Int32) ≤ nI t := nI_pos' (by omega)
  have t3 : t < 130 := by omega
  have fl := rm_f (d := d + 1) T (s := s) (o := o) (by omega)
  have rd := R.2.2.2 0 (by decide)
  rw [Nat.add_zero] at rd
  rw [rd, show te l 0 = nI l.length from rfl] at fl
  obtain ⟨x, r, g⟩ := rm_cmpL (d := d) S R h3 b (l8 := none) _ _ 0 none rfl rfl (Nat.zero_le _) (Nat.zero_le _)
  refine ⟨x, ?_, g⟩
  rw [← r]
  cases b with
  | true => simp only [r311_0, r311_1, r311_2, r311_3, r311_6, r311_8, r311_9, r311_12, r311_13, r311_14, r311_16, r311_17, mx_isr_ref, mx_isr_null, mx_wt_nil, mx_wt_1, mx_wt_2, mx_wt_3, Option.bind_some, Option.toList_some, Option.toList_none, List.cons_append, List.nil_append, mx_nl_int, mx_nl_ref, mx_nl_null, mx_nl_none, mx_nb0, mx_nb1, mx_fb0, mx_fb1, mx_cat_int, mx_cat_ref, if_true, if_false, not_true_eq_false, not_false_eq_true, T, fl, mr_ty_77, mr_n_77, mr_isI_77, mr_ty_78, mr_n_78, mr_isI_78, mr_ty_79, mr_n_79, mr_isI_79, mr_ty_80, mr_n_80, mr_isI_80, mr_ty_81, mr_n_81, mr_isI_81, mr_ty_82, mr_n_82, mr_isJ_82, mr_ty_83, mr_n_83, mr_isI_83, mr_ty_84, mr_n_84, mr_isI_84, mr_ty_85, mr_n_85, mr_isI_85, mr_ty_86, mr_n_86, mr_isI_86, mr_ty_87, mr_n_87, mr_isI_87, mr_ty_88, mr_n_88, mr_isI_88, mr_ty_89, mr_n_89, mr_isJ_89, mr_ty_90, mr_n_90, mr_isI_90, mr_ty_91, mr_n_91, mr_isI_91, mr_ty_92, mr_n_92, mr_isI_92, mr_ty_93, mr_n_93, mr_isI_93, mr_ty_94, mr_n_94, mr_isI_94, mr_ty_95, mr_n_95, mr_isI_95, mr_ty_96, mr_n_96, mr_isI_96, mr_ty_97, mr_n_97, mr_isI_97, mr_ty_98, mr_n_98, mr_isI_98, mr_ty_99, mr_n_99, mr_isI_99, mr_ty_100, mr_n_100, mr_isI_100, mr_ty_101, mr_n_101, mr_isI_101, mr_isF_1, mr_isF_3, mr_isF_4, mr_isF_10, mr_isF_12, mr_isF_18, mr_isF_19, mr_isF_21, mr_isF_22, mr_isF_23, mr_isF_26, mr_isF_34, mr_isF_37, mr_isF_38, mr_isF_39, mr_T_up, mr_T_upJ, mr_T_f, t1, t2, t3, f2]; rfl
  | false => simp only [r311_0, r311_1, r311_2, r311_3, r311_6, r311_8, r311_9, r311_12, r311_13, r311_14, r311_16, r311_17, mx_isr_ref, mx_isr_null, mx_wt_nil, mx_wt_1, mx_wt_2, mx_wt_3, Option.bind_some, Option.toList_some, Option.toList_none, List.cons_append, List.nil_append, mx_nl_int, mx_nl_ref, mx_nl_null, mx_nl_none, mx_nb0, mx_nb1, mx_fb0, mx_fb1, mx_cat_int, mx_cat_ref, if_true, if_false, not_true_eq_false, not_false_eq_true, T, fl, mr_ty_77, mr_n_77, mr_isI_77, mr_ty_78, mr_n_78, mr_isI_78, mr_ty_79, mr_n_79, mr_isI_79, mr_ty_80, mr_n_80, mr_isI_80, mr_ty_81, mr_n_81, mr_isI_81, mr_ty_82, mr_n_82, mr_isJ_82, mr_ty_83, mr_n_83, mr_isI_83, mr_ty_84, mr_n_84, mr_isI_84, mr_ty_85, mr_n_85, mr_isI_85, mr_ty_86, mr_n_86, mr_isI_86, mr_ty_87, mr_n_87, mr_isI_87, mr_ty_88, mr_n_88, mr_isI_88, mr_ty_89, mr_n_89, mr_isJ_89, mr_ty_90, mr_n_90, mr_isI_90, mr_ty_91, mr_n_91, mr_isI_91, mr_ty_92, mr_n_92, mr_isI_92, mr_ty_93, mr_n_93, mr_isI_93, mr_ty_94, mr_n_94, mr_isI_94, mr_ty_95, mr_n_95, mr_isI_95, mr_ty_96, mr_n_96, mr_isI_96, mr_ty_97, mr_n_97, mr_isI_97, mr_ty_98, mr_n_98, mr_isI_98, mr_ty_99, mr_n_99, mr_isI_99, mr_ty_100, mr_n_100, mr_isI_100, mr_ty_101, mr_n_101, mr_isI_101, mr_isF_1, mr_isF_3, mr_isF_4, mr_isF_10, mr_isF_12, mr_isF_18, mr_isF_19, mr_isF_21, mr_isF_22, mr_isF_23, mr_isF_26, mr_isF_34, mr_isF_37, mr_isF_38, mr_isF_39, mr_T_up, mr_T_upJ, mr_T_f, t1, t2, t3, f2]; rfl
end
