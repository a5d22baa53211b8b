/-! How the class splits its text. -/
def kts : List (List Nat) := [[123, 125, 91, 93, 40, 41, 58, 44, 46, 43, 45, 61, 10], [34, 92, 47], [], w_true, w_false, w_id, w_version, w_name, w_age, w_on, w_mail, w_v, w_p, w_not, w_pr, w_eq, w_ne, w_co, w_sw, w_ew, w_gt, w_ge, w_lt, w_le, w_and, w_or, [34, 58], [44, 34, 109, 97, 105, 108, 34, 58, 91]]
/-- the texts that are there from the start -/
def KS (h : mx_H) : Prop := ∀ k, k < 28 → sB h (7 + 2 * k) (8 + 2 * k) (kts.getD k [])
theorem KS.fr {F : List Nat} {h h' : mx_H} (K : KS h) (f : Fr F h h') (hF : ∀ a ∈ F, 63 ≤ a) : KS h' := by
  intro k hk
  obtain ⟨⟨v2, v3, e1⟩, e2, e3⟩ := K k hk
  exact ⟨⟨v2, v3, f.at e1 (fun z => by have := hF _ z; omega)⟩, f.at e2 (fun z => by have := hF _ z; omega), e3⟩
def tkR (ls : List Nat) (a b : Nat) (q : tk) : Prop := a < b ∧ b ≤ 120 ∧ (q.1 = 1 → sli ls a b = q.2 ∧ ∀ c ∈ q.2, c ≠ 92) ∧ (q.1 = 2 → sli ls a b = q.2) ∧ (q.1 = 3 → a + 2 ≤ b ∧ uesc (sli ls (a + 1) (b - 1)) = q.2)
theorem fw_len : ∀ (w i : Nat) (ls : List Nat), (fw ls i w).length = ls.length := by
  intro w
  induction w with
  | zero => intro i ls; rfl
  | succ w ih => intro i ls; rw [fw, ih, List.length_set]
theorem fw_get : ∀ (w i : Nat) (ls : List Nat) (k : Nat), i + w ≤ ls.length → (fw ls i w).getD k 0 = if i ≤ k ∧ k < i + w then sml (ls.getD k 0) else ls.getD k 0 := by
  intro w
  induction w with
  | zero => intro i ls k _; rw [fw, if_neg (by omega)]
  | succ w ih =>
    intro i ls k hl
    rw [fw, ih _ _ _ (by rw [List.length_set]; omega)]
    by_cases e : k = i
    · subst e
      rw [if_neg (by omega), if_pos (by omega)]
      simp [List.getD_eq_getElem?_getD, show k < ls.length by omega]
    · have : (ls.set i (sml (ls.getD i 0))).getD k 0 = ls.getD k 0 := by
        simp [List.getD_eq_getElem?_getD, List.getElem?_set_ne (Ne.symm e)]
      rw [this]
      by_cases q : i + 1 ≤ k ∧ k < i + 1 + w
      · rw [if_pos q, if_pos (by omega)]
      · rw [if_neg q, if_neg (by omega)]
theorem sli_len (ls : List Nat) {a b : Nat} (h : b ≤ ls.length) : (sli ls a b).length = b - a := by
  unfold sli
  rw [List.length_take, List.length_drop]
  omega
theorem sli_get (ls : List Nat) {a b k : Nat} (hk : k < b - a) : (sli ls a b)[k]? = ls[a + k]? := by
  unfold sli
  rw [List.getElem?_take, if_pos hk, List.getElem?_drop]
theorem gd_get {ls : List Nat} {k : Nat} (h : k < ls.length) : ls[k]? = some (ls.getD k 0) := by
  rw [List.getD_eq_getElem?_getD, List.getElem?_eq_getElem h]
  rfl
theorem sli_eq {ls ls' : List Nat} (hl : ls'.length = ls.length) {a b : Nat} (hb : b ≤ ls.length) (h : ∀ k, a ≤ k → k < b → ls'.getD k 0 = ls.getD k 0) : sli ls' a b = sli ls a b := by
  apply List.ext_getElem?
  intro k
  by_cases hk : k < b - a
  · rw [sli_get _ hk, sli_get _ hk, gd_get (by omega), gd_get (by omega), h _ (by omega) (by omega)]
  · rw [List.getElem?_eq_none (by rw [sli_len _ (by omega)]; omega), List.getElem?_eq_none (by rw [sli_len _ hb]; omega)]
theorem rst_eq {ls ls' : List Nat} (hl : ls'.length = ls.length) {u k : Nat} (hu : u ≤ ls.length) (h : ∀ j, k ≤ j → j < u → ls'.getD j 0 = ls.getD j 0) : rst ls' u k = rst ls u k := by
  have e : ∀ l : List Nat, rst l u k = sli l k u := fun l => by
    unfold rst sli
    rw [List.drop_take]
  rw [e, e, sli_eq hl hu h]
theorem rst_sli (l : List Nat) (u k : Nat) : rst l u k = sli l k u := by
  unfold rst sli
  rw [List.drop_take]
theorem sli_take {l : List Nat} {u k n : Nat} (hn : k + n ≤ u) : (rst l u k).take n = sli l k (k + n) := by
  rw [rst_sli]
  unfold sli
  rw [List.take_take, Nat.add_sub_cancel_left, Nat.min_eq_left (by omega)]
theorem rst_drop (l : List Nat) (u k n : Nat) : (rst l u k).drop n = rst l u (k + n) := by
  unfold rst
  rw [List.drop_drop]
theorem tw_len {α : Type} (f : α → Bool) (l : List α) : (l.takeWhile f).length ≤ l.length := (List.takeWhile_prefix f).length_le
theorem tw_take {α : Type} (f : α → Bool) (l : List α) : l.takeWhile f = l.take (l.takeWhile f).length := List.prefix_iff_eq_take.mp (List.takeWhile_prefix f)
section
variable {d : Nat} {h : mx_H} {ls ks ss es : List Nat} {u t c : Nat}
theorem jc_strL (K : KS h) (B : BF h ls u ks ss es t c) {a : Nat} (hA : ∀ k, a ≤ k → k < u → ls.getD k 0 = 10 ∨ 32 ≤ ls.getD k 0) : ∀ n i l3, u - i ≤ n → i ≤ u → a ≤ i → mx_G (d + 5) 47 4 [some (.ref 64), some (.int (nI a)), some (.int (nI i)), l3] [] h = some (some (.int (match lx_str (rst ls u i) with | some q => nI (u - q.2.length) | none => nI a)), h) := by
  obtain ⟨t4, l4, e0, e1, e2, e3, e4, e5, e6, e7, t5, l5, x5, t6, l6, x6, t7, l7, x7, t8, l8, x8⟩ := BF_f B
  have hu := B.2.2.2.2.2.2.2.2.2.1
  have hl := B.2.2.2.2.2.1
  have K1 := K 1 (by decide)
  have idx := fun (c : Nat) (hc : c < 128) => js_indexOf (d := d) K1 hc
  intro n
  induction n with
  | zero =>
    intro i l3 hi hiu hai
    have : i = u := by omega
    subst this
    rw [rst_nil (Nat.le_refl _)]
    simp only [g47_4, g47_5, g47_6, g47_9, g47_76, g47_77, mx_isr_ref, mx_isr_null, mx_wt_nil, mx_wt_1, mx_wt_2, mx_wt_3, Option.bind_some, Option.toList_some, Option.toList_none, List.cons_append, List.nil_append, mx_nl_int, mx_nl_ref, mx_nl_null, mx_nl_none, mx_nb0, mx_nb1, mx_fb0, mx_fb1, mx_cat_int, mx_cat_ref, if_true, if_false, not_true_eq_false, not_false_eq_true, mx_wt_4, mx_w4_0, mx_w9_0, mx_w9_1, mx_kn_int, mx_kn_ref, mx_kn_null, Nat.reduceLT, ofn, n10, t4, l4, e5, show nI i ≤ nI i from nI_le (Nat.le_refl _) (by omega)]
    rfl
  | succ n ih =>
    intro i l3 hi hiu hai
    by_cases hiu2 : i = u
    · subst hiu2
      rw [rst_nil (Nat.le_refl _)]
      simp only [g47_4, g47_5, g47_6, g47_9, g47_76, g47_77, mx_isr_ref, mx_isr_null, mx_wt_nil, mx_wt_1, mx_wt_2, mx_wt_3, Option.bind_some, Option.toList_some, Option.toList_none, List.cons_append, List.nil_append, mx_nl_int, mx_nl_ref, mx_nl_null, mx_nl_none, mx_nb0, mx_nb1, mx_fb0, mx_fb1, mx_cat_int, mx_cat_ref, if_true, if_false, not_true_eq_false, not_false_eq_true, mx_wt_4, mx_w4_0, mx_w9_0, mx_w9_1, mx_kn_int, mx_kn_ref, mx_kn_null, Nat.reduceLT, ofn, n10, t4, l4, e5, show nI i ≤ nI i from nI_le (Nat.le_refl _) (by omega)]
      rfl
    · have hlt : i < u := by omega
      have hc := gd_lt B.2.2.2.2.2.2.2.2.2.2 i
      have hi2 : ¬ nI u ≤ nI i := nI_ge hlt (by omega)
      have pre : mx_G (d + 5) 47 4 [some (.ref 64), some (.int (nI a)), some (.int (nI i)), l3] [] h = mx_G (d + 5) 47 19 [some (.ref 64), some (.int (nI a)), some (.int (nI i)), some (.int (nI (ls.getD i 0)))] [] h := by
        simp only [g47_4, g47_5, g47_6, g47_9, g47_12, g47_13, g47_16, g47_17, g47_18, mx_isr_ref, mx_isr_null, mx_wt_nil, mx_wt_1, mx_wt_2, mx_wt_3, Option.bind_some, Option.toList_some, Option.toList_none, List.cons_append, List.nil_append, mx_nl_int, mx_nl_ref, mx_nl_null, mx_nl_none, mx_nb0, mx_nb1, mx_fb0, mx_fb1, mx_cat_int, mx_cat_ref, if_true, if_false, not_true_eq_false, not_false_eq_true, mx_wt_4, mx_w4_0, mx_w9_0, mx_w9_1, mx_kn_int, mx_kn_ref, mx_kn_null, Nat.reduceLT, ofn, n10, t4, l4, e5, e0, hi2, t5, l5, nI_pos' (show i < 2 ^ 31 by omega), nI_clamp (show i < 2 ^ 31 by omega), show i < 120 by omega, x5 i (by omega)]
      rw [pre, rst_cons hlt (by omega)]
      by_cases h34 : ls.getD i 0 = 34
      · have q : nI (ls.getD i 0) = 34 := by rw [h34]; rfl
        simp only [g47_19, g47_20, g47_22, g47_25, g47_26, g47_27, g47_28, mx_isr_ref, mx_isr_null, mx_wt_nil, mx_wt_1, mx_wt_2, mx_wt_3, Option.bind_some, Option.toList_some, Option.toList_none, List.cons_append, List.nil_append, mx_nl_int, mx_nl_ref, mx_nl_null, mx_nl_none, mx_nb0, mx_nb1, mx_fb0, mx_fb1, mx_cat_int, mx_cat_ref, if_true, if_false, not_true_eq_false, not_false_eq_true, mx_wt_4, mx_w4_0, mx_w9_0, mx_w9_1, mx_kn_int, mx_kn_ref, mx_kn_null, Nat.reduceLT, ofn, n10, q, nI_1]
        rw [h34, lx_str_34]
        simp only [rst_len (show u ≤ ls.length by omega)]
        rw [show u - (u - (i + 1)) = i + 1 by omega]
      · have q : ¬ nI (ls.getD i 0) = 34 := fun z => h34 ((nI_eq (b := 34) (by omega) (by decide)).mp z)
        by_cases h10 : ls.getD i 0 = 10
        · have q2 : nI (ls.getD i 0) = 10 := by rw [h10]; rfl
          simp only [g47_19, g47_20, g47_22, g47_25, g47_26, g47_27, g47_28, g47_29, g47_30, g47_32, g47_35, g47_36, mx_isr_ref, mx_isr_null, mx_wt_nil, mx_wt_1, mx_wt_2, mx_wt_3, Option.bind_some, Option.toList_some, Option.toList_none, List.cons_append, List.nil_append, mx_nl_int, mx_nl_ref, mx_nl_null, mx_nl_none, mx_nb0, mx_nb1, mx_fb0, mx_fb1, mx_cat_int, mx_cat_ref, if_true, if_false, not_true_eq_false, not_false_eq_true, mx_wt_4, mx_w4_0, mx_w9_0, mx_w9_1, mx_kn_int, mx_kn_ref, mx_kn_null, Nat.reduceLT, ofn, n10, q, q2, show ¬ (10 : Int32) = 34 by decide]
          rw [h10, lx_str_lo (by decide)]
        · have q2 : ¬ nI (ls.getD i 0) = 10 := fun z => h10 ((nI_eq (b := 10) (by omega) (by decide)).mp z)
          by_cases h92 : ls.getD i 0 = 92
          · have q3 : nI (ls.getD i 0) = 92 := by rw [h92]; rfl
            by_cases hi1 : u ≤ i + 1
            · simp only [g47_19, g47_20, g47_22, g47_25, g47_26, g47_27, g47_28, g47_29, g47_30, g47_32, g47_35, g47_36, g47_37, g47_38, g47_40, g47_43, g47_46, g47_47, g47_48, g47_51, g47_54, g47_56, g47_57, g47_60, g47_61, g47_62, g47_65, g47_68, g47_69, mx_isr_ref, mx_isr_null, mx_wt_nil, mx_wt_1, mx_wt_2, mx_wt_3, Option.bind_some, Option.toList_some, Option.toList_none, List.cons_append, List.nil_append, mx_nl_int, mx_nl_ref, mx_nl_null, mx_nl_none, mx_nb0, mx_nb1, mx_fb0, mx_fb1, mx_cat_int, mx_cat_ref, if_true, if_false, not_true_eq_false, not_false_eq_true, mx_wt_4, mx_w4_0, mx_w9_0, mx_w9_1, mx_kn_int, mx_kn_ref, mx_kn_null, Nat.reduceLT, ofn, n10, q, q2, q3, show ¬ (92 : Int32) = 34 by decide, show ¬ (92 : Int32) = 10 by decide, nI_1, t4, l4, e5, nI_leI (show u < 2 ^ 31 by omega) (show i + 1 < 2 ^ 31 by omega), hi1]
              rw [h92, rst_nil hi1]
              rfl
            · have hc1 := gd_lt B.2.2.2.2.2.2.2.2.2.2 (i + 1)
              have hE : (kts.getD 1 []).contains (ls.getD (i + 1) 0) = isEsc (ls.getD (i + 1) 0) := by
                have key : ∀ c, c < 128 → (kts.getD 1 []).contains c = isEsc c := by decide +kernel
                exact key _ hc1
              have I := idx _ hc1
              rw [hE] at I
              rw [rst_cons (k := i + 1) (by omega) (by omega), h92, lx_str_92]
              by_cases hes : isEsc (ls.getD (i + 1) 0) = true
              · rw [if_pos hes] at I
                have hb : (kts.getD 1 []).idxOf (ls.getD (i + 1) 0) < 2 ^ 31 := by
                  have := List.idxOf_le_length (a := ls.getD (i + 1) 0) (l := kts.getD 1 [])
                  have e3 : (kts.getD 1 []).length = 3 := by decide
                  omega
                simp only [g47_19, g47_20, g47_22, g47_25, g47_26, g47_27, g47_28, g47_29, g47_30, g47_32, g47_35, g47_36, g47_37, g47_38, g47_40, g47_43, g47_46, g47_47, g47_48, g47_51, g47_54, g47_56, g47_57, g47_60, g47_61, g47_62, g47_65, g47_68, g47_69, g47_70, g47_73, mx_isr_ref, mx_isr_null, mx_wt_nil, mx_wt_1, mx_wt_2, mx_wt_3, Option.bind_some, Option.toList_some, Option.toList_none, List.cons_append, List.nil_append, mx_nl_int, mx_nl_ref, mx_nl_null, mx_nl_none, mx_nb0, mx_nb1, mx_fb0, mx_fb1, mx_cat_int, mx_cat_ref, if_true, if_false, not_true_eq_false, not_false_eq_true, mx_wt_4, mx_w4_0, mx_w9_0, mx_w9_1, mx_kn_int, mx_kn_ref, mx_kn_null, Nat.reduceLT, ofn, n10, q, q2, q3, show ¬ (92 : Int32) = 34 by decide, show ¬ (92 : Int32) = 10 by decide, nI_1, t4, l4, e5, e0, nI_leI (show u < 2 ^ 31 by omega) (show i + 1 < 2 ^ 31 by omega), hi1, t5, l5, nI_pos' (show i + 1 < 2 ^ 31 by omega), nI_clamp (show i + 1 < 2 ^ 31 by omega), show i + 1 < 120 by omega, x5 (i + 1) (by omega), (sB_f K1).1, I, nI_pos' hb]
                rw [ih (i + 1 + 1) _ (by omega) (by omega) (by omega), if_pos hes]
                cases lx_str (rst ls u (i + 1 + 1)) <;> rfl
              · rw [if_neg hes] at I
                simp only [g47_19, g47_20, g47_22, g47_25, g47_26, g47_27, g47_28, g47_29, g47_30, g47_32, g47_35, g47_36, g47_37, g47_38, g47_40, g47_43, g47_46, g47_47, g47_48, g47_51, g47_54, g47_56, g47_57, g47_60, g47_61, g47_62, g47_65, g47_68, g47_69, mx_isr_ref, mx_isr_null, mx_wt_nil, mx_wt_1, mx_wt_2, mx_wt_3, Option.bind_some, Option.toList_some, Option.toList_none, List.cons_append, List.nil_append, mx_nl_int, mx_nl_ref, mx_nl_null, mx_nl_none, mx_nb0, mx_nb1, mx_fb0, mx_fb1, mx_cat_int, mx_cat_ref, if_true, if_false, not_true_eq_false, not_false_eq_true, mx_wt_4, mx_w4_0, mx_w9_0, mx_w9_1, mx_kn_int, mx_kn_ref, mx_kn_null, Nat.reduceLT, ofn, n10, q, q2, q3, show ¬ (92 : Int32) = 34 by decide, show ¬ (92 : Int32) = 10 by decide, nI_1, t4, l4, e5, e0, nI_leI (show u < 2 ^ 31 by omega) (show i + 1 < 2 ^ 31 by omega), hi1, t5, l5, nI_pos' (show i + 1 < 2 ^ 31 by omega), nI_clamp (show i + 1 < 2 ^ 31 by omega), show i + 1 < 120 by omega, x5 (i + 1) (by omega), (sB_f K1).1, I, show ¬ (0 : Int32) ≤ -1 by decide, show nI 92 = 92 from rfl]
                rw [if_neg hes]
          · have q3 : ¬ nI (ls.getD i 0) = 92 := fun z => h92 ((nI_eq (b := 92) (by omega) (by decide)).mp z)
            have h32 : ¬ ls.getD i 0 < 32 := by have := hA i hai hlt; omega
            simp only [g47_19, g47_20, g47_22, g47_25, g47_26, g47_27, g47_28, g47_29, g47_30, g47_32, g47_35, g47_36, g47_37, g47_38, g47_40, g47_70, g47_73, mx_isr_ref, mx_isr_null, mx_wt_nil, mx_wt_1, mx_wt_2, mx_wt_3, Option.bind_some, Option.toList_some, Option.toList_none, List.cons_append, List.nil_append, mx_nl_int, mx_nl_ref, mx_nl_null, mx_nl_none, mx_nb0, mx_nb1, mx_fb0, mx_fb1, mx_cat_int, mx_cat_ref, if_true, if_false, not_true_eq_false, not_false_eq_true, mx_wt_4, mx_w4_0, mx_w9_0, mx_w9_1, mx_kn_int, mx_kn_ref, mx_kn_null, Nat.reduceLT, ofn, n10, q, q2, q3, nI_1]
            rw [ih (i + 1) _ (by omega) (by omega) (by omega), lx_str_c h32 h34 h92]
            cases lx_str (rst ls u (i + 1)) <;> rfl
theorem jc_str (K : KS h) (B : BF h ls u ks ss es t c) {a : Nat} (hA : ∀ k, a ≤ k → k < u → ls.getD k 0 = 10 ∨ 32 ≤ ls.getD k 0) (ha : a < u) : mx_G (d + 5) 47 0 [some (.ref 64), some (.int (nI a)), none, none] [] h = some (some (.int (match lx_str (rst ls u (a + 1)) with | some q => nI (u - q.2.length) | none => nI a)), h) := by
  have i := jc_strL (d := d) K B hA (u - (a + 1)) (a + 1) none (Nat.le_refl _) (by omega) (by omega)
  simp only [g47_0, g47_1, g47_2, g47_3, mx_isr_ref, mx_isr_null, mx_wt_nil, mx_wt_1, mx_wt_2, mx_wt_3, Option.bind_some, Option.toList_some, Option.toList_none, List.cons_append, List.nil_append, mx_nl_int, mx_nl_ref, mx_nl_null, mx_nl_none, mx_nb0, mx_nb1, mx_fb0, mx_fb1, mx_cat_int, mx_cat_ref, if_true, if_false, not_true_eq_false, not_false_eq_true, mx_wt_4, mx_w4_0, mx_w9_0, mx_w9_1, mx_kn_int, mx_kn_ref, mx_kn_null, Nat.reduceLT, ofn, n10, nI_1]
  exact i
theorem jc_tail (B : BF h ls u ks ss es t c) (ht : t < 121) {a kd e : Nat} {v2 : Option Value} : mx_G d 19 119 [some (.ref 64), some (.int (nI a)), v2, some (.int (nI kd)), some (.int (nI e))] [] h = some (none, mx_up (mx_up (mx_up h 66 t (.int (nI kd))) 67 t (.int (nI a))) 68 t (.int (nI e))) ∧
    BF (mx_up (mx_up (mx_up h 66 t (.int (nI kd))) 67 t (.int (nI a))) 68 t (.int (nI e))) ls u (ks.set t kd) (ss.set t a) (es.set t e) t c ∧ Fr [65, 66, 67, 68] h (mx_up (mx_up (mx_up h 66 t (.int (nI kd))) 67 t (.int (nI a))) 68 t (.int (nI e))) ∧ mw (mx_up (mx_up (mx_up h 66 t (.int (nI kd))) 67 t (.int (nI a))) 68 t (.int (nI e))) = mw h := by
  obtain ⟨t4, l4, e0, e1, e2, e3, e4, e5, e6, e7, t5, l5, x5, t6, l6, x6, t7, l7, x7, t8, l8, x8⟩ := BF_f B
  obtain ⟨b4, b5, b6, b7, b8, l5, l6', l7', l8', hu, ha⟩ := B
  refine ⟨?_, ⟨?_, ?_, ?_, ?_, ?_, l5, by rw [List.length_set]; exact l6', by rw [List.length_set]; exact l7', by rw [List.length_set]; exact l8', hu, ha⟩, ?_, by rw [mw_up, mw_up, mw_up]⟩
  · have n1 : ∀ k v, mx_el (mx_up h 66 t v) 64 k = mx_el h 64 k := fun k v => by rw [mx_el_up, if_neg (fun z => absurd z.1 (by decide))]
    have n2 : ∀ k v w, mx_el (mx_up (mx_up h 66 t v) 67 t w) 64 k = mx_el h 64 k := fun k v w => by rw [mx_el_up, if_neg (fun z => absurd z.1 (by decide)), n1]
    simp only [g19_119, g19_120, g19_123, g19_124, g19_127, g19_128, g19_129, g19_130, g19_133, g19_134, g19_137, g19_138, g19_139, g19_140, g19_143, g19_144, g19_147, g19_149, g19_150, mx_isr_ref, mx_isr_null, mx_wt_nil, mx_wt_1, mx_wt_2, mx_wt_3, Option.bind_some, Option.toList_some, Option.toList_none, List.cons_append, List.nil_append, mx_nl_int, mx_nl_ref, mx_nl_null, mx_nl_none, mx_nb0, mx_nb1, mx_fb0, mx_fb1, mx_cat_int, mx_cat_ref, if_true, if_false, not_true_eq_false, not_false_eq_true, mx_wt_4, mx_w4_0, mx_w9_0, mx_w9_1, mx_kn_int, mx_kn_ref, mx_kn_null, Nat.reduceLT, ofn, n10, t4, l4, e1, e2, e3, e6, t6, l6, t7, l7, t8, l8, mx_tag_up, mx_ln_up, n1, n2, nI_pos' (show t < 2 ^ 31 by omega), nI_clamp (show t < 2 ^ 31 by omega), ht, show mt_nO ≤ 66 by decide, show mt_nO ≤ 67 by decide, show mt_nO ≤ 68 by decide]
  · rw [c_upn (by decide), c_upn (by decide), c_upn (by decide)]; exact b4
  · rw [c_upn (by decide), c_upn (by decide), c_upn (by decide)]; exact b5
  · rw [c_upn (by decide), c_upn (by decide), c_up b6, bs_set]
  · rw [c_upn (by decide), c_up (by rw [c_upn (by decide)]; exact b7), bs_set]
  · rw [c_up (by rw [c_upn (by decide), c_upn (by decide)]; exact b8), bs_set]
  · exact (((Fr.up (F := [65, 66, 67, 68]) (by simp)).trans (Fr.up (F := [65, 66, 67, 68]) (by simp)) (fun a ha => Or.inl ha)).trans (Fr.up (F := [65, 66, 67, 68]) (by simp)) (fun a ha => Or.inl ha))
theorem jc_pre (K : KS h) (B : BF h ls u ks ss es t c) {a : Nat} (ha : a < u) : mx_G (d + 6) 19 0 [some (.ref 64), some (.int (nI a)), none, none, none] [] h = mx_G (d + 6) 19 27 [some (.ref 64), some (.int (nI a)), some (.int (nI (ls.getD a 0))), some (.int (nI (if isSig (ls.getD a 0) = true then ls.getD a 0 else 4))), some (.int (nI (a + 1)))] [] h := by
  obtain ⟨t4, l4, e0, e1, e2, e3, e4, e5, e6, e7, t5, l5, x5, t6, l6, x6, t7, l7, x7, t8, l8, x8⟩ := BF_f B
  have hu := B.2.2.2.2.2.2.2.2.2.1
  have hc := gd_lt B.2.2.2.2.2.2.2.2.2.2 a
  have K0 := K 0 (by decide)
  have I := js_indexOf (d := d + 1) K0 hc
  have hE : (kts.getD 0 []).contains (ls.getD a 0) = isSig (ls.getD a 0) := rfl
  rw [hE] at I
  by_cases hs : isSig (ls.getD a 0) = true
  · rw [if_pos hs] at I ⊢
    have hb : (kts.getD 0 []).idxOf (ls.getD a 0) < 2 ^ 31 := by
      have := List.idxOf_le_length (a := ls.getD a 0) (l := kts.getD 0 [])
      have e3 : (kts.getD 0 []).length = 13 := by decide
      omega
    simp only [g19_0, g19_1, g19_4, g19_5, g19_6, g19_7, g19_9, g19_10, g19_13, g19_16, g19_17, g19_20, g19_21, g19_22, g19_23, g19_24, g19_25, mx_isr_ref, mx_isr_null, mx_wt_nil, mx_wt_1, mx_wt_2, mx_wt_3, Option.bind_some, Option.toList_some, Option.toList_none, List.cons_append, List.nil_append, mx_nl_int, mx_nl_ref, mx_nl_null, mx_nl_none, mx_nb0, mx_nb1, mx_fb0, mx_fb1, mx_cat_int, mx_cat_ref, if_true, if_false, not_true_eq_false, not_false_eq_true, mx_wt_4, mx_w4_0, mx_w9_0, mx_w9_1, mx_kn_int, mx_kn_ref, mx_kn_null, Nat.reduceLT, ofn, n10, t4, l4, e0, t5, l5, nI_pos' (show a < 2 ^ 31 by omega), nI_clamp (show a < 2 ^ 31 by omega), show a < 120 by omega, x5 a (by omega), (sB_f K0).1, I, nI_pos hb, nI_1]
  · rw [if_neg hs] at I ⊢
    simp only [g19_0, g19_1, g19_4, g19_5, g19_6, g19_7, g19_9, g19_10, g19_13, g19_16, g19_17, g19_20, g19_21, g19_22, g19_23, g19_24, g19_25, mx_isr_ref, mx_isr_null, mx_wt_nil, mx_wt_1, mx_wt_2, mx_wt_3, Option.bind_some, Option.toList_some, Option.toList_none, List.cons_append, List.nil_append, mx_nl_int, mx_nl_ref, mx_nl_null, mx_nl_none, mx_nb0, mx_nb1, mx_fb0, mx_fb1, mx_cat_int, mx_cat_ref, if_true, if_false, not_true_eq_false, not_false_eq_true, mx_wt_4, mx_w4_0, mx_w9_0, mx_w9_1, mx_kn_int, mx_kn_ref, mx_kn_null, Nat.reduceLT, ofn, n10, t4, l4, e0, t5, l5, nI_pos' (show a < 2 ^ 31 by omega), nI_clamp (show a < 2 ^ 31 by omega), show a < 120 by omega, x5 a (by omega), (sB_f K0).1, I, show (-1 : Int32) < 0 by decide, nI_1]
    rfl
end
