section
variable {d : Nat} {h : mx_H} {ts : List tk}
theorem rm_isF (S : rm_TS h ts) {t : Nat} (ht : t < 2 ^ 30) :
    mx_G d 249 0 [some (.ref 76), some (.int (nI t)), some (.int 123)] [] h = some (some (.int (if tI ts t 123 = true then 1 else 0)), h) ∧
    mx_G d 249 0 [some (.ref 76), some (.int (nI t)), some (.int 125)] [] h = some (some (.int (if tI ts t 125 = true then 1 else 0)), h) ∧
    mx_G d 249 0 [some (.ref 76), some (.int (nI t)), some (.int 91)] [] h = some (some (.int (if tI ts t 91 = true then 1 else 0)), h) ∧
    mx_G d 249 0 [some (.ref 76), some (.int (nI t)), some (.int 93)] [] h = some (some (.int (if tI ts t 93 = true then 1 else 0)), h) ∧
    mx_G d 249 0 [some (.ref 76), some (.int (nI t)), some (.int 44)] [] h = some (some (.int (if tI ts t 44 = true then 1 else 0)), h) ∧
    mx_G d 249 0 [some (.ref 76), some (.int (nI t)), some (.int 58)] [] h = some (some (.int (if tI ts t 58 = true then 1 else 0)), h) ∧
    mx_G d 249 0 [some (.ref 76), some (.int (nI t)), some (.int 40)] [] h = some (some (.int (if tI ts t 40 = true then 1 else 0)), h) ∧
    mx_G d 249 0 [some (.ref 76), some (.int (nI t)), some (.int 41)] [] h = some (some (.int (if tI ts t 41 = true then 1 else 0)), h) ∧
    mx_G d 249 0 [some (.ref 76), some (.int (nI t)), some (.int 46)] [] h = some (some (.int (if tI ts t 46 = true then 1 else 0)), h) ∧
    mx_G d 249 0 [some (.ref 76), some (.int (nI t)), some (.int 43)] [] h = some (some (.int (if tI ts t 43 = true then 1 else 0)), h) ∧
    mx_G d 249 0 [some (.ref 76), some (.int (nI t)), some (.int 45)] [] h = some (some (.int (if tI ts t 45 = true then 1 else 0)), h) ∧
    mx_G d 249 0 [some (.ref 76), some (.int (nI t)), some (.int 61)] [] h = some (some (.int (if tI ts t 61 = true then 1 else 0)), h) ∧
    mx_G d 249 0 [some (.ref 76), some (.int (nI t)), some (.int 10)] [] h = some (some (.int (if tI ts t 10 = true then 1 else 0)), h) :=
  ⟨rm_is S ht (c := 123) (by decide) (by decide), rm_is S ht (c := 125) (by decide) (by decide), rm_is S ht (c := 91) (by decide) (by decide), rm_is S ht (c := 93) (by decide) (by decide), rm_is S ht (c := 44) (by decide) (by decide), rm_is S ht (c := 58) (by decide) (by decide), rm_is S ht (c := 40) (by decide) (by decide), rm_is S ht (c := 41) (by decide) (by decide), rm_is S ht (c := 46) (by decide) (by decide), rm_is S ht (c := 43) (by decide) (by decide), rm_is S ht (c := 45) (by decide) (by decide), rm_is S ht (c := 61) (by decide) (by decide), rm_is S ht (c := 10) (by decide) (by decide)⟩
theorem nI_le0 (D : Nat) (hD : D < 2 ^ 31) : (nI D ≤ 0) = (D = 0) := by
  apply propext
  constructor
  · intro z
    rcases Nat.eq_zero_or_pos D with e | e
    · exact e
    · exact absurd z (nI_ge (a := 0) (b := D) e (by omega))
  · intro z
    subst z
    exact nI_le (a := 0) (b := 0) (by omega) (by omega)
theorem nI_p0 (D : Nat) : nI D + 0 = nI D := nI_add D 0
theorem nI_m1 (D : Nat) (h : D < 2 ^ 31) : nI (D + 1) + (-1) = nI D := by
  rw [← nI_1, Int32.add_assoc]
  exact nI_add D 0
theorem rm_over (S : rm_TS h ts) {n t e : Nat} (hn : n ≤ 3) (hE : pE ts n t = some e) : mx_G (d + 1) 258 0 [some (.ref 76), some (.int (nI t)), none, none, none] [] h = some (some (.int (nI e)), h) := by
  have T := S.1
  have bd := pE_bd _ _ _ hE
  have hl := S.2.1
  have key := ov_E (ts := ts) (B := 10) (X := fun k D on => mx_G (d + 1) 258 7 [some (.ref 76), some (.int (nI t)), some (.int (nI D)), some (.int (nI k)), some (.int (if on = true then 1 else 0))] [] h) ?_ ?_ ?_ n t e 0 (by omega) hE
  · have st : mx_G (d + 1) 258 0 [some (.ref 76), some (.int (nI t)), none, none, none] [] h = mx_G (d + 1) 258 7 [some (.ref 76), some (.int (nI t)), some (.int 0), some (.int (nI t)), some (.int 1)] [] h := by simp only [r258_0, r258_1, r258_2, r258_3, r258_4, r258_5, mx_isr_ref, mx_isr_null, mx_wt_nil, mx_wt_1, mx_wt_2, mx_wt_3, Option.bind_some, Option.toList_some, Option.toList_none, List.cons_append, List.nil_append, mx_nl_int, mx_nl_ref, mx_nl_null, mx_nl_none, mx_nb0, mx_nb1, mx_fb0, mx_fb1, mx_cat_int, mx_cat_ref, if_true, if_false, not_true_eq_false, not_false_eq_true]
    have en : mx_G (d + 1) 258 7 [some (.ref 76), some (.int (nI t)), some (.int 0), some (.int (nI e)), some (.int 0)] [] h = some (some (.int (nI e)), h) := by simp only [r258_7, r258_9, r258_81, r258_82, mx_isr_ref, mx_isr_null, mx_wt_nil, mx_wt_1, mx_wt_2, mx_wt_3, Option.bind_some, Option.toList_some, Option.toList_none, List.cons_append, List.nil_append, mx_nl_int, mx_nl_ref, mx_nl_null, mx_nl_none, mx_nb0, mx_nb1, mx_fb0, mx_fb1, mx_cat_int, mx_cat_ref, if_true, if_false, not_true_eq_false, not_false_eq_true]
    exact st.trans ((show _ = _ from key).trans en)
  · intro k D hk hD a1 a2 a3 a4
    rw [r258_7]
    have i := rm_isF (d := d) S (t := k) (by omega)
    have b1 := tI_ne.2 a1
    have b2 := tI_ne.2 a2
    have b3 := tI_ne.2 a3
    have b4 := tI_ne.2 a4
    by_cases hD0 : D = 0
    · simp only [r258_9, r258_12, r258_13, r258_14, r258_15, r258_17, r258_20, r258_23, r258_24, r258_25, r258_27, r258_30, r258_33, r258_34, r258_37, r258_38, r258_39, r258_41, r258_44, r258_47, r258_48, r258_49, r258_51, r258_54, r258_57, r258_58, r258_61, r258_62, r258_63, r258_64, r258_67, r258_68, r258_71, r258_72, r258_75, r258_76, r258_78, mx_isr_ref, mx_isr_null, mx_wt_nil, mx_wt_1, mx_wt_2, mx_wt_3, Option.bind_some, Option.toList_some, Option.toList_none, List.cons_append, List.nil_append, mx_nl_int, mx_nl_ref, mx_nl_null, mx_nl_none, mx_nb0, mx_nb1, mx_fb0, mx_fb1, mx_cat_int, mx_cat_ref, if_true, if_false, not_true_eq_false, not_false_eq_true, T, i, b1, b2, b3, b4, Bool.false_eq_true, show ¬ (1 : Int32) = 0 by decide, nI_p0, nI_1, nI_le0 D (by omega), eq_true hD0, decide_false, show ¬ 0 < D by omega]
    · simp only [r258_9, r258_12, r258_13, r258_14, r258_15, r258_17, r258_20, r258_23, r258_24, r258_25, r258_27, r258_30, r258_33, r258_34, r258_37, r258_38, r258_39, r258_41, r258_44, r258_47, r258_48, r258_49, r258_51, r258_54, r258_57, r258_58, r258_61, r258_62, r258_63, r258_64, r258_67, r258_68, r258_71, r258_72, r258_75, r258_76, r258_78, mx_isr_ref, mx_isr_null, mx_wt_nil, mx_wt_1, mx_wt_2, mx_wt_3, Option.bind_some, Option.toList_some, Option.toList_none, List.cons_append, List.nil_append, mx_nl_int, mx_nl_ref, mx_nl_null, mx_nl_none, mx_nb0, mx_nb1, mx_fb0, mx_fb1, mx_cat_int, mx_cat_ref, if_true, if_false, not_true_eq_false, not_false_eq_true, T, i, b1, b2, b3, b4, Bool.false_eq_true, show ¬ (1 : Int32) = 0 by decide, nI_p0, nI_1, nI_le0 D (by omega), hD0, decide_true, show 0 < D by omega]
  · intro k D hD a
    rw [r258_7]
    have kl : k < ts.length := by rcases a with a | a <;> exact tI_lt (by decide) a
    have i := rm_isF (d := d) S (t := k) (by omega)
    have e0 : ¬ (D + 1 = 0) := by omega
    rcases a with a | a
    · simp only [r258_9, r258_12, r258_13, r258_14, r258_15, r258_17, r258_20, r258_23, r258_24, r258_25, r258_27, r258_30, r258_33, r258_34, r258_37, r258_38, r258_39, r258_41, r258_44, r258_47, r258_48, r258_49, r258_51, r258_54, r258_57, r258_58, r258_61, r258_62, r258_63, r258_64, r258_67, r258_68, r258_71, r258_72, r258_75, r258_76, r258_78, mx_isr_ref, mx_isr_null, mx_wt_nil, mx_wt_1, mx_wt_2, mx_wt_3, Option.bind_some, Option.toList_some, Option.toList_none, List.cons_append, List.nil_append, mx_nl_int, mx_nl_ref, mx_nl_null, mx_nl_none, mx_nb0, mx_nb1, mx_fb0, mx_fb1, mx_cat_int, mx_cat_ref, if_true, if_false, not_true_eq_false, not_false_eq_true, T, i, a, Bool.false_eq_true, show ¬ (1 : Int32) = 0 by decide, nI_1, nI_le0 (D + 1) (by omega), e0]
    · have b : tI ts k 123 = false := by rw [tI_ne]; rw [tI_eq] at a; omega
      simp only [r258_9, r258_12, r258_13, r258_14, r258_15, r258_17, r258_20, r258_23, r258_24, r258_25, r258_27, r258_30, r258_33, r258_34, r258_37, r258_38, r258_39, r258_41, r258_44, r258_47, r258_48, r258_49, r258_51, r258_54, r258_57, r258_58, r258_61, r258_62, r258_63, r258_64, r258_67, r258_68, r258_71, r258_72, r258_75, r258_76, r258_78, mx_isr_ref, mx_isr_null, mx_wt_nil, mx_wt_1, mx_wt_2, mx_wt_3, Option.bind_some, Option.toList_some, Option.toList_none, List.cons_append, List.nil_append, mx_nl_int, mx_nl_ref, mx_nl_null, mx_nl_none, mx_nb0, mx_nb1, mx_fb0, mx_fb1, mx_cat_int, mx_cat_ref, if_true, if_false, not_true_eq_false, not_false_eq_true, T, i, a, b, Bool.false_eq_true, show ¬ (1 : Int32) = 0 by decide, nI_1, nI_le0 (D + 1) (by omega), e0]
  · intro k D hD a
    rw [r258_7]
    have kl : k < ts.length := by rcases a with a | a <;> exact tI_lt (by decide) a
    have i := rm_isF (d := d) S (t := k) (by omega)
    have b1 : tI ts k 123 = false := by rw [tI_ne]; rcases a with a | a <;> (rw [tI_eq] at a; omega)
    have b2 : tI ts k 91 = false := by rw [tI_ne]; rcases a with a | a <;> (rw [tI_eq] at a; omega)
    by_cases hD0 : D = 0
    · rcases a with a | a
      · simp only [r258_9, r258_12, r258_13, r258_14, r258_15, r258_17, r258_20, r258_23, r258_24, r258_25, r258_27, r258_30, r258_33, r258_34, r258_37, r258_38, r258_39, r258_41, r258_44, r258_47, r258_48, r258_49, r258_51, r258_54, r258_57, r258_58, r258_61, r258_62, r258_63, r258_64, r258_67, r258_68, r258_71, r258_72, r258_75, r258_76, r258_78, mx_isr_ref, mx_isr_null, mx_wt_nil, mx_wt_1, mx_wt_2, mx_wt_3, Option.bind_some, Option.toList_some, Option.toList_none, List.cons_append, List.nil_append, mx_nl_int, mx_nl_ref, mx_nl_null, mx_nl_none, mx_nb0, mx_nb1, mx_fb0, mx_fb1, mx_cat_int, mx_cat_ref, if_true, if_false, not_true_eq_false, not_false_eq_true, T, i, a, b1, b2, Bool.false_eq_true, show ¬ (1 : Int32) = 0 by decide, nI_m1 D (by omega), nI_1, nI_le0 D (by omega), eq_true hD0, decide_false, show ¬ 0 < D by omega]
      · have b3 : tI ts k 125 = false := by rw [tI_ne]; rw [tI_eq] at a; omega
        simp only [r258_9, r258_12, r258_13, r258_14, r258_15, r258_17, r258_20, r258_23, r258_24, r258_25, r258_27, r258_30, r258_33, r258_34, r258_37, r258_38, r258_39, r258_41, r258_44, r258_47, r258_48, r258_49, r258_51, r258_54, r258_57, r258_58, r258_61, r258_62, r258_63, r258_64, r258_67, r258_68, r258_71, r258_72, r258_75, r258_76, r258_78, mx_isr_ref, mx_isr_null, mx_wt_nil, mx_wt_1, mx_wt_2, mx_wt_3, Option.bind_some, Option.toList_some, Option.toList_none, List.cons_append, List.nil_append, mx_nl_int, mx_nl_ref, mx_nl_null, mx_nl_none, mx_nb0, mx_nb1, mx_fb0, mx_fb1, mx_cat_int, mx_cat_ref, if_true, if_false, not_true_eq_false, not_false_eq_true, T, i, a, b1, b2, b3, Bool.false_eq_true, show ¬ (1 : Int32) = 0 by decide, nI_m1 D (by omega), nI_1, nI_le0 D (by omega), eq_true hD0, decide_false, show ¬ 0 < D by omega]
    · rcases a with a | a
      · simp only [r258_9, r258_12, r258_13, r258_14, r258_15, r258_17, r258_20, r258_23, r258_24, r258_25, r258_27, r258_30, r258_33, r258_34, r258_37, r258_38, r258_39, r258_41, r258_44, r258_47, r258_48, r258_49, r258_51, r258_54, r258_57, r258_58, r258_61, r258_62, r258_63, r258_64, r258_67, r258_68, r258_71, r258_72, r258_75, r258_76, r258_78, mx_isr_ref, mx_isr_null, mx_wt_nil, mx_wt_1, mx_wt_2, mx_wt_3, Option.bind_some, Option.toList_some, Option.toList_none, List.cons_append, List.nil_append, mx_nl_int, mx_nl_ref, mx_nl_null, mx_nl_none, mx_nb0, mx_nb1, mx_fb0, mx_fb1, mx_cat_int, mx_cat_ref, if_true, if_false, not_true_eq_false, not_false_eq_true, T, i, a, b1, b2, Bool.false_eq_true, show ¬ (1 : Int32) = 0 by decide, nI_m1 D (by omega), nI_1, nI_le0 D (by omega), hD0, decide_true, show 0 < D by omega]
      · have b3 : tI ts k 125 = false := by rw [tI_ne]; rw [tI_eq] at a; omega
        simp only [r258_9, r258_12, r258_13, r258_14, r258_15, r258_17, r258_20, r258_23, r258_24, r258_25, r258_27, r258_30, r258_33, r258_34, r258_37, r258_38, r258_39, r258_41, r258_44, r258_47, r258_48, r258_49, r258_51, r258_54, r258_57, r258_58, r258_61, r258_62, r258_63, r258_64, r258_67, r258_68, r258_71, r258_72, r258_75, r258_76, r258_78, mx_isr_ref, mx_isr_null, mx_wt_nil, mx_wt_1, mx_wt_2, mx_wt_3, Option.bind_some, Option.toList_some, Option.toList_none, List.cons_append, List.nil_append, mx_nl_int, mx_nl_ref, mx_nl_null, mx_nl_none, mx_nb0, mx_nb1, mx_fb0, mx_fb1, mx_cat_int, mx_cat_ref, if_true, if_false, not_true_eq_false, not_false_eq_true, T, i, a, b1, b2, b3, Bool.false_eq_true, show ¬ (1 : Int32) = 0 by decide, nI_m1 D (by omega), nI_1, nI_le0 D (by omega), hD0, decide_true, show 0 < D by omega]
/-- the place of the next part, -1 at the end -/
def nx (l : List Nat) : Int32 := match l with | [] => -1 | m :: _ => nI m
theorem rm_first (S : rm_TS h ts) {n t e : Nat} (hn : n ≤ 3) (hE : pE ts n t = some e) (ho : tI ts t 123 = true ∨ tI ts t 91 = true) : mx_G (d + 1) 256 0 [some (.ref 76), some (.int (nI t))] [] h = some (some (.int (nx (kd ts t))), h) := by
  have T := S.1
  have bd := pE_bd _ _ _ hE
  have hl := S.2.1
  have i := rm_isF (d := d) S (t := t + 1) (by omega)
  have k := kd_hd hn hE
  have k : ((kd ts t = [] ∧ (tI ts (t + 1) 125 = true ∨ tI ts (t + 1) 93 = true)) ∨ (∃ l, kd ts t = (t + 1) :: l ∧ tI ts (t + 1) 125 = false ∧ tI ts (t + 1) 93 = false)) := by
    rcases ho with ho | ho
    · rcases k.1 ho with ⟨a, b⟩ | a
      · exact Or.inl ⟨a, Or.inl b⟩
      · exact Or.inr a
    · rcases k.2 ho with ⟨a, b⟩ | a
      · exact Or.inl ⟨a, Or.inr b⟩
      · exact Or.inr a
  rcases k with ⟨k, a⟩ | ⟨l, k, a, b⟩
  · rw [k]
    by_cases b : tI ts (t + 1) 125 = true
    · simp only [r256_0, r256_1, r256_2, r256_3, r256_4, r256_6, r256_9, r256_12, r256_13, r256_14, r256_15, r256_16, r256_18, r256_21, r256_24, r256_25, r256_28, r256_29, r256_30, r256_31, mx_isr_ref, mx_isr_null, mx_wt_nil, mx_wt_1, mx_wt_2, mx_wt_3, Option.bind_some, Option.toList_some, Option.toList_none, List.cons_append, List.nil_append, mx_nl_int, mx_nl_ref, mx_nl_null, mx_nl_none, mx_nb0, mx_nb1, mx_fb0, mx_fb1, mx_cat_int, mx_cat_ref, if_true, if_false, not_true_eq_false, not_false_eq_true, T, i, b, nI_1, show ¬ (1 : Int32) = 0 by decide]
      rfl
    · have b : tI ts (t + 1) 125 = false := Bool.eq_false_iff.2 b
      have a : tI ts (t + 1) 93 = true := by rcases a with a | a; rw [a] at b; cases b; exact a
      simp only [r256_0, r256_1, r256_2, r256_3, r256_4, r256_6, r256_9, r256_12, r256_13, r256_14, r256_15, r256_16, r256_18, r256_21, r256_24, r256_25, r256_28, r256_29, r256_30, r256_31, mx_isr_ref, mx_isr_null, mx_wt_nil, mx_wt_1, mx_wt_2, mx_wt_3, Option.bind_some, Option.toList_some, Option.toList_none, List.cons_append, List.nil_append, mx_nl_int, mx_nl_ref, mx_nl_null, mx_nl_none, mx_nb0, mx_nb1, mx_fb0, mx_fb1, mx_cat_int, mx_cat_ref, if_true, if_false, not_true_eq_false, not_false_eq_true, T, i, a, b, nI_1, Bool.false_eq_true, show ¬ (1 : Int32) = 0 by decide]
      rfl
  · rw [k]
    simp only [r256_0, r256_1, r256_2, r256_3, r256_4, r256_6, r256_9, r256_12, r256_13, r256_14, r256_15, r256_16, r256_18, r256_21, r256_24, r256_25, r256_28, r256_29, r256_30, r256_31, mx_isr_ref, mx_isr_null, mx_wt_nil, mx_wt_1, mx_wt_2, mx_wt_3, Option.bind_some, Option.toList_some, Option.toList_none, List.cons_append, List.nil_append, mx_nl_int, mx_nl_ref, mx_nl_null, mx_nl_none, mx_nb0, mx_nb1, mx_fb0, mx_fb1, mx_cat_int, mx_cat_ref, if_true, if_false, not_true_eq_false, not_false_eq_true, T, i, a, b, nI_1, Bool.false_eq_true]
    rfl
theorem rm_after (S : rm_TS h ts) {m : Nat} {l : List Nat} {o : Bool} (hc : chn ts 3 o (m :: l)) : mx_G (d + 2) 257 0 [some (.ref 76), some (.int (nI m)), some (.int (if o = true then 1 else 0)), none] [] h = some (some (.int (nx l)), h) := by
  have T := S.1
  have hl := S.2.1
  obtain ⟨-, ⟨e, hE, h1, h2⟩, -⟩ := hc
  have bd := pE_bd _ _ _ hE
  have i := rm_isF (d := d + 1) S (t := e) (by omega)
  have ov := rm_over (d := d) S (n := 3) (by omega) hE
  have e1 : ∀ x, (if o = true then nI m + 2 else nI m) = x → x = nI (mv o m) := by
    intro x hx
    rw [← hx]
    cases o
    · rfl
    · exact nI_add m 2
  cases l with
  | nil =>
    have c := h1 rfl
    cases o
    · rw [show mv false m = m from rfl] at ov
      simp only [r257_0, r257_1, r257_2, r257_5, r257_6, r257_7, r257_8, r257_11, r257_12, r257_15, r257_16, r257_17, r257_18, r257_20, r257_23, r257_26, r257_27, r257_28, r257_29, r257_32, r257_33, mx_isr_ref, mx_isr_null, mx_wt_nil, mx_wt_1, mx_wt_2, mx_wt_3, Option.bind_some, Option.toList_some, Option.toList_none, List.cons_append, List.nil_append, mx_nl_int, mx_nl_ref, mx_nl_null, mx_nl_none, mx_nb0, mx_nb1, mx_fb0, mx_fb1, mx_cat_int, mx_cat_ref, if_true, if_false, not_true_eq_false, not_false_eq_true, T, i, c, ov, Bool.false_eq_true]
      rfl
    · rw [show mv true m = m + 2 from rfl] at ov
      have e2 : nI m + 2 = nI (m + 2) := nI_add m 2
      simp only [r257_0, r257_1, r257_2, r257_5, r257_6, r257_7, r257_8, r257_11, r257_12, r257_15, r257_16, r257_17, r257_18, r257_20, r257_23, r257_26, r257_27, r257_28, r257_29, r257_32, r257_33, mx_isr_ref, mx_isr_null, mx_wt_nil, mx_wt_1, mx_wt_2, mx_wt_3, Option.bind_some, Option.toList_some, Option.toList_none, List.cons_append, List.nil_append, mx_nl_int, mx_nl_ref, mx_nl_null, mx_nl_none, mx_nb0, mx_nb1, mx_fb0, mx_fb1, mx_cat_int, mx_cat_ref, if_true, if_false, not_true_eq_false, not_false_eq_true, T, i, c, ov, e2, Bool.false_eq_true, show ¬ (1 : Int32) = 0 by decide]
      rfl
  | cons m' l =>
    obtain ⟨c, em⟩ := h2 m' l rfl
    subst em
    cases o
    · rw [show mv false m = m from rfl] at ov
      simp only [r257_0, r257_1, r257_2, r257_5, r257_6, r257_7, r257_8, r257_11, r257_12, r257_15, r257_16, r257_17, r257_18, r257_20, r257_23, r257_26, r257_27, r257_28, r257_29, r257_32, r257_33, mx_isr_ref, mx_isr_null, mx_wt_nil, mx_wt_1, mx_wt_2, mx_wt_3, Option.bind_some, Option.toList_some, Option.toList_none, List.cons_append, List.nil_append, mx_nl_int, mx_nl_ref, mx_nl_null, mx_nl_none, mx_nb0, mx_nb1, mx_fb0, mx_fb1, mx_cat_int, mx_cat_ref, if_true, if_false, not_true_eq_false, not_false_eq_true, T, i, c, ov, nI_1, Bool.false_eq_true, show ¬ (1 : Int32) = 0 by decide]
      rfl
    · rw [show mv true m = m + 2 from rfl] at ov
      have e2 : nI m + 2 = nI (m + 2) := nI_add m 2
      simp only [r257_0, r257_1, r257_2, r257_5, r257_6, r257_7, r257_8, r257_11, r257_12, r257_15, r257_16, r257_17, r257_18, r257_20, r257_23, r257_26, r257_27, r257_28, r257_29, r257_32, r257_33, mx_isr_ref, mx_isr_null, mx_wt_nil, mx_wt_1, mx_wt_2, mx_wt_3, Option.bind_some, Option.toList_some, Option.toList_none, List.cons_append, List.nil_append, mx_nl_int, mx_nl_ref, mx_nl_null, mx_nl_none, mx_nb0, mx_nb1, mx_fb0, mx_fb1, mx_cat_int, mx_cat_ref, if_true, if_false, not_true_eq_false, not_false_eq_true, T, i, c, ov, e2, nI_1, Bool.false_eq_true, show ¬ (1 : Int32) = 0 by decide]
      rfl
end
