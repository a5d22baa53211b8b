/-! The class's buffer: letters, and how they are split. -/
def sli (ls : List Nat) (a b : Nat) : List Nat := (ls.drop a).take (b - a)
def uesc : List Nat → List Nat
  | [] => []
  | [c] => [c]
  | c :: e :: r => if c = 92 then e :: uesc r else c :: uesc (e :: r)
theorem uesc_c {c : Nat} (h : c ≠ 92) (r : List Nat) : uesc (c :: r) = c :: uesc r := by cases r <;> simp [uesc, h]
theorem uesc_let : ∀ (l : List Nat), (∀ c ∈ l, c ≠ 92) → uesc l = l := by
  intro l
  induction l with
  | nil => intro _; rfl
  | cons c r ih =>
    intro h
    rw [uesc_c (h c List.mem_cons_self), ih (fun x hx => h x (List.mem_cons_of_mem _ hx))]
theorem lx_str_split : ∀ (n : Nat) (l : List Nat), l.length ≤ n → ∀ t r, lx_str l = some (t, r) → ∃ m, l = m ++ 34 :: r ∧ uesc m = t := by
  intro n
  induction n with
  | zero =>
    intro l hl t r h
    have : l = [] := List.eq_nil_of_length_eq_zero (by omega)
    subst this
    simp [lx_str] at h
  | succ n ih =>
    intro l hl t r h
    match l, hl, h with
    | [], _, h => simp [lx_str] at h
    | c :: l', hl, h =>
      by_cases h34 : c = 34
      · subst h34
        rw [lx_str_34] at h
        cases h
        exact ⟨[], rfl, rfl⟩
      · by_cases h32 : c < 32
        · rw [lx_str_lo h32] at h
          cases h
        · by_cases h92 : c = 92
          · subst h92
            match l', hl, h with
            | [], _, h => simp [lx_str] at h
            | e :: r', hl, h =>
              rw [lx_str_92] at h
              split at h
              · obtain ⟨q, hq, he⟩ := Option.map_eq_some_iff.mp h
                obtain ⟨m, e1, e2⟩ := ih r' (by simp at hl; omega) q.1 q.2 hq
                cases he
                exact ⟨92 :: e :: m, by rw [e1]; rfl, by simp [uesc, e2]⟩
              · cases h
          · rw [lx_str_c h32 h34 h92] at h
            obtain ⟨q, hq, he⟩ := Option.map_eq_some_iff.mp h
            obtain ⟨m, e1, e2⟩ := ih l' (by simp at hl; omega) q.1 q.2 hq
            cases he
            exact ⟨c :: m, by rw [e1]; rfl, by rw [uesc_c h92, e2]⟩
/-- the buffer's object and rows -/
def BF (h : mx_H) (ls : List Nat) (u : Nat) (ks ss es : List Nat) (t c : Nat) : Prop :=
  h[64]? = some (.inl 1, [.ref 65, .ref 66, .ref 67, .ref 68, .ref 69, .int (nI u), .int (nI t), .int (nI c)]) ∧ h[65]? = some (.inr .char, nvs ls) ∧ h[66]? = some (.inr .int, nvs ks) ∧ h[67]? = some (.inr .int, nvs ss) ∧ h[68]? = some (.inr .int, nvs es) ∧
  ls.length = 120 ∧ ks.length = 121 ∧ ss.length = 121 ∧ es.length = 121 ∧ u ≤ 120 ∧ (∀ c ∈ ls, c < 128)
theorem BF_f {h : mx_H} {ls : List Nat} {u : Nat} {ks ss es : List Nat} {t c : Nat} (B : BF h ls u ks ss es t c) :
    mx_tag h 64 = some (.inl 1) ∧ mx_ln h 64 = 8 ∧ mx_el h 64 0 = .ref 65 ∧ mx_el h 64 1 = .ref 66 ∧ mx_el h 64 2 = .ref 67 ∧ mx_el h 64 3 = .ref 68 ∧ mx_el h 64 4 = .ref 69 ∧ mx_el h 64 5 = .int (nI u) ∧ mx_el h 64 6 = .int (nI t) ∧ mx_el h 64 7 = .int (nI c) ∧
    mx_tag h 65 = some (.inr .char) ∧ mx_ln h 65 = 120 ∧ (∀ k, k < 120 → mx_el h 65 k = .int (nI (ls.getD k 0))) ∧ mx_tag h 66 = some (.inr .int) ∧ mx_ln h 66 = 121 ∧ (∀ k, k < 121 → mx_el h 66 k = .int (nI (ks.getD k 0))) ∧
    mx_tag h 67 = some (.inr .int) ∧ mx_ln h 67 = 121 ∧ (∀ k, k < 121 → mx_el h 67 k = .int (nI (ss.getD k 0))) ∧ mx_tag h 68 = some (.inr .int) ∧ mx_ln h 68 = 121 ∧ (∀ k, k < 121 → mx_el h 68 k = .int (nI (es.getD k 0))) := by
  obtain ⟨e4, e5, e6, e7, e8, l5, l6, l7, l8, -⟩ := B
  refine ⟨ce_t e4, by rw [ce_n e4]; rfl, by rw [ce_e e4]; rfl, by rw [ce_e e4]; rfl, by rw [ce_e e4]; rfl, by rw [ce_e e4]; rfl, by rw [ce_e e4]; rfl, by rw [ce_e e4]; rfl, by rw [ce_e e4]; rfl, by rw [ce_e e4]; rfl, ce_t e5, by rw [ce_n e5, bs_len, l5], fun k hk => ?_, ce_t e6, by rw [ce_n e6, bs_len, l6], fun k hk => ?_, ce_t e7, by rw [ce_n e7, bs_len, l7], fun k hk => ?_, ce_t e8, by rw [ce_n e8, bs_len, l8], fun k hk => ?_⟩
  · rw [ce_e e5, bs_get _ _ (by omega)]
  · rw [ce_e e6, bs_get _ _ (by omega)]
  · rw [ce_e e7, bs_get _ _ (by omega)]
  · rw [ce_e e8, bs_get _ _ (by omega)]
/-- what is left of the text from k on -/
def rst (ls : List Nat) (u k : Nat) : List Nat := (ls.take u).drop k
theorem rst_cons {ls : List Nat} {u k : Nat} (hk : k < u) (hu : u ≤ ls.length) : rst ls u k = ls.getD k 0 :: rst ls u (k + 1) := by
  unfold rst
  rw [List.drop_eq_getElem_cons (by rw [List.length_take]; omega)]
  simp [List.getD_eq_getElem?_getD, show k < ls.length by omega]
theorem rst_nil {ls : List Nat} {u k : Nat} (hk : u ≤ k) : rst ls u k = [] := List.drop_of_length_le (by rw [List.length_take]; omega)
theorem rst_len {ls : List Nat} {u k : Nat} (hu : u ≤ ls.length) : (rst ls u k).length = u - k := by
  unfold rst
  rw [List.length_drop, List.length_take]
  omega
section
variable {d : Nat} {h : mx_H} {ls ks ss es : List Nat} {u t c : Nat}
theorem jc_fold {c : Nat} (hc : c < 128) : mx_G d 43 0 [some (.int (nI c))] [] h = some (some (.int (nI (sml c))), h) := by
  have key : ∀ c, c < 128 → (nI c < 65 ↔ c < 65) ∧ (90 < nI c ↔ 90 < c) ∧ (((nI c + 32).toUInt32 % 65536).toInt32 = nI (c + 32) ∨ 96 ≤ c) ∧ narrow .char (.int (nI c)) = .int (nI c) ∧ (narrow .char (.int (nI (c + 32))) = .int (nI (c + 32)) ∨ 96 ≤ c) := by decide +kernel
  obtain ⟨k1, k2, k3, k4, k5⟩ := key c hc
  unfold sml
  by_cases h1 : c < 65
  · simp only [g43_0, g43_1, g43_3, g43_6, g43_7, g43_9, g43_12, g43_13, g43_15, g43_16, g43_17, g43_20, g43_21, mx_isr_ref, mx_isr_null, mx_wt_nil, mx_wt_1, mx_wt_2, mx_wt_3, Option.bind_some, Option.toList_some, Option.toList_none, List.cons_append, List.nil_append, mx_nl_int, mx_nl_ref, mx_nl_null, mx_nl_none, mx_nb0, mx_nb1, mx_fb0, mx_fb1, mx_cat_int, mx_cat_ref, if_true, if_false, not_true_eq_false, not_false_eq_true, mx_wt_4, mx_w4_0, mx_w9_0, mx_w9_1, mx_kn_int, mx_kn_ref, mx_kn_null, Nat.reduceLT, ofn, n10, k1, h1, show ¬ (65 ≤ c ∧ c ≤ 90) by omega, k4]
  · by_cases h2 : 90 < c
    · simp only [g43_0, g43_1, g43_3, g43_6, g43_7, g43_9, g43_12, g43_13, g43_15, g43_16, g43_17, g43_20, g43_21, mx_isr_ref, mx_isr_null, mx_wt_nil, mx_wt_1, mx_wt_2, mx_wt_3, Option.bind_some, Option.toList_some, Option.toList_none, List.cons_append, List.nil_append, mx_nl_int, mx_nl_ref, mx_nl_null, mx_nl_none, mx_nb0, mx_nb1, mx_fb0, mx_fb1, mx_cat_int, mx_cat_ref, if_true, if_false, not_true_eq_false, not_false_eq_true, mx_wt_4, mx_w4_0, mx_w9_0, mx_w9_1, mx_kn_int, mx_kn_ref, mx_kn_null, Nat.reduceLT, ofn, n10, k1, h1, k2, h2, show ¬ (65 ≤ c ∧ c ≤ 90) by omega, k4]
    · simp only [g43_0, g43_1, g43_3, g43_6, g43_7, g43_9, g43_12, g43_13, g43_15, g43_16, g43_17, g43_20, g43_21, mx_isr_ref, mx_isr_null, mx_wt_nil, mx_wt_1, mx_wt_2, mx_wt_3, Option.bind_some, Option.toList_some, Option.toList_none, List.cons_append, List.nil_append, mx_nl_int, mx_nl_ref, mx_nl_null, mx_nl_none, mx_nb0, mx_nb1, mx_fb0, mx_fb1, mx_cat_int, mx_cat_ref, if_true, if_false, not_true_eq_false, not_false_eq_true, mx_wt_4, mx_w4_0, mx_w9_0, mx_w9_1, mx_kn_int, mx_kn_ref, mx_kn_null, Nat.reduceLT, ofn, n10, k1, h1, k2, h2, show 65 ≤ c ∧ c ≤ 90 by omega, and_self, k3.resolve_right (by omega), k5.resolve_right (by omega)]
theorem jc_let (B : BF h ls u ks ss es t c) {k : Nat} (hk : k < 2 ^ 31) : mx_G (d + 1) 42 0 [some (.ref 64), some (.int (nI k))] [] h = some (some (.int (if k < u ∧ isLet (ls.getD k 0) = true then 1 else 0)), h) := by
  obtain ⟨t4, l4, e0, e1, e2, e3, e4, e5, e6, e7, t5, l5, x5, t6, l6, x6, t7, l7, x7, t8, l8, x8⟩ := BF_f B
  have hu := B.2.2.2.2.2.2.2.2.2.1
  by_cases h1 : u ≤ k
  · simp only [g42_0, g42_1, g42_2, g42_5, g42_8, g42_9, g42_12, g42_13, g42_14, g42_17, g42_19, g42_22, g42_23, g42_26, g42_27, g42_28, g42_31, g42_33, g42_36, g42_37, g42_40, g42_41, mx_isr_ref, mx_isr_null, mx_wt_nil, mx_wt_1, mx_wt_2, mx_wt_3, Option.bind_some, Option.toList_some, Option.toList_none, List.cons_append, List.nil_append, mx_nl_int, mx_nl_ref, mx_nl_null, mx_nl_none, mx_nb0, mx_nb1, mx_fb0, mx_fb1, mx_cat_int, mx_cat_ref, if_true, if_false, not_true_eq_false, not_false_eq_true, mx_wt_4, mx_w4_0, mx_w9_0, mx_w9_1, mx_kn_int, mx_kn_ref, mx_kn_null, Nat.reduceLT, ofn, n10, t4, l4, e5, nI_leI (show u < 2 ^ 31 by omega) hk, h1, show ¬ (k < u ∧ isLet (ls.getD k 0) = true) from fun z => absurd z.1 (by omega)]
  · have hc := gd_lt B.2.2.2.2.2.2.2.2.2.2 k
    have hs : sml (ls.getD k 0) < 128 := by unfold sml; split <;> omega
    have f1 := jc_fold (d := d) (h := h) hc
    by_cases h2 : sml (ls.getD k 0) < 97
    · have q : ¬ (k < u ∧ isLet (ls.getD k 0) = true) := by
        rintro ⟨-, z⟩
        simp only [isLet, Bool.and_eq_true, decide_eq_true_eq] at z
        omega
      have q2 : nI (sml (ls.getD k 0)) < 97 := nI_lt (b := 97) h2 (by decide)
      simp only [g42_0, g42_1, g42_2, g42_5, g42_8, g42_9, g42_12, g42_13, g42_14, g42_17, g42_19, g42_22, g42_23, g42_26, g42_27, g42_28, g42_31, g42_33, g42_36, g42_37, g42_40, g42_41, mx_isr_ref, mx_isr_null, mx_wt_nil, mx_wt_1, mx_wt_2, mx_wt_3, Option.bind_some, Option.toList_some, Option.toList_none, List.cons_append, List.nil_append, mx_nl_int, mx_nl_ref, mx_nl_null, mx_nl_none, mx_nb0, mx_nb1, mx_fb0, mx_fb1, mx_cat_int, mx_cat_ref, if_true, if_false, not_true_eq_false, not_false_eq_true, mx_wt_4, mx_w4_0, mx_w9_0, mx_w9_1, mx_kn_int, mx_kn_ref, mx_kn_null, Nat.reduceLT, ofn, n10, t4, l4, e5, e0, nI_leI (show u < 2 ^ 31 by omega) hk, h1, t5, l5, nI_pos' hk, nI_clamp hk, show k < 120 by omega, x5 k (by omega), f1, q2, q]
    · have q2 : ¬ nI (sml (ls.getD k 0)) < 97 := nI_nlt (b := 97) (by omega) (by omega)
      by_cases h3 : 122 < sml (ls.getD k 0)
      · have q : ¬ (k < u ∧ isLet (ls.getD k 0) = true) := by
          rintro ⟨-, z⟩
          simp only [isLet, Bool.and_eq_true, decide_eq_true_eq] at z
          omega
        have q3 : (122 : Int32) < nI (sml (ls.getD k 0)) := nI_lt (a := 122) h3 (by omega)
        simp only [g42_0, g42_1, g42_2, g42_5, g42_8, g42_9, g42_12, g42_13, g42_14, g42_17, g42_19, g42_22, g42_23, g42_26, g42_27, g42_28, g42_31, g42_33, g42_36, g42_37, g42_40, g42_41, mx_isr_ref, mx_isr_null, mx_wt_nil, mx_wt_1, mx_wt_2, mx_wt_3, Option.bind_some, Option.toList_some, Option.toList_none, List.cons_append, List.nil_append, mx_nl_int, mx_nl_ref, mx_nl_null, mx_nl_none, mx_nb0, mx_nb1, mx_fb0, mx_fb1, mx_cat_int, mx_cat_ref, if_true, if_false, not_true_eq_false, not_false_eq_true, mx_wt_4, mx_w4_0, mx_w9_0, mx_w9_1, mx_kn_int, mx_kn_ref, mx_kn_null, Nat.reduceLT, ofn, n10, t4, l4, e5, e0, nI_leI (show u < 2 ^ 31 by omega) hk, h1, t5, l5, nI_pos' hk, nI_clamp hk, show k < 120 by omega, x5 k (by omega), f1, q2, q3, q]
      · have q : (k < u ∧ isLet (ls.getD k 0) = true) := ⟨by omega, by simp only [isLet, Bool.and_eq_true, decide_eq_true_eq]; omega⟩
        have q3 : ¬ (122 : Int32) < nI (sml (ls.getD k 0)) := nI_nlt (b := sml (ls.getD k 0)) (a := 122) (by omega) (by decide)
        simp only [g42_0, g42_1, g42_2, g42_5, g42_8, g42_9, g42_12, g42_13, g42_14, g42_17, g42_19, g42_22, g42_23, g42_26, g42_27, g42_28, g42_31, g42_33, g42_36, g42_37, g42_40, g42_41, mx_isr_ref, mx_isr_null, mx_wt_nil, mx_wt_1, mx_wt_2, mx_wt_3, Option.bind_some, Option.toList_some, Option.toList_none, List.cons_append, List.nil_append, mx_nl_int, mx_nl_ref, mx_nl_null, mx_nl_none, mx_nb0, mx_nb1, mx_fb0, mx_fb1, mx_cat_int, mx_cat_ref, if_true, if_false, not_true_eq_false, not_false_eq_true, mx_wt_4, mx_w4_0, mx_w9_0, mx_w9_1, mx_kn_int, mx_kn_ref, mx_kn_null, Nat.reduceLT, ofn, n10, t4, l4, e5, e0, nI_leI (show u < 2 ^ 31 by omega) hk, h1, t5, l5, nI_pos' hk, nI_clamp hk, show k < 120 by omega, x5 k (by omega), f1, q2, q3, eq_true q]
theorem jc_dig (B : BF h ls u ks ss es t c) {k : Nat} (hk : k < 2 ^ 31) : mx_G (d + 1) 45 0 [some (.ref 64), some (.int (nI k))] [] h = some (some (.int (if k < u ∧ isDig (ls.getD k 0) = true then 1 else 0)), h) := by
  obtain ⟨t4, l4, e0, e1, e2, e3, e4, e5, e6, e7, t5, l5, x5, t6, l6, x6, t7, l7, x7, t8, l8, x8⟩ := BF_f B
  have hu := B.2.2.2.2.2.2.2.2.2.1
  by_cases h1 : u ≤ k
  · simp only [g45_0, g45_1, g45_2, g45_5, g45_8, g45_9, g45_12, g45_13, g45_14, g45_16, g45_19, g45_20, g45_23, g45_24, g45_25, g45_27, g45_30, g45_31, g45_34, g45_35, mx_isr_ref, mx_isr_null, mx_wt_nil, mx_wt_1, mx_wt_2, mx_wt_3, Option.bind_some, Option.toList_some, Option.toList_none, List.cons_append, List.nil_append, mx_nl_int, mx_nl_ref, mx_nl_null, mx_nl_none, mx_nb0, mx_nb1, mx_fb0, mx_fb1, mx_cat_int, mx_cat_ref, if_true, if_false, not_true_eq_false, not_false_eq_true, mx_wt_4, mx_w4_0, mx_w9_0, mx_w9_1, mx_kn_int, mx_kn_ref, mx_kn_null, Nat.reduceLT, ofn, n10, t4, l4, e5, nI_leI (show u < 2 ^ 31 by omega) hk, h1, show ¬ (k < u ∧ isDig (ls.getD k 0) = true) from fun z => absurd z.1 (by omega)]
  · have hc := gd_lt B.2.2.2.2.2.2.2.2.2.2 k
    by_cases h2 : ls.getD k 0 < 48
    · have q : ¬ (k < u ∧ isDig (ls.getD k 0) = true) := by
        rintro ⟨-, z⟩
        simp only [isDig, Bool.and_eq_true, decide_eq_true_eq] at z
        omega
      have q2 : nI (ls.getD k 0) < 48 := nI_lt (b := 48) h2 (by decide)
      simp only [g45_0, g45_1, g45_2, g45_5, g45_8, g45_9, g45_12, g45_13, g45_14, g45_16, g45_19, g45_20, g45_23, g45_24, g45_25, g45_27, g45_30, g45_31, g45_34, g45_35, mx_isr_ref, mx_isr_null, mx_wt_nil, mx_wt_1, mx_wt_2, mx_wt_3, Option.bind_some, Option.toList_some, Option.toList_none, List.cons_append, List.nil_append, mx_nl_int, mx_nl_ref, mx_nl_null, mx_nl_none, mx_nb0, mx_nb1, mx_fb0, mx_fb1, mx_cat_int, mx_cat_ref, if_true, if_false, not_true_eq_false, not_false_eq_true, mx_wt_4, mx_w4_0, mx_w9_0, mx_w9_1, mx_kn_int, mx_kn_ref, mx_kn_null, Nat.reduceLT, ofn, n10, t4, l4, e5, e0, nI_leI (show u < 2 ^ 31 by omega) hk, h1, t5, l5, nI_pos' hk, nI_clamp hk, show k < 120 by omega, x5 k (by omega), q2, q]
    · have q2 : ¬ nI (ls.getD k 0) < 48 := nI_nlt (b := 48) (by omega) (by omega)
      by_cases h3 : 57 < ls.getD k 0
      · have q : ¬ (k < u ∧ isDig (ls.getD k 0) = true) := by
          rintro ⟨-, z⟩
          simp only [isDig, Bool.and_eq_true, decide_eq_true_eq] at z
          omega
        have q3 : (57 : Int32) < nI (ls.getD k 0) := nI_lt (a := 57) h3 (by omega)
        simp only [g45_0, g45_1, g45_2, g45_5, g45_8, g45_9, g45_12, g45_13, g45_14, g45_16, g45_19, g45_20, g45_23, g45_24, g45_25, g45_27, g45_30, g45_31, g45_34, g45_35, mx_isr_ref, mx_isr_null, mx_wt_nil, mx_wt_1, mx_wt_2, mx_wt_3, Option.bind_some, Option.toList_some, Option.toList_none, List.cons_append, List.nil_append, mx_nl_int, mx_nl_ref, mx_nl_null, mx_nl_none, mx_nb0, mx_nb1, mx_fb0, mx_fb1, mx_cat_int, mx_cat_ref, if_true, if_false, not_true_eq_false, not_false_eq_true, mx_wt_4, mx_w4_0, mx_w9_0, mx_w9_1, mx_kn_int, mx_kn_ref, mx_kn_null, Nat.reduceLT, ofn, n10, t4, l4, e5, e0, nI_leI (show u < 2 ^ 31 by omega) hk, h1, t5, l5, nI_pos' hk, nI_clamp hk, show k < 120 by omega, x5 k (by omega), q2, q3, q]
      · have q : (k < u ∧ isDig (ls.getD k 0) = true) := ⟨by omega, by simp only [isDig, Bool.and_eq_true, decide_eq_true_eq]; omega⟩
        have q3 : ¬ (57 : Int32) < nI (ls.getD k 0) := nI_nlt (b := ls.getD k 0) (a := 57) (by omega) (by decide)
        simp only [g45_0, g45_1, g45_2, g45_5, g45_8, g45_9, g45_12, g45_13, g45_14, g45_16, g45_19, g45_20, g45_23, g45_24, g45_25, g45_27, g45_30, g45_31, g45_34, g45_35, mx_isr_ref, mx_isr_null, mx_wt_nil, mx_wt_1, mx_wt_2, mx_wt_3, Option.bind_some, Option.toList_some, Option.toList_none, List.cons_append, List.nil_append, mx_nl_int, mx_nl_ref, mx_nl_null, mx_nl_none, mx_nb0, mx_nb1, mx_fb0, mx_fb1, mx_cat_int, mx_cat_ref, if_true, if_false, not_true_eq_false, not_false_eq_true, mx_wt_4, mx_w4_0, mx_w9_0, mx_w9_1, mx_kn_int, mx_kn_ref, mx_kn_null, Nat.reduceLT, ofn, n10, t4, l4, e5, e0, nI_leI (show u < 2 ^ 31 by omega) hk, h1, t5, l5, nI_pos' hk, nI_clamp hk, show k < 120 by omega, x5 k (by omega), q2, q3, eq_true q]
theorem jc_skipL (B : BF h ls u ks ss es t c) (x : Int32) : ∀ n k, n + k = u → mx_G d 18 2 [some (.ref 64), some (.int x), some (.int (nI k))] [] h = some (some (.int (nI (k + ((rst ls u k).takeWhile fun c => c == 32).length))), h) := by
  obtain ⟨t4, l4, e0, e1, e2, e3, e4, e5, e6, e7, t5, l5, x5, t6, l6, x6, t7, l7, x7, t8, l8, x8⟩ := BF_f B
  have hu := B.2.2.2.2.2.2.2.2.2.1
  have hl := B.2.2.2.2.2.1
  intro n
  induction n with
  | zero =>
    intro k hk
    rw [rst_nil (by omega)]
    simp only [g18_0, g18_1, g18_2, g18_3, g18_4, g18_7, g18_10, g18_11, g18_14, g18_15, g18_16, g18_18, g18_21, g18_24, g18_27, g18_28, mx_isr_ref, mx_isr_null, mx_wt_nil, mx_wt_1, mx_wt_2, mx_wt_3, Option.bind_some, Option.toList_some, Option.toList_none, List.cons_append, List.nil_append, mx_nl_int, mx_nl_ref, mx_nl_null, mx_nl_none, mx_nb0, mx_nb1, mx_fb0, mx_fb1, mx_cat_int, mx_cat_ref, if_true, if_false, not_true_eq_false, not_false_eq_true, mx_wt_4, mx_w4_0, mx_w9_0, mx_w9_1, mx_kn_int, mx_kn_ref, mx_kn_null, Nat.reduceLT, ofn, n10, t4, l4, e5, show nI u ≤ nI k from nI_le (by omega) (by omega), List.takeWhile_nil, List.length_nil, Nat.add_zero]
  | succ n ih =>
    intro k hk
    have hc := gd_lt B.2.2.2.2.2.2.2.2.2.2 k
    have hk2 : ¬ nI u ≤ nI k := nI_ge (by omega) (by omega)
    rw [g18_2, rst_cons (by omega) (by omega)]
    by_cases h32 : ls.getD k 0 = 32
    · have q : nI (ls.getD k 0) = 32 := by rw [h32]; rfl
      simp only [g18_3, g18_4, g18_7, g18_10, g18_11, g18_14, g18_15, g18_16, g18_18, g18_21, g18_24, mx_isr_ref, mx_isr_null, mx_wt_nil, mx_wt_1, mx_wt_2, mx_wt_3, Option.bind_some, Option.toList_some, Option.toList_none, List.cons_append, List.nil_append, mx_nl_int, mx_nl_ref, mx_nl_null, mx_nl_none, mx_nb0, mx_nb1, mx_fb0, mx_fb1, mx_cat_int, mx_cat_ref, if_true, if_false, not_true_eq_false, not_false_eq_true, mx_wt_4, mx_w4_0, mx_w9_0, mx_w9_1, mx_kn_int, mx_kn_ref, mx_kn_null, Nat.reduceLT, ofn, n10, t4, l4, e5, e0, hk2, t5, l5, nI_pos' (show k < 2 ^ 31 by omega), nI_clamp (show k < 2 ^ 31 by omega), show k < 120 by omega, x5 k (by omega), q, nI_1]
      rw [ih (k + 1) (by omega), h32, List.takeWhile_cons_of_pos (by rfl), List.length_cons]
      simp only [Nat.add_assoc, Nat.add_comm 1]
    · have q : ¬ nI (ls.getD k 0) = 32 := fun z => h32 ((nI_eq (b := 32) (by omega) (by decide)).mp z)
      simp only [g18_3, g18_4, g18_7, g18_10, g18_11, g18_14, g18_15, g18_16, g18_18, g18_21, g18_24, g18_27, g18_28, mx_isr_ref, mx_isr_null, mx_wt_nil, mx_wt_1, mx_wt_2, mx_wt_3, Option.bind_some, Option.toList_some, Option.toList_none, List.cons_append, List.nil_append, mx_nl_int, mx_nl_ref, mx_nl_null, mx_nl_none, mx_nb0, mx_nb1, mx_fb0, mx_fb1, mx_cat_int, mx_cat_ref, if_true, if_false, not_true_eq_false, not_false_eq_true, mx_wt_4, mx_w4_0, mx_w9_0, mx_w9_1, mx_kn_int, mx_kn_ref, mx_kn_null, Nat.reduceLT, ofn, n10, t4, l4, e5, e0, hk2, t5, l5, nI_pos' (show k < 2 ^ 31 by omega), nI_clamp (show k < 2 ^ 31 by omega), show k < 120 by omega, x5 k (by omega), q]
      rw [List.takeWhile_cons_of_neg (by simpa using h32)]
      rfl
theorem jc_skip (B : BF h ls u ks ss es t c) {k : Nat} (hk : k ≤ u) : mx_G d 18 0 [some (.ref 64), some (.int (nI k)), none] [] h = some (some (.int (nI (k + ((rst ls u k).takeWhile fun c => c == 32).length))), h) := by
  have := jc_skipL (d := d) B (nI k) (u - k) k (by omega)
  simp only [g18_0, g18_1, mx_isr_ref, mx_isr_null, mx_wt_nil, mx_wt_1, mx_wt_2, mx_wt_3, Option.bind_some, Option.toList_some, Option.toList_none, List.cons_append, List.nil_append, mx_nl_int, mx_nl_ref, mx_nl_null, mx_nl_none, mx_nb0, mx_nb1, mx_fb0, mx_fb1, mx_cat_int, mx_cat_ref, if_true, if_false, not_true_eq_false, not_false_eq_true, mx_wt_4, mx_w4_0, mx_w9_0, mx_w9_1, mx_kn_int, mx_kn_ref, mx_kn_null, Nat.reduceLT, ofn, n10]
  exact this
/-- a word made small -/
def fw : List Nat → Nat → Nat → List Nat
  | ls, _, 0 => ls
  | ls, i, w + 1 => fw (ls.set i (sml (ls.getD i 0))) (i + 1) w
theorem BF_set {B' : Unit} (B : BF h ls u ks ss es t c) {i x : Nat} (hx : x < 128) : BF (mx_up h 65 i (.int (nI x))) (ls.set i x) u ks ss es t c := by
  obtain ⟨b4, b5, b6, b7, b8, l5, l6, l7, l8, hu, ha⟩ := B
  refine ⟨by rw [c_upn (by decide)]; exact b4, by rw [c_up b5, bs_set], by rw [c_upn (by decide)]; exact b6, by rw [c_upn (by decide)]; exact b7, by rw [c_upn (by decide)]; exact b8, by rw [List.length_set]; exact l5, l6, l7, l8, hu, fun q hq => ?_⟩
  rcases List.mem_or_eq_of_mem_set hq with z | z
  · exact ha q z
  · omega
theorem rst_set {i k x : Nat} (h : i < k) : rst (ls.set i x) u k = rst ls u k := by
  unfold rst
  rw [List.take_set, List.drop_set_of_lt (by omega)]
theorem jc_fwL (x : Int32) : ∀ n k ls h, n + k = u → BF h ls u ks ss es t c → ∃ h', mx_G (d + 2) 44 2 [some (.ref 64), some (.int x), some (.int (nI k))] [] h = some (some (.int (nI (k + ((rst ls u k).takeWhile isLet).length))), h') ∧ BF h' (fw ls k ((rst ls u k).takeWhile isLet).length) u ks ss es t c ∧ Fr [65] h h' ∧ mw h' = mw h := by
  intro n
  induction n with
  | zero =>
    intro k ls h hk B
    obtain ⟨t4, l4, e0, e1, e2, e3, e4, e5, e6, e7, t5, l5, x5, t6, l6, x6, t7, l7, x7, t8, l8, x8⟩ := BF_f B
    have hu := B.2.2.2.2.2.2.2.2.2.1
    rw [rst_nil (by omega)]
    refine ⟨h, ?_, B, Fr.rfl _ _, rfl⟩
    simp only [g44_0, g44_1, g44_2, g44_3, g44_4, g44_7, g44_10, g44_11, g44_12, g44_15, g44_18, g44_19, g44_22, g44_23, g44_24, g44_27, g44_28, g44_29, g44_32, g44_33, g44_36, g44_39, g44_40, mx_isr_ref, mx_isr_null, mx_wt_nil, mx_wt_1, mx_wt_2, mx_wt_3, Option.bind_some, Option.toList_some, Option.toList_none, List.cons_append, List.nil_append, mx_nl_int, mx_nl_ref, mx_nl_null, mx_nl_none, mx_nb0, mx_nb1, mx_fb0, mx_fb1, mx_cat_int, mx_cat_ref, if_true, if_false, not_true_eq_false, not_false_eq_true, mx_wt_4, mx_w4_0, mx_w9_0, mx_w9_1, mx_kn_int, mx_kn_ref, mx_kn_null, Nat.reduceLT, ofn, n10, t4, l4, e5, show nI u ≤ nI k from nI_le (by omega) (by omega), List.takeWhile_nil, List.length_nil, Nat.add_zero]
  | succ n ih =>
    intro k ls h hk B
    obtain ⟨t4, l4, e0, e1, e2, e3, e4, e5, e6, e7, t5, l5, x5, t6, l6, x6, t7, l7, x7, t8, l8, x8⟩ := BF_f B
    have hu := B.2.2.2.2.2.2.2.2.2.1
    have hc := gd_lt B.2.2.2.2.2.2.2.2.2.2 k
    have hk2 : ¬ nI u ≤ nI k := nI_ge (by omega) (by omega)
    have hl := B.2.2.2.2.2.1
    have L := jc_let (d := d) B (k := k) (by omega)
    rw [g44_2, rst_cons (by omega) (by omega)]
    by_cases hL : isLet (ls.getD k 0) = true
    · rw [if_pos ⟨by omega, hL⟩] at L
      have B1 := BF_set (B' := ()) B (i := k) (sml_lt hc)
      obtain ⟨h', i1, i2, i3, i4⟩ := ih (k + 1) _ _ (by omega) B1
      rw [rst_set (Nat.lt_succ_self k)] at i1 i2
      rw [List.takeWhile_cons_of_pos hL, List.length_cons]
      refine ⟨h', ?_, i2, (Fr.up List.mem_cons_self).trans i3 (fun a ha => Or.inl ha), by rw [i4, mw_up]⟩
      simp only [g44_3, g44_4, g44_7, g44_10, g44_11, g44_12, g44_15, g44_18, g44_19, g44_22, g44_23, g44_24, g44_27, g44_28, g44_29, g44_32, g44_33, g44_36, mx_isr_ref, mx_isr_null, mx_wt_nil, mx_wt_1, mx_wt_2, mx_wt_3, Option.bind_some, Option.toList_some, Option.toList_none, List.cons_append, List.nil_append, mx_nl_int, mx_nl_ref, mx_nl_null, mx_nl_none, mx_nb0, mx_nb1, mx_fb0, mx_fb1, mx_cat_int, mx_cat_ref, if_true, if_false, not_true_eq_false, not_false_eq_true, mx_wt_4, mx_w4_0, mx_w9_0, mx_w9_1, mx_kn_int, mx_kn_ref, mx_kn_null, Nat.reduceLT, ofn, n10, t4, l4, e5, e0, hk2, L, t5, l5, nI_pos' (show k < 2 ^ 31 by omega), nI_clamp (show k < 2 ^ 31 by omega), show k < 120 by omega, x5 k (by omega), jc_fold hc, show mt_nO ≤ 65 by decide, (nI_c (sml_lt hc)).2.2.2.2.1, nI_1]
      rw [i1]
      simp only [Nat.add_assoc, Nat.add_comm 1]
    · rw [if_neg (fun z => hL z.2)] at L
      rw [List.takeWhile_cons_of_neg hL]
      refine ⟨h, ?_, B, Fr.rfl _ _, rfl⟩
      simp only [g44_3, g44_4, g44_7, g44_10, g44_11, g44_12, g44_15, g44_18, g44_19, g44_22, g44_23, g44_24, g44_27, g44_28, g44_29, g44_32, g44_33, g44_36, g44_39, g44_40, mx_isr_ref, mx_isr_null, mx_wt_nil, mx_wt_1, mx_wt_2, mx_wt_3, Option.bind_some, Option.toList_some, Option.toList_none, List.cons_append, List.nil_append, mx_nl_int, mx_nl_ref, mx_nl_null, mx_nl_none, mx_nb0, mx_nb1, mx_fb0, mx_fb1, mx_cat_int, mx_cat_ref, if_true, if_false, not_true_eq_false, not_false_eq_true, mx_wt_4, mx_w4_0, mx_w9_0, mx_w9_1, mx_kn_int, mx_kn_ref, mx_kn_null, Nat.reduceLT, ofn, n10, t4, l4, e5, e0, hk2, L]
      rfl
theorem jc_foldW (B : BF h ls u ks ss es t c) {k : Nat} (hk : k ≤ u) : ∃ h', mx_G (d + 2) 44 0 [some (.ref 64), some (.int (nI k)), none] [] h = some (some (.int (nI (k + ((rst ls u k).takeWhile isLet).length))), h') ∧ BF h' (fw ls k ((rst ls u k).takeWhile isLet).length) u ks ss es t c ∧ Fr [65] h h' ∧ mw h' = mw h := by
  obtain ⟨h', a, b⟩ := jc_fwL (d := d) (nI k) (u - k) k ls h (by omega) B
  refine ⟨h', ?_, b⟩
  simp only [g44_0, g44_1, mx_isr_ref, mx_isr_null, mx_wt_nil, mx_wt_1, mx_wt_2, mx_wt_3, Option.bind_some, Option.toList_some, Option.toList_none, List.cons_append, List.nil_append, mx_nl_int, mx_nl_ref, mx_nl_null, mx_nl_none, mx_nb0, mx_nb1, mx_fb0, mx_fb1, mx_cat_int, mx_cat_ref, if_true, if_false, not_true_eq_false, not_false_eq_true, mx_wt_4, mx_w4_0, mx_w9_0, mx_w9_1, mx_kn_int, mx_kn_ref, mx_kn_null, Nat.reduceLT, ofn, n10]
  exact a
theorem jc_numL (B : BF h ls u ks ss es t c) {k0 : Nat} : ∀ n k, n + k = u → k0 ≤ k → k0 < 200 → mx_G (d + 2) 46 17 [some (.ref 64), some (.int (nI k0)), some (.int (nI k))] [] h = some (some (.int (nI (k + (((rst ls u k).takeWhile isDig).take (k0 + 9 - k)).length))), h) := by
  obtain ⟨t4, l4, e0, e1, e2, e3, e4, e5, e6, e7, t5, l5, x5, t6, l6, x6, t7, l7, x7, t8, l8, x8⟩ := BF_f B
  have hu := B.2.2.2.2.2.2.2.2.2.1
  have hl := B.2.2.2.2.2.1
  have z9 : nI k0 + 9 = nI (k0 + 9) := nI_add k0 9
  intro n
  induction n with
  | zero =>
    intro k hk h0 h200
    have L := jc_dig (d := d) B (k := k) (by omega)
    rw [if_neg (fun z => absurd z.1 (by omega))] at L
    rw [rst_nil (by omega)]
    by_cases q : k0 + 9 ≤ k
    · simp only [g46_17, g46_18, g46_19, g46_21, g46_22, g46_25, g46_26, g46_27, g46_30, g46_33, g46_36, g46_39, g46_40, mx_isr_ref, mx_isr_null, mx_wt_nil, mx_wt_1, mx_wt_2, mx_wt_3, Option.bind_some, Option.toList_some, Option.toList_none, List.cons_append, List.nil_append, mx_nl_int, mx_nl_ref, mx_nl_null, mx_nl_none, mx_nb0, mx_nb1, mx_fb0, mx_fb1, mx_cat_int, mx_cat_ref, if_true, if_false, not_true_eq_false, not_false_eq_true, mx_wt_4, mx_w4_0, mx_w9_0, mx_w9_1, mx_kn_int, mx_kn_ref, mx_kn_null, Nat.reduceLT, ofn, n10, z9, nI_leI (show k0 + 9 < 2 ^ 31 by omega) (show k < 2 ^ 31 by omega), q, List.takeWhile_nil, List.take_nil, List.length_nil, Nat.add_zero]
    · simp only [g46_17, g46_18, g46_19, g46_21, g46_22, g46_25, g46_26, g46_27, g46_30, g46_33, g46_36, g46_39, g46_40, mx_isr_ref, mx_isr_null, mx_wt_nil, mx_wt_1, mx_wt_2, mx_wt_3, Option.bind_some, Option.toList_some, Option.toList_none, List.cons_append, List.nil_append, mx_nl_int, mx_nl_ref, mx_nl_null, mx_nl_none, mx_nb0, mx_nb1, mx_fb0, mx_fb1, mx_cat_int, mx_cat_ref, if_true, if_false, not_true_eq_false, not_false_eq_true, mx_wt_4, mx_w4_0, mx_w9_0, mx_w9_1, mx_kn_int, mx_kn_ref, mx_kn_null, Nat.reduceLT, ofn, n10, z9, nI_leI (show k0 + 9 < 2 ^ 31 by omega) (show k < 2 ^ 31 by omega), q, t4, L, List.takeWhile_nil, List.take_nil, List.length_nil, Nat.add_zero]
  | succ n ih =>
    intro k hk h0 h200
    have hc := gd_lt B.2.2.2.2.2.2.2.2.2.2 k
    have L := jc_dig (d := d) B (k := k) (by omega)
    rw [g46_17, rst_cons (by omega) (by omega)]
    by_cases q : k0 + 9 ≤ k
    · simp only [g46_18, g46_19, g46_21, g46_22, g46_25, g46_26, g46_27, g46_30, g46_33, g46_36, g46_39, g46_40, mx_isr_ref, mx_isr_null, mx_wt_nil, mx_wt_1, mx_wt_2, mx_wt_3, Option.bind_some, Option.toList_some, Option.toList_none, List.cons_append, List.nil_append, mx_nl_int, mx_nl_ref, mx_nl_null, mx_nl_none, mx_nb0, mx_nb1, mx_fb0, mx_fb1, mx_cat_int, mx_cat_ref, if_true, if_false, not_true_eq_false, not_false_eq_true, mx_wt_4, mx_w4_0, mx_w9_0, mx_w9_1, mx_kn_int, mx_kn_ref, mx_kn_null, Nat.reduceLT, ofn, n10, z9, nI_leI (show k0 + 9 < 2 ^ 31 by omega) (show k < 2 ^ 31 by omega), q, show k0 + 9 - k = 0 by omega, List.take_zero, List.length_nil, Nat.add_zero]
    · by_cases hL : isDig (ls.getD k 0) = true
      · rw [if_pos ⟨by omega, hL⟩] at L
        simp only [g46_18, g46_19, g46_21, g46_22, g46_25, g46_26, g46_27, g46_30, g46_33, g46_36, mx_isr_ref, mx_isr_null, mx_wt_nil, mx_wt_1, mx_wt_2, mx_wt_3, Option.bind_some, Option.toList_some, Option.toList_none, List.cons_append, List.nil_append, mx_nl_int, mx_nl_ref, mx_nl_null, mx_nl_none, mx_nb0, mx_nb1, mx_fb0, mx_fb1, mx_cat_int, mx_cat_ref, if_true, if_false, not_true_eq_false, not_false_eq_true, mx_wt_4, mx_w4_0, mx_w9_0, mx_w9_1, mx_kn_int, mx_kn_ref, mx_kn_null, Nat.reduceLT, ofn, n10, z9, nI_leI (show k0 + 9 < 2 ^ 31 by omega) (show k < 2 ^ 31 by omega), q, t4, L, nI_1]
        rw [ih (k + 1) (by omega) (by omega) h200, List.takeWhile_cons_of_pos hL, show k0 + 9 - k = (k0 + 9 - (k + 1)) + 1 by omega, List.take_succ_cons, List.length_cons]
        simp only [Nat.add_assoc, Nat.add_comm 1]
      · rw [if_neg (fun z => hL z.2)] at L
        simp only [g46_18, g46_19, g46_21, g46_22, g46_25, g46_26, g46_27, g46_30, g46_33, g46_36, g46_39, g46_40, mx_isr_ref, mx_isr_null, mx_wt_nil, mx_wt_1, mx_wt_2, mx_wt_3, Option.bind_some, Option.toList_some, Option.toList_none, List.cons_append, List.nil_append, mx_nl_int, mx_nl_ref, mx_nl_null, mx_nl_none, mx_nb0, mx_nb1, mx_fb0, mx_fb1, mx_cat_int, mx_cat_ref, if_true, if_false, not_true_eq_false, not_false_eq_true, mx_wt_4, mx_w4_0, mx_w9_0, mx_w9_1, mx_kn_int, mx_kn_ref, mx_kn_null, Nat.reduceLT, ofn, n10, z9, nI_leI (show k0 + 9 < 2 ^ 31 by omega) (show k < 2 ^ 31 by omega), q, t4, L]
        rw [List.takeWhile_cons_of_neg hL, List.take_nil]
        rfl
theorem jc_num (B : BF h ls u ks ss es t c) {k : Nat} (hk : k < u) : mx_G (d + 2) 46 0 [some (.ref 64), some (.int (nI k)), none] [] h = some (some (.int (nI (k + (lx_num (rst ls u k)).length))), h) := by
  obtain ⟨t4, l4, e0, e1, e2, e3, e4, e5, e6, e7, t5, l5, x5, t6, l6, x6, t7, l7, x7, t8, l8, x8⟩ := BF_f B
  have hu := B.2.2.2.2.2.2.2.2.2.1
  have hl := B.2.2.2.2.2.1
  have hc := gd_lt B.2.2.2.2.2.2.2.2.2.2 k
  have hr := rst_cons (k := k) hk (show u ≤ ls.length by omega)
  unfold lx_num
  by_cases h48 : ls.getD k 0 = 48
  · have q : nI (ls.getD k 0) = 48 := by rw [h48]; rfl
    simp only [g46_0, g46_1, g46_4, g46_5, g46_6, g46_8, g46_11, g46_12, g46_13, g46_14, mx_isr_ref, mx_isr_null, mx_wt_nil, mx_wt_1, mx_wt_2, mx_wt_3, Option.bind_some, Option.toList_some, Option.toList_none, List.cons_append, List.nil_append, mx_nl_int, mx_nl_ref, mx_nl_null, mx_nl_none, mx_nb0, mx_nb1, mx_fb0, mx_fb1, mx_cat_int, mx_cat_ref, if_true, if_false, not_true_eq_false, not_false_eq_true, mx_wt_4, mx_w4_0, mx_w9_0, mx_w9_1, mx_kn_int, mx_kn_ref, mx_kn_null, Nat.reduceLT, ofn, n10, t4, l4, e0, t5, l5, nI_pos' (show k < 2 ^ 31 by omega), nI_clamp (show k < 2 ^ 31 by omega), show k < 120 by omega, x5 k (by omega), q, nI_1]
    rw [hr, h48]
    rfl
  · have q : ¬ nI (ls.getD k 0) = 48 := fun z => h48 ((nI_eq (b := 48) (by omega) (by decide)).mp z)
    have i := jc_numL (d := d) B (k0 := k) (u - k) k (by omega) (Nat.le_refl _) (by omega)
    simp only [g46_0, g46_1, g46_4, g46_5, g46_6, g46_8, g46_11, g46_12, g46_13, g46_14, g46_15, g46_16, mx_isr_ref, mx_isr_null, mx_wt_nil, mx_wt_1, mx_wt_2, mx_wt_3, Option.bind_some, Option.toList_some, Option.toList_none, List.cons_append, List.nil_append, mx_nl_int, mx_nl_ref, mx_nl_null, mx_nl_none, mx_nb0, mx_nb1, mx_fb0, mx_fb1, mx_cat_int, mx_cat_ref, if_true, if_false, not_true_eq_false, not_false_eq_true, mx_wt_4, mx_w4_0, mx_w9_0, mx_w9_1, mx_kn_int, mx_kn_ref, mx_kn_null, Nat.reduceLT, ofn, n10, t4, l4, e0, t5, l5, nI_pos' (show k < 2 ^ 31 by omega), nI_clamp (show k < 2 ^ 31 by omega), show k < 120 by omega, x5 k (by omega), q]
    rw [i, show k + 9 - k = 9 by omega, if_neg (by rw [hr]; simpa using h48)]
end
