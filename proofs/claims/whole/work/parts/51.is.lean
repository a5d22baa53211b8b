section
variable {d : Nat} {h : mx_H} {ts : List tk}
/-- the token at t -/
def tA (ts : List tk) (t : Nat) : tk := ts.getD t (0, [])
def tI (ts : List tk) (t c : Nat) : Bool := (tA ts t).1 == c
def tW (ts : List tk) (t : Nat) (w : List Nat) : Bool := tA ts t == (1, w)
def tk_ok (q : tk) : Prop := (q.1 = 1 ∧ ∀ c ∈ q.2, 97 ≤ c ∧ c ≤ 122) ∨ q.1 = 2 ∨ (q.1 = 3 ∧ ∀ c ∈ q.2, c < 128) ∨ 10 ≤ q.1
def rm_TK (h : mx_H) (ts : List tk) : Prop := rm_TS h ts ∧ ∀ q ∈ ts, tk_ok q
theorem lg_cmp0 (x y : Int64) : (lg_cmp x y = 0) = (x = y) := by
  unfold lg_cmp
  apply propext
  constructor
  · intro z
    split at z
    · cases z
    · split at z
      · rename_i e
        first | exact e | exact e.symm | simpa using e
      · cases z
  · intro z
    subst z
    simp
theorem lN_big {m : Nat} (h : m < 2 ^ 63) : (lN m).toInt = (m : Int) := by
  unfold lN
  first | exact Int64.toInt_ofNat_of_lt h | (rw [Int64.toInt_ofNat]; omega) | simp [h]
theorem snoc_rec {α : Type} {P : List α → Prop} (h0 : P []) (hs : ∀ l c, P l → P (l ++ [c])) (l : List α) : P l := by
  have key : ∀ m : List α, P m.reverse := by
    intro m
    induction m with
    | nil => exact h0
    | cons c m ih => rw [List.reverse_cons]; exact hs _ _ ih
  have := key l.reverse
  rw [List.reverse_reverse] at this
  exact this
theorem lN_inj {a b : Nat} (ha : a < 2 ^ 62) (hb : b < 2 ^ 62) : lN a = lN b ↔ a = b := by
  constructor
  · intro z
    have := congrArg Int64.toInt z
    rw [lN_big (by omega), lN_big (by omega)] at this
    omega
  · intro z; rw [z]
theorem tA_ge {t : Nat} (h : ts.length ≤ t) : tA ts t = (0, []) := by
  unfold tA
  rw [List.getD_eq_getElem?_getD, List.getElem?_eq_none h]
  rfl
theorem tA_mem {t : Nat} (h : t < ts.length) : tA ts t ∈ ts := by
  unfold tA
  rw [List.getD_eq_getElem?_getD, List.getElem?_eq_getElem h]
  exact List.getElem_mem h
theorem rm_is (S : rm_TS h ts) {t c : Nat} (ht : t < 2 ^ 30) (hc : 10 ≤ c) (hc2 : c < 128) : mx_G d 249 0 [some (.ref 76), some (.int (nI t)), some (.int (nI c))] [] h = some (some (.int (if tI ts t c = true then 1 else 0)), h) := by
  obtain ⟨T, hl, s1, s2⟩ := S
  by_cases htl : t < ts.length
  · have e1 : ¬ nI ts.length ≤ nI t := nI_ge htl (by omega)
    have t1 : (nI t).toNatClampNeg = t := nI_clamp (by omega)
    have t2 : (0 : Int32) ≤ nI t := nI_pos' (by omega)
    have t3 : t < 130 := by omega
    have el : (nI c).toInt64 = lN c := nI_l (by omega)
    have hk := s2 t htl
    rw [show ts.getD t (0, []) = tA ts t from rfl] at hk
    rcases hk with ⟨a, b, -⟩ | ⟨a, b, -⟩ | ⟨a, b, -⟩ | ⟨a, a', b, e⟩
    · have hi : tI ts t c = false := by unfold tI; rw [a]; exact beq_false_of_ne (by omega)
      simp only [r249_0, r249_1, r249_2, r249_5, r249_8, r249_9, r249_12, r249_13, r249_14, r249_15, r249_18, r249_19, r249_22, r249_23, r249_24, r249_25, r249_26, r249_27, r249_30, r249_31, r249_34, r249_35, mx_isr_ref, mx_isr_null, mx_wt_nil, mx_wt_1, mx_wt_2, mx_wt_3, Option.bind_some, Option.toList_some, Option.toList_none, List.cons_append, List.nil_append, mx_nl_int, mx_nl_ref, mx_nl_null, mx_nl_none, mx_nb0, mx_nb1, mx_cat_int, mx_cat_ref, if_true, if_false, not_true_eq_false, not_false_eq_true, T, s1, e1, mr_ty_77, mr_n_77, mr_isI_77, mr_ty_78, mr_n_78, mr_isI_78, mr_ty_79, mr_n_79, mr_isI_79, mr_ty_80, mr_n_80, mr_isI_80, mr_ty_81, mr_n_81, mr_isI_81, mr_ty_82, mr_n_82, mr_isJ_82, mr_ty_83, mr_n_83, mr_isI_83, mr_ty_84, mr_n_84, mr_isI_84, mr_ty_85, mr_n_85, mr_isI_85, mr_ty_86, mr_n_86, mr_isI_86, mr_ty_87, mr_n_87, mr_isI_87, mr_ty_88, mr_n_88, mr_isI_88, mr_ty_89, mr_n_89, mr_isJ_89, mr_ty_90, mr_n_90, mr_isI_90, mr_ty_91, mr_n_91, mr_isI_91, mr_ty_92, mr_n_92, mr_isI_92, mr_ty_93, mr_n_93, mr_isI_93, mr_ty_94, mr_n_94, mr_isI_94, mr_ty_95, mr_n_95, mr_isI_95, mr_ty_96, mr_n_96, mr_isI_96, mr_ty_97, mr_n_97, mr_isI_97, mr_ty_98, mr_n_98, mr_isI_98, mr_ty_99, mr_n_99, mr_isI_99, mr_ty_100, mr_n_100, mr_isI_100, mr_ty_101, mr_n_101, mr_isI_101, mr_isF_1, mr_isF_3, mr_isF_4, mr_isF_10, mr_isF_12, mr_isF_18, mr_isF_19, mr_isF_21, mr_isF_22, mr_isF_23, mr_isF_26, mr_isF_34, mr_isF_37, mr_isF_38, mr_isF_39, mr_T_up, mr_T_upJ, mr_T_f, t1, t2, t3, b, hi, show ¬ (1 : Int32) = 4 by decide, Bool.false_eq_true]
    · have hi : tI ts t c = false := by unfold tI; rw [a]; exact beq_false_of_ne (by omega)
      simp only [r249_0, r249_1, r249_2, r249_5, r249_8, r249_9, r249_12, r249_13, r249_14, r249_15, r249_18, r249_19, r249_22, r249_23, r249_24, r249_25, r249_26, r249_27, r249_30, r249_31, r249_34, r249_35, mx_isr_ref, mx_isr_null, mx_wt_nil, mx_wt_1, mx_wt_2, mx_wt_3, Option.bind_some, Option.toList_some, Option.toList_none, List.cons_append, List.nil_append, mx_nl_int, mx_nl_ref, mx_nl_null, mx_nl_none, mx_nb0, mx_nb1, mx_cat_int, mx_cat_ref, if_true, if_false, not_true_eq_false, not_false_eq_true, T, s1, e1, mr_ty_77, mr_n_77, mr_isI_77, mr_ty_78, mr_n_78, mr_isI_78, mr_ty_79, mr_n_79, mr_isI_79, mr_ty_80, mr_n_80, mr_isI_80, mr_ty_81, mr_n_81, mr_isI_81, mr_ty_82, mr_n_82, mr_isJ_82, mr_ty_83, mr_n_83, mr_isI_83, mr_ty_84, mr_n_84, mr_isI_84, mr_ty_85, mr_n_85, mr_isI_85, mr_ty_86, mr_n_86, mr_isI_86, mr_ty_87, mr_n_87, mr_isI_87, mr_ty_88, mr_n_88, mr_isI_88, mr_ty_89, mr_n_89, mr_isJ_89, mr_ty_90, mr_n_90, mr_isI_90, mr_ty_91, mr_n_91, mr_isI_91, mr_ty_92, mr_n_92, mr_isI_92, mr_ty_93, mr_n_93, mr_isI_93, mr_ty_94, mr_n_94, mr_isI_94, mr_ty_95, mr_n_95, mr_isI_95, mr_ty_96, mr_n_96, mr_isI_96, mr_ty_97, mr_n_97, mr_isI_97, mr_ty_98, mr_n_98, mr_isI_98, mr_ty_99, mr_n_99, mr_isI_99, mr_ty_100, mr_n_100, mr_isI_100, mr_ty_101, mr_n_101, mr_isI_101, mr_isF_1, mr_isF_3, mr_isF_4, mr_isF_10, mr_isF_12, mr_isF_18, mr_isF_19, mr_isF_21, mr_isF_22, mr_isF_23, mr_isF_26, mr_isF_34, mr_isF_37, mr_isF_38, mr_isF_39, mr_T_up, mr_T_upJ, mr_T_f, t1, t2, t3, b, hi, show ¬ (2 : Int32) = 4 by decide, Bool.false_eq_true]
    · have hi : tI ts t c = false := by unfold tI; rw [a]; exact beq_false_of_ne (by omega)
      simp only [r249_0, r249_1, r249_2, r249_5, r249_8, r249_9, r249_12, r249_13, r249_14, r249_15, r249_18, r249_19, r249_22, r249_23, r249_24, r249_25, r249_26, r249_27, r249_30, r249_31, r249_34, r249_35, mx_isr_ref, mx_isr_null, mx_wt_nil, mx_wt_1, mx_wt_2, mx_wt_3, Option.bind_some, Option.toList_some, Option.toList_none, List.cons_append, List.nil_append, mx_nl_int, mx_nl_ref, mx_nl_null, mx_nl_none, mx_nb0, mx_nb1, mx_cat_int, mx_cat_ref, if_true, if_false, not_true_eq_false, not_false_eq_true, T, s1, e1, mr_ty_77, mr_n_77, mr_isI_77, mr_ty_78, mr_n_78, mr_isI_78, mr_ty_79, mr_n_79, mr_isI_79, mr_ty_80, mr_n_80, mr_isI_80, mr_ty_81, mr_n_81, mr_isI_81, mr_ty_82, mr_n_82, mr_isJ_82, mr_ty_83, mr_n_83, mr_isI_83, mr_ty_84, mr_n_84, mr_isI_84, mr_ty_85, mr_n_85, mr_isI_85, mr_ty_86, mr_n_86, mr_isI_86, mr_ty_87, mr_n_87, mr_isI_87, mr_ty_88, mr_n_88, mr_isI_88, mr_ty_89, mr_n_89, mr_isJ_89, mr_ty_90, mr_n_90, mr_isI_90, mr_ty_91, mr_n_91, mr_isI_91, mr_ty_92, mr_n_92, mr_isI_92, mr_ty_93, mr_n_93, mr_isI_93, mr_ty_94, mr_n_94, mr_isI_94, mr_ty_95, mr_n_95, mr_isI_95, mr_ty_96, mr_n_96, mr_isI_96, mr_ty_97, mr_n_97, mr_isI_97, mr_ty_98, mr_n_98, mr_isI_98, mr_ty_99, mr_n_99, mr_isI_99, mr_ty_100, mr_n_100, mr_isI_100, mr_ty_101, mr_n_101, mr_isI_101, mr_isF_1, mr_isF_3, mr_isF_4, mr_isF_10, mr_isF_12, mr_isF_18, mr_isF_19, mr_isF_21, mr_isF_22, mr_isF_23, mr_isF_26, mr_isF_34, mr_isF_37, mr_isF_38, mr_isF_39, mr_T_up, mr_T_upJ, mr_T_f, t1, t2, t3, b, hi, show ¬ (3 : Int32) = 4 by decide, Bool.false_eq_true]
    · by_cases hi : (tA ts t).1 = c
      · have hi' : tI ts t c = true := by unfold tI; rw [hi]; exact beq_self_eq_true c
        simp only [r249_0, r249_1, r249_2, r249_5, r249_8, r249_9, r249_12, r249_13, r249_14, r249_15, r249_18, r249_19, r249_22, r249_23, r249_24, r249_25, r249_26, r249_27, r249_30, r249_31, r249_34, r249_35, mx_isr_ref, mx_isr_null, mx_wt_nil, mx_wt_1, mx_wt_2, mx_wt_3, Option.bind_some, Option.toList_some, Option.toList_none, List.cons_append, List.nil_append, mx_nl_int, mx_nl_ref, mx_nl_null, mx_nl_none, mx_nb0, mx_nb1, mx_cat_int, mx_cat_ref, if_true, if_false, not_true_eq_false, not_false_eq_true, T, s1, e1, mr_ty_77, mr_n_77, mr_isI_77, mr_ty_78, mr_n_78, mr_isI_78, mr_ty_79, mr_n_79, mr_isI_79, mr_ty_80, mr_n_80, mr_isI_80, mr_ty_81, mr_n_81, mr_isI_81, mr_ty_82, mr_n_82, mr_isJ_82, mr_ty_83, mr_n_83, mr_isI_83, mr_ty_84, mr_n_84, mr_isI_84, mr_ty_85, mr_n_85, mr_isI_85, mr_ty_86, mr_n_86, mr_isI_86, mr_ty_87, mr_n_87, mr_isI_87, mr_ty_88, mr_n_88, mr_isI_88, mr_ty_89, mr_n_89, mr_isJ_89, mr_ty_90, mr_n_90, mr_isI_90, mr_ty_91, mr_n_91, mr_isI_91, mr_ty_92, mr_n_92, mr_isI_92, mr_ty_93, mr_n_93, mr_isI_93, mr_ty_94, mr_n_94, mr_isI_94, mr_ty_95, mr_n_95, mr_isI_95, mr_ty_96, mr_n_96, mr_isI_96, mr_ty_97, mr_n_97, mr_isI_97, mr_ty_98, mr_n_98, mr_isI_98, mr_ty_99, mr_n_99, mr_isI_99, mr_ty_100, mr_n_100, mr_isI_100, mr_ty_101, mr_n_101, mr_isI_101, mr_isF_1, mr_isF_3, mr_isF_4, mr_isF_10, mr_isF_12, mr_isF_18, mr_isF_19, mr_isF_21, mr_isF_22, mr_isF_23, mr_isF_26, mr_isF_34, mr_isF_37, mr_isF_38, mr_isF_39, mr_T_up, mr_T_upJ, mr_T_f, t1, t2, t3, b, e, el, hi, hi', lg_cmp0]
      · have hi' : tI ts t c = false := by unfold tI; exact beq_false_of_ne hi
        have ne : ¬ lN (tA ts t).1 = lN c := fun z => hi ((lN_inj (by omega) (by omega)).mp z)
        simp only [r249_0, r249_1, r249_2, r249_5, r249_8, r249_9, r249_12, r249_13, r249_14, r249_15, r249_18, r249_19, r249_22, r249_23, r249_24, r249_25, r249_26, r249_27, r249_30, r249_31, r249_34, r249_35, mx_isr_ref, mx_isr_null, mx_wt_nil, mx_wt_1, mx_wt_2, mx_wt_3, Option.bind_some, Option.toList_some, Option.toList_none, List.cons_append, List.nil_append, mx_nl_int, mx_nl_ref, mx_nl_null, mx_nl_none, mx_nb0, mx_nb1, mx_cat_int, mx_cat_ref, if_true, if_false, not_true_eq_false, not_false_eq_true, T, s1, e1, mr_ty_77, mr_n_77, mr_isI_77, mr_ty_78, mr_n_78, mr_isI_78, mr_ty_79, mr_n_79, mr_isI_79, mr_ty_80, mr_n_80, mr_isI_80, mr_ty_81, mr_n_81, mr_isI_81, mr_ty_82, mr_n_82, mr_isJ_82, mr_ty_83, mr_n_83, mr_isI_83, mr_ty_84, mr_n_84, mr_isI_84, mr_ty_85, mr_n_85, mr_isI_85, mr_ty_86, mr_n_86, mr_isI_86, mr_ty_87, mr_n_87, mr_isI_87, mr_ty_88, mr_n_88, mr_isI_88, mr_ty_89, mr_n_89, mr_isJ_89, mr_ty_90, mr_n_90, mr_isI_90, mr_ty_91, mr_n_91, mr_isI_91, mr_ty_92, mr_n_92, mr_isI_92, mr_ty_93, mr_n_93, mr_isI_93, mr_ty_94, mr_n_94, mr_isI_94, mr_ty_95, mr_n_95, mr_isI_95, mr_ty_96, mr_n_96, mr_isI_96, mr_ty_97, mr_n_97, mr_isI_97, mr_ty_98, mr_n_98, mr_isI_98, mr_ty_99, mr_n_99, mr_isI_99, mr_ty_100, mr_n_100, mr_isI_100, mr_ty_101, mr_n_101, mr_isI_101, mr_isF_1, mr_isF_3, mr_isF_4, mr_isF_10, mr_isF_12, mr_isF_18, mr_isF_19, mr_isF_21, mr_isF_22, mr_isF_23, mr_isF_26, mr_isF_34, mr_isF_37, mr_isF_38, mr_isF_39, mr_T_up, mr_T_upJ, mr_T_f, t1, t2, t3, b, e, el, hi', lg_cmp0, ne, Bool.false_eq_true]
  · have e1 : nI ts.length ≤ nI t := nI_le (by omega) (by omega)
    have hi : tI ts t c = false := by unfold tI; rw [tA_ge (by omega)]; exact beq_false_of_ne (by show (0 : Nat) ≠ c; omega)
    simp only [r249_0, r249_1, r249_2, r249_5, r249_8, r249_9, r249_12, r249_13, r249_14, r249_15, r249_18, r249_19, r249_22, r249_23, r249_24, r249_25, r249_26, r249_27, r249_30, r249_31, r249_34, r249_35, mx_isr_ref, mx_isr_null, mx_wt_nil, mx_wt_1, mx_wt_2, mx_wt_3, Option.bind_some, Option.toList_some, Option.toList_none, List.cons_append, List.nil_append, mx_nl_int, mx_nl_ref, mx_nl_null, mx_nl_none, mx_nb0, mx_nb1, mx_cat_int, mx_cat_ref, if_true, if_false, not_true_eq_false, not_false_eq_true, T, s1, e1, hi, Bool.false_eq_true]
theorem enc_lt (l : List Nat) : l.length ≤ 9 → (∀ c ∈ l, 97 ≤ c ∧ c ≤ 122) → enc l < 27 ^ l.length := by
  refine snoc_rec (P := fun l => l.length ≤ 9 → (∀ c ∈ l, 97 ≤ c ∧ c ≤ 122) → enc l < 27 ^ l.length) ?_ ?_ l
  · intro _ _; decide
  · intro l c ih h9 hc
    have i := ih (by simp at h9; omega) (fun x hx => hc x (by simp [hx]))
    have hcc := hc c (by simp)
    rw [enc_app, List.length_append, List.length_singleton, Nat.pow_succ]
    omega
theorem enc_inj (l : List Nat) : ∀ m : List Nat, (∀ c ∈ l, 97 ≤ c ∧ c ≤ 122) → (∀ c ∈ m, 97 ≤ c ∧ c ≤ 122) → enc l = enc m → l = m := by
  have e0 : enc ([] : List Nat) = 0 := rfl
  refine snoc_rec (P := fun l => ∀ m : List Nat, (∀ c ∈ l, 97 ≤ c ∧ c ≤ 122) → (∀ c ∈ m, 97 ≤ c ∧ c ≤ 122) → enc l = enc m → l = m) ?_ ?_ l
  · intro m
    refine snoc_rec (P := fun m => (∀ c ∈ ([] : List Nat), 97 ≤ c ∧ c ≤ 122) → (∀ c ∈ m, 97 ≤ c ∧ c ≤ 122) → enc [] = enc m → [] = m) ?_ ?_ m
    · intro _ _ _; rfl
    · intro m c _ _ hm he
      have hcc := hm c (by simp)
      rw [enc_app] at he
      omega
  · intro l c ih m hl
    have hcc := hl c (by simp)
    refine snoc_rec (P := fun m => (∀ c ∈ m, 97 ≤ c ∧ c ≤ 122) → enc (l ++ [c]) = enc m → l ++ [c] = m) ?_ ?_ m
    · intro _ he
      rw [enc_app] at he
      omega
    · intro m e _ hm he
      have hee := hm e (by simp)
      rw [enc_app, enc_app] at he
      have e1 : enc l = enc m := by omega
      have e2 : c = e := by omega
      rw [ih m (fun x hx => hl x (by simp [hx])) (fun x hx => hm x (by simp [hx])) e1, e2]
theorem w27_eq {l w : List Nat} (hl : ∀ c ∈ l, 97 ≤ c ∧ c ≤ 122) (hw : ∀ c ∈ w, 97 ≤ c ∧ c ≤ 122) (h9 : w.length ≤ 9) : (w27 l = lN (enc w)) = (l = w) := by
  apply propext
  have b1 := enc_lt w h9 hw
  have b2 : 27 ^ w.length ≤ 27 ^ 9 := Nat.pow_le_pow_right (by decide) h9
  have b3 : (27 : Nat) ^ 9 < 2 ^ 62 := by decide
  unfold w27
  by_cases hlen : l.length ≤ 9
  · rw [if_pos hlen]
    have c1 := enc_lt l hlen hl
    have c2 : 27 ^ l.length ≤ 27 ^ 9 := Nat.pow_le_pow_right (by decide) hlen
    rw [lN_inj (by omega) (by omega)]
    exact ⟨enc_inj l w hl hw, fun z => by rw [z]⟩
  · rw [if_neg hlen]
    refine ⟨fun z => ?_, fun z => absurd (by rw [z]; exact h9) hlen⟩
    have := congrArg Int64.toInt z
    rw [lN_big (by omega), show (-1 : Int64).toInt = -1 from by decide] at this
    omega
theorem rm_says (S : rm_TK h ts) {t : Nat} {w : List Nat} {u : Int64} (ht : t < 2 ^ 30) (hu : u = lN (enc w)) (hw : ∀ c ∈ w, 97 ≤ c ∧ c ≤ 122) (h9 : w.length ≤ 9) : mx_G d 254 0 [some (.ref 76), some (.int (nI t)), some (.long u), none] [] h = some (some (.int (if tW ts t w = true then 1 else 0)), h) := by
  obtain ⟨⟨T, hl, s1, s2⟩, hok⟩ := S
  subst hu
  by_cases htl : t < ts.length
  · have e1 : ¬ nI ts.length ≤ nI t := nI_ge htl (by omega)
    have t1 : (nI t).toNatClampNeg = t := nI_clamp (by omega)
    have t2 : (0 : Int32) ≤ nI t := nI_pos' (by omega)
    have t3 : t < 130 := by omega
    have hk := s2 t htl
    rw [show ts.getD t (0, []) = tA ts t from rfl] at hk
    have ho := hok _ (tA_mem htl)
    have hno : (tA ts t).1 ≠ 1 → tW ts t w = false := fun hne => by
      unfold tW
      refine beq_false_of_ne (fun z => hne ?_)
      rw [z]
    rcases hk with ⟨a, b, e⟩ | ⟨a, b, -⟩ | ⟨a, b, -⟩ | ⟨a, a', b, e⟩
    · have hlet : ∀ c ∈ (tA ts t).2, 97 ≤ c ∧ c ≤ 122 := by
        rcases ho with z | z | z | z
        · exact z.2
        · omega
        · omega
        · omega
      have hw27 := w27_eq hlet hw h9
      by_cases hi : (tA ts t).2 = w
      · have hi' : tW ts t w = true := by
          unfold tW
          rw [show tA ts t = ((tA ts t).1, (tA ts t).2) from rfl, a, hi]
          exact beq_self_eq_true _
        simp only [r254_0, r254_1, r254_2, r254_5, r254_8, r254_9, r254_12, r254_13, r254_14, r254_15, r254_18, r254_19, r254_22, r254_23, r254_24, r254_25, r254_26, r254_29, r254_30, r254_33, r254_34, mx_isr_ref, mx_isr_null, mx_wt_nil, mx_wt_1, mx_wt_2, mx_wt_3, Option.bind_some, Option.toList_some, Option.toList_none, List.cons_append, List.nil_append, mx_nl_int, mx_nl_ref, mx_nl_null, mx_nl_none, mx_nb0, mx_nb1, mx_cat_int, mx_cat_ref, if_true, if_false, not_true_eq_false, not_false_eq_true, T, s1, e1, mr_ty_77, mr_n_77, mr_isI_77, mr_ty_78, mr_n_78, mr_isI_78, mr_ty_79, mr_n_79, mr_isI_79, mr_ty_80, mr_n_80, mr_isI_80, mr_ty_81, mr_n_81, mr_isI_81, mr_ty_82, mr_n_82, mr_isJ_82, mr_ty_83, mr_n_83, mr_isI_83, mr_ty_84, mr_n_84, mr_isI_84, mr_ty_85, mr_n_85, mr_isI_85, mr_ty_86, mr_n_86, mr_isI_86, mr_ty_87, mr_n_87, mr_isI_87, mr_ty_88, mr_n_88, mr_isI_88, mr_ty_89, mr_n_89, mr_isJ_89, mr_ty_90, mr_n_90, mr_isI_90, mr_ty_91, mr_n_91, mr_isI_91, mr_ty_92, mr_n_92, mr_isI_92, mr_ty_93, mr_n_93, mr_isI_93, mr_ty_94, mr_n_94, mr_isI_94, mr_ty_95, mr_n_95, mr_isI_95, mr_ty_96, mr_n_96, mr_isI_96, mr_ty_97, mr_n_97, mr_isI_97, mr_ty_98, mr_n_98, mr_isI_98, mr_ty_99, mr_n_99, mr_isI_99, mr_ty_100, mr_n_100, mr_isI_100, mr_ty_101, mr_n_101, mr_isI_101, mr_isF_1, mr_isF_3, mr_isF_4, mr_isF_10, mr_isF_12, mr_isF_18, mr_isF_19, mr_isF_21, mr_isF_22, mr_isF_23, mr_isF_26, mr_isF_34, mr_isF_37, mr_isF_38, mr_isF_39, mr_T_up, mr_T_upJ, mr_T_f, t1, t2, t3, b, e, lg_cmp0, hw27, eq_true hi, hi']
      · have hi' : tW ts t w = false := by
          unfold tW
          refine beq_false_of_ne (fun z => hi ?_)
          rw [z]
        simp only [r254_0, r254_1, r254_2, r254_5, r254_8, r254_9, r254_12, r254_13, r254_14, r254_15, r254_18, r254_19, r254_22, r254_23, r254_24, r254_25, r254_26, r254_29, r254_30, r254_33, r254_34, mx_isr_ref, mx_isr_null, mx_wt_nil, mx_wt_1, mx_wt_2, mx_wt_3, Option.bind_some, Option.toList_some, Option.toList_none, List.cons_append, List.nil_append, mx_nl_int, mx_nl_ref, mx_nl_null, mx_nl_none, mx_nb0, mx_nb1, mx_cat_int, mx_cat_ref, if_true, if_false, not_true_eq_false, not_false_eq_true, T, s1, e1, mr_ty_77, mr_n_77, mr_isI_77, mr_ty_78, mr_n_78, mr_isI_78, mr_ty_79, mr_n_79, mr_isI_79, mr_ty_80, mr_n_80, mr_isI_80, mr_ty_81, mr_n_81, mr_isI_81, mr_ty_82, mr_n_82, mr_isJ_82, mr_ty_83, mr_n_83, mr_isI_83, mr_ty_84, mr_n_84, mr_isI_84, mr_ty_85, mr_n_85, mr_isI_85, mr_ty_86, mr_n_86, mr_isI_86, mr_ty_87, mr_n_87, mr_isI_87, mr_ty_88, mr_n_88, mr_isI_88, mr_ty_89, mr_n_89, mr_isJ_89, mr_ty_90, mr_n_90, mr_isI_90, mr_ty_91, mr_n_91, mr_isI_91, mr_ty_92, mr_n_92, mr_isI_92, mr_ty_93, mr_n_93, mr_isI_93, mr_ty_94, mr_n_94, mr_isI_94, mr_ty_95, mr_n_95, mr_isI_95, mr_ty_96, mr_n_96, mr_isI_96, mr_ty_97, mr_n_97, mr_isI_97, mr_ty_98, mr_n_98, mr_isI_98, mr_ty_99, mr_n_99, mr_isI_99, mr_ty_100, mr_n_100, mr_isI_100, mr_ty_101, mr_n_101, mr_isI_101, mr_isF_1, mr_isF_3, mr_isF_4, mr_isF_10, mr_isF_12, mr_isF_18, mr_isF_19, mr_isF_21, mr_isF_22, mr_isF_23, mr_isF_26, mr_isF_34, mr_isF_37, mr_isF_38, mr_isF_39, mr_T_up, mr_T_upJ, mr_T_f, t1, t2, t3, b, e, lg_cmp0, hw27, hi, hi', Bool.false_eq_true]
    · simp only [r254_0, r254_1, r254_2, r254_5, r254_8, r254_9, r254_12, r254_13, r254_14, r254_15, r254_18, r254_19, r254_22, r254_23, r254_24, r254_25, r254_26, r254_29, r254_30, r254_33, r254_34, mx_isr_ref, mx_isr_null, mx_wt_nil, mx_wt_1, mx_wt_2, mx_wt_3, Option.bind_some, Option.toList_some, Option.toList_none, List.cons_append, List.nil_append, mx_nl_int, mx_nl_ref, mx_nl_null, mx_nl_none, mx_nb0, mx_nb1, mx_cat_int, mx_cat_ref, if_true, if_false, not_true_eq_false, not_false_eq_true, T, s1, e1, mr_ty_77, mr_n_77, mr_isI_77, mr_ty_78, mr_n_78, mr_isI_78, mr_ty_79, mr_n_79, mr_isI_79, mr_ty_80, mr_n_80, mr_isI_80, mr_ty_81, mr_n_81, mr_isI_81, mr_ty_82, mr_n_82, mr_isJ_82, mr_ty_83, mr_n_83, mr_isI_83, mr_ty_84, mr_n_84, mr_isI_84, mr_ty_85, mr_n_85, mr_isI_85, mr_ty_86, mr_n_86, mr_isI_86, mr_ty_87, mr_n_87, mr_isI_87, mr_ty_88, mr_n_88, mr_isI_88, mr_ty_89, mr_n_89, mr_isJ_89, mr_ty_90, mr_n_90, mr_isI_90, mr_ty_91, mr_n_91, mr_isI_91, mr_ty_92, mr_n_92, mr_isI_92, mr_ty_93, mr_n_93, mr_isI_93, mr_ty_94, mr_n_94, mr_isI_94, mr_ty_95, mr_n_95, mr_isI_95, mr_ty_96, mr_n_96, mr_isI_96, mr_ty_97, mr_n_97, mr_isI_97, mr_ty_98, mr_n_98, mr_isI_98, mr_ty_99, mr_n_99, mr_isI_99, mr_ty_100, mr_n_100, mr_isI_100, mr_ty_101, mr_n_101, mr_isI_101, mr_isF_1, mr_isF_3, mr_isF_4, mr_isF_10, mr_isF_12, mr_isF_18, mr_isF_19, mr_isF_21, mr_isF_22, mr_isF_23, mr_isF_26, mr_isF_34, mr_isF_37, mr_isF_38, mr_isF_39, mr_T_up, mr_T_upJ, mr_T_f, t1, t2, t3, b, hno (by omega), show ¬ (2 : Int32) = 1 by decide, Bool.false_eq_true]
    · simp only [r254_0, r254_1, r254_2, r254_5, r254_8, r254_9, r254_12, r254_13, r254_14, r254_15, r254_18, r254_19, r254_22, r254_23, r254_24, r254_25, r254_26, r254_29, r254_30, r254_33, r254_34, mx_isr_ref, mx_isr_null, mx_wt_nil, mx_wt_1, mx_wt_2, mx_wt_3, Option.bind_some, Option.toList_some, Option.toList_none, List.cons_append, List.nil_append, mx_nl_int, mx_nl_ref, mx_nl_null, mx_nl_none, mx_nb0, mx_nb1, mx_cat_int, mx_cat_ref, if_true, if_false, not_true_eq_false, not_false_eq_true, T, s1, e1, mr_ty_77, mr_n_77, mr_isI_77, mr_ty_78, mr_n_78, mr_isI_78, mr_ty_79, mr_n_79, mr_isI_79, mr_ty_80, mr_n_80, mr_isI_80, mr_ty_81, mr_n_81, mr_isI_81, mr_ty_82, mr_n_82, mr_isJ_82, mr_ty_83, mr_n_83, mr_isI_83, mr_ty_84, mr_n_84, mr_isI_84, mr_ty_85, mr_n_85, mr_isI_85, mr_ty_86, mr_n_86, mr_isI_86, mr_ty_87, mr_n_87, mr_isI_87, mr_ty_88, mr_n_88, mr_isI_88, mr_ty_89, mr_n_89, mr_isJ_89, mr_ty_90, mr_n_90, mr_isI_90, mr_ty_91, mr_n_91, mr_isI_91, mr_ty_92, mr_n_92, mr_isI_92, mr_ty_93, mr_n_93, mr_isI_93, mr_ty_94, mr_n_94, mr_isI_94, mr_ty_95, mr_n_95, mr_isI_95, mr_ty_96, mr_n_96, mr_isI_96, mr_ty_97, mr_n_97, mr_isI_97, mr_ty_98, mr_n_98, mr_isI_98, mr_ty_99, mr_n_99, mr_isI_99, mr_ty_100, mr_n_100, mr_isI_100, mr_ty_101, mr_n_101, mr_isI_101, mr_isF_1, mr_isF_3, mr_isF_4, mr_isF_10, mr_isF_12, mr_isF_18, mr_isF_19, mr_isF_21, mr_isF_22, mr_isF_23, mr_isF_26, mr_isF_34, mr_isF_37, mr_isF_38, mr_isF_39, mr_T_up, mr_T_upJ, mr_T_f, t1, t2, t3, b, hno (by omega), show ¬ (3 : Int32) = 1 by decide, Bool.false_eq_true]
    · simp only [r254_0, r254_1, r254_2, r254_5, r254_8, r254_9, r254_12, r254_13, r254_14, r254_15, r254_18, r254_19, r254_22, r254_23, r254_24, r254_25, r254_26, r254_29, r254_30, r254_33, r254_34, mx_isr_ref, mx_isr_null, mx_wt_nil, mx_wt_1, mx_wt_2, mx_wt_3, Option.bind_some, Option.toList_some, Option.toList_none, List.cons_append, List.nil_append, mx_nl_int, mx_nl_ref, mx_nl_null, mx_nl_none, mx_nb0, mx_nb1, mx_cat_int, mx_cat_ref, if_true, if_false, not_true_eq_false, not_false_eq_true, T, s1, e1, mr_ty_77, mr_n_77, mr_isI_77, mr_ty_78, mr_n_78, mr_isI_78, mr_ty_79, mr_n_79, mr_isI_79, mr_ty_80, mr_n_80, mr_isI_80, mr_ty_81, mr_n_81, mr_isI_81, mr_ty_82, mr_n_82, mr_isJ_82, mr_ty_83, mr_n_83, mr_isI_83, mr_ty_84, mr_n_84, mr_isI_84, mr_ty_85, mr_n_85, mr_isI_85, mr_ty_86, mr_n_86, mr_isI_86, mr_ty_87, mr_n_87, mr_isI_87, mr_ty_88, mr_n_88, mr_isI_88, mr_ty_89, mr_n_89, mr_isJ_89, mr_ty_90, mr_n_90, mr_isI_90, mr_ty_91, mr_n_91, mr_isI_91, mr_ty_92, mr_n_92, mr_isI_92, mr_ty_93, mr_n_93, mr_isI_93, mr_ty_94, mr_n_94, mr_isI_94, mr_ty_95, mr_n_95, mr_isI_95, mr_ty_96, mr_n_96, mr_isI_96, mr_ty_97, mr_n_97, mr_isI_97, mr_ty_98, mr_n_98, mr_isI_98, mr_ty_99, mr_n_99, mr_isI_99, mr_ty_100, mr_n_100, mr_isI_100, mr_ty_101, mr_n_101, mr_isI_101, mr_isF_1, mr_isF_3, mr_isF_4, mr_isF_10, mr_isF_12, mr_isF_18, mr_isF_19, mr_isF_21, mr_isF_22, mr_isF_23, mr_isF_26, mr_isF_34, mr_isF_37, mr_isF_38, mr_isF_39, mr_T_up, mr_T_upJ, mr_T_f, t1, t2, t3, b, hno (by omega), show ¬ (4 : Int32) = 1 by decide, Bool.false_eq_true]
  · have e1 : nI ts.length ≤ nI t := nI_le (by omega) (by omega)
    have hi : tW ts t w = false := by unfold tW; rw [tA_ge (by omega)]; rfl
    simp only [r254_0, r254_1, r254_2, r254_5, r254_8, r254_9, r254_12, r254_13, r254_14, r254_15, r254_18, r254_19, r254_22, r254_23, r254_24, r254_25, r254_26, r254_29, r254_30, r254_33, r254_34, mx_isr_ref, mx_isr_null, mx_wt_nil, mx_wt_1, mx_wt_2, mx_wt_3, Option.bind_some, Option.toList_some, Option.toList_none, List.cons_append, List.nil_append, mx_nl_int, mx_nl_ref, mx_nl_null, mx_nl_none, mx_nb0, mx_nb1, mx_cat_int, mx_cat_ref, if_true, if_false, not_true_eq_false, not_false_eq_true, T, s1, e1, hi, Bool.false_eq_true]
end
