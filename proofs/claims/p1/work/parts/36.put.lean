/-! put, on both sides. -/
/-- the p-th byte of a word -/
def mb (w : Int32) (p : Nat) : Int32 := (w >>> (nI (8 * p) &&& 31)) &&& 255
def mb_ok (c : Int32) : Bool := decide (c = 10) || (decide (32 ≤ c) && decide (c ≤ 126))
theorem mb_u (w : Int32) {p : Nat} (hp : p < 4) : (w.toUInt32 >>> ((nI (8 * p)).toUInt32 &&& Int32.toUInt32 31)).toInt32 &&& 255 = mb w p := by
  refine b_ext fun i hi => ?_
  unfold mb
  rw [b_and, b_and, b_255, b_ushr _ (by omega), b_sshr _ (by omega) _ hi]
  by_cases h8 : i < 8
  · rw [if_pos (by omega)]
  · simp [h8]
theorem mb_8 : ∀ p, p < 4 → (8 : Int32) * nI p = nI (8 * p) := by decide +kernel
theorem mb_nar (w : Int32) (p : Nat) : narrow .char (.int (mb w p)) = .int (mb w p) := sc_nar _
theorem mb_c2 (w : Int32) (p : Nat) : ((mb w p).toUInt32 % 65536).toInt32 = mb w p := sc_c2 _
section
variable {d : Nat} {h : mx_H}
theorem ps_byteAt (w : Int32) {p : Nat} (hp : p < 4) : mx_G d 12 0 [some (.int w), some (.int (nI p))] [] h = some (some (.int (mb w p)), h) := by
  simp only [g12_0, g12_1, g12_3, g12_4, g12_5, g12_6, g12_9, g12_10, g12_11, mb_8 p hp, mb_u w hp, mb_c2, mb_nar]
theorem ps_allowed (c : Int32) : mx_G d 13 0 [some (.int c)] [] h = some (some (.int (if mb_ok c = true then 1 else 0)), h) := by
  by_cases h1 : c = 10
  · simp only [g13_0, g13_1, g13_3, g13_6, g13_7, g13_9, g13_12, g13_13, g13_15, g13_18, g13_19, g13_22, g13_23, h1, if_true, mb_ok, decide_true, Bool.true_or, mx_nb1]
  · by_cases h2 : c < 32
    · have h3 : ¬ 32 ≤ c := by simpa using h2
      simp only [g13_0, g13_1, g13_3, g13_6, g13_7, g13_9, g13_12, g13_13, g13_15, g13_18, g13_19, g13_22, g13_23, h1, h2, h3, if_true, if_false, mb_ok, decide_false, Bool.false_or, Bool.false_and, Bool.false_eq_true, mx_nb0]
    · have h3 : 32 ≤ c := by simpa using h2
      by_cases h4 : 126 < c
      · have h5 : ¬ c ≤ 126 := by simpa using h4
        simp only [g13_0, g13_1, g13_3, g13_6, g13_7, g13_9, g13_12, g13_13, g13_15, g13_18, g13_19, g13_22, g13_23, h1, h2, h3, h4, h5, if_true, if_false, mb_ok, decide_false, decide_true, Bool.false_or, Bool.and_false, Bool.false_eq_true, mx_nb0]
      · have h5 : c ≤ 126 := by simpa using h4
        simp only [g13_0, g13_1, g13_3, g13_6, g13_7, g13_9, g13_12, g13_13, g13_15, g13_18, g13_19, g13_22, g13_23, h1, h2, h3, h4, h5, if_true, if_false, mb_ok, decide_false, decide_true, Bool.false_or, Bool.and_true, mx_nb1]
/-- the class's buffer, with u characters in it -/
def ps_B (h : mx_H) (u : Nat) : Prop := mx_tag h 63 = some (.inl 0) ∧ mx_ln h 63 = 7 ∧ mx_el h 63 0 = .ref 64 ∧ mx_tag h 64 = some (.inl 1) ∧ mx_ln h 64 = 8 ∧ mx_el h 64 0 = .ref 65 ∧ mx_el h 64 5 = .int (nI u) ∧ mx_tag h 65 = some (.inr .char) ∧ mx_ln h 65 = 120
/-- the model's -/
def rm_B (h : mx_H) (u : Nat) : Prop := mx_tag h 76 = some (.inl 11) ∧ mx_ln h 76 = 40 ∧ mx_el h 76 2 = .ref 78 ∧ mx_el h 76 3 = .int (nI u) ∧ mx_tag h 78 = some (.inr .char) ∧ mx_ln h 78 = 120
def ps_app (w : Int32) : Nat → Nat → mx_H → mx_H
  | 0, _, h => h
  | k + 1, u, h => ps_app w k (u + 1) (mx_up (mx_up h 65 u (.int (mb w k))) 64 5 (.int (nI (u + 1))))
def rm_app (w : Int32) : Nat → Nat → mx_H → mx_H
  | 0, _, h => h
  | k + 1, u, h => rm_app w k (u + 1) (mx_up (mx_up h 78 u (.int (mb w k))) 76 3 (.int (nI (u + 1))))
theorem ps_B_up {u : Nat} {c : Int32} (B : ps_B h u) (v : Nat) (hu : u < 120) : ps_B (mx_up (mx_up h 65 u (.int c)) 64 5 (.int (nI v))) v := by
  obtain ⟨b1, b2, b3, b4, b5, b6, b7, b8, b9⟩ := B
  unfold ps_B
  simp [mx_tag_up, mx_ln_up, mx_el_up, b1, b2, b3, b4, b5, b6, b8, b9]
theorem rm_B_up {u : Nat} {c : Int32} (B : rm_B h u) (v : Nat) (hu : u < 120) : rm_B (mx_up (mx_up h 78 u (.int c)) 76 3 (.int (nI v))) v := by
  obtain ⟨b1, b2, b3, b4, b5, b6⟩ := B
  unfold rm_B
  simp [mx_tag_up, mx_ln_up, mx_el_up, b1, b2, b3, b5, b6]
theorem ps_append {u : Nat} (B : ps_B h u) (hu : u < 120) (w : Int32) (p : Nat) : mx_G d 14 0 [some (.ref 64), some (.int (mb w p))] [] h = some (none, mx_up (mx_up h 65 u (.int (mb w p))) 64 5 (.int (nI (u + 1)))) := by
  obtain ⟨b1, b2, b3, b4, b5, b6, b7, b8, b9⟩ := B
  have e1 : ¬ (120 : Int32) ≤ nI u := nI_ge (b := 120) hu (by decide)
  have e2 : (nI u).toNatClampNeg = u := nI_clamp (by omega)
  have e3 : (0 : Int32) ≤ nI u := nI_pos' (by omega)
  have e4 : mx_el (mx_up h 65 u (.int (mb w p))) 64 5 = .int (nI u) := by simp [mx_el_up, b7]
  simp only [g14_0, g14_1, g14_4, g14_6, g14_9, g14_10, g14_13, g14_14, g14_17, g14_18, g14_19, g14_20, g14_21, g14_24, g14_25, g14_26, g14_29, mx_isr_ref, b4, b5, b6, b7, b8, b9, mx_kn_int, mx_kn_ref, Nat.reduceLT, e1, if_false, show mt_nO ≤ 65 by decide, show mt_nO ≤ 64 by decide, e2, e3, hu, mb_nar, mx_cat_ref, mx_tag_up, mx_ln_up, e4, nI_1]
theorem ps_loop1 {u : Nat} (w n : Int32) : ∀ k, k ≤ 4 → mx_G (d + 1) 10 27 [some (.ref 63), some (.int w), some (.int n), some (.int (nI k - 1))] [] h = if (List.range k).all (fun p => mb_ok (mb w p)) = true then mx_G (d + 1) 10 50 [some (.ref 63), some (.int w), some (.int n), some (.int (-1))] [] h else some (some (.int 0), h) := by
  intro k
  induction k with
  | zero =>
    intro _
    simp only [g10_27, g10_28, show nI 0 - 1 < 0 by decide, if_true, List.range_zero, List.all_nil]
    rfl
  | succ k ih =>
    intro hk
    have hi := ih (by omega)
    have e1 : ¬ nI k < 0 := nI_pos (by omega)
    rw [nI_pred, List.range_succ, List.all_append]
    by_cases hok : mb_ok (mb w k) = true
    · rw [g10_27]
      simp only [g10_28, e1, if_false, g10_31, g10_32, g10_33, mx_wt_nil, ps_byteAt w (show k < 4 by omega), Option.bind_some, Option.toList_some, List.cons_append, List.nil_append, g10_36, ps_allowed, hok, if_true, g10_39, show ¬ (1 : Int32) = 0 by decide, not_false_eq_true, g10_44, mx_nl_int, g10_47, List.all_cons, List.all_nil, Bool.and_true]
      rw [show nI k + -1 = nI k - 1 from by rw [Int32.sub_eq_add_neg]]
      exact hi
    · simp only [g10_27, g10_28, e1, if_false, g10_31, g10_32, g10_33, mx_wt_nil, ps_byteAt w (show k < 4 by omega), Option.bind_some, Option.toList_some, List.cons_append, List.nil_append, g10_36, ps_allowed, hok, g10_39, not_true_eq_false, g10_42, g10_43, mx_nb0, List.all_cons, List.all_nil, Bool.and_true, Bool.and_false, Bool.false_eq_true]
theorem ps_loop2 (w n : Int32) : ∀ k u h, k ≤ 4 → u + k ≤ 120 → ps_B h u → mx_G (d + 1) 10 54 [some (.ref 63), some (.int w), some (.int n), some (.int (nI k - 1))] [] h = some (some (.int 1), ps_app w k u h) := by
  intro k
  induction k with
  | zero =>
    intro u h _ _ _
    simp only [g10_54, g10_55, show nI 0 - 1 < 0 by decide, if_true, g10_76, g10_77, mx_nb1, ps_app]
  | succ k ih =>
    intro u h hk hu B
    have hi := ih (u + 1) _ (by omega) (by omega) (ps_B_up (c := mb w k) B (u + 1) (by omega))
    have e1 : ¬ nI k < 0 := nI_pos (by omega)
    have ha := ps_append (d := d) B (by omega) w k
    obtain ⟨b1, b2, b3, b4, b5, b6, b7, b8, b9⟩ := B
    rw [nI_pred]
    rw [g10_54]
    simp only [g10_55, e1, if_false, g10_58, mx_isr_ref, g10_59, b1, b2, b3, mx_kn_ref, Nat.reduceLT, g10_62, g10_63, g10_64, mx_wt_1, mx_wt_nil, ps_byteAt w (show k < 4 by omega), Option.bind_some, Option.toList_some, List.cons_append, List.nil_append, g10_67, b4, ha, Option.toList_none, g10_70, mx_nl_int, g10_73, ps_app]
    rw [show nI k + -1 = nI k - 1 from by rw [Int32.sub_eq_add_neg]]
    exact hi
theorem mb_n4 {n : Int32} (h1 : ¬ n < 1) (h4 : ¬ 4 < n) : ∃ k : Nat, 1 ≤ k ∧ k ≤ 4 ∧ n = nI k := by
  have e0 : ¬ n < 0 := by
    rw [Int32.lt_iff_toInt_lt] at h1 ⊢
    have a : (1 : Int32).toInt = 1 := by decide
    have b : (0 : Int32).toInt = 0 := by decide
    omega
  obtain ⟨j, hj, rfl⟩ := nI_of e0
  rw [show (1 : Int32) = nI 1 from rfl, nI_ltI hj (by decide)] at h1
  rw [show (4 : Int32) = nI 4 from rfl, nI_ltI (by decide) hj] at h4
  exact ⟨j, by omega, by omega, rfl⟩
/-- what put does: refused, or these bytes -/
theorem ps_put {u : Nat} (B : ps_B h u) (hu : u ≤ 120) (w n : Int32) : mx_G (d + 2) 10 0 [some (.ref 63), some (.int w), some (.int n), none] [] h = if n < 1 ∨ 4 < n ∨ 120 < u + n.toNatClampNeg ∨ (List.range n.toNatClampNeg).all (fun p => mb_ok (mb w p)) = false then some (some (.int 0), h) else some (some (.int 1), ps_app w n.toNatClampNeg u h) := by
  have B' := B
  obtain ⟨b1, b2, b3, b4, b5, b6, b7, b8, b9⟩ := B
  by_cases h1 : n < 1
  · simp only [g10_0, g10_1, g10_2, h1, if_true, g10_21, g10_22, mx_nb0, true_or]
  · by_cases h4 : 4 < n
    · simp only [g10_0, g10_1, g10_2, h1, if_false, g10_5, g10_6, g10_7, h4, if_true, g10_21, g10_22, mx_nb0, true_or, or_true]
    · obtain ⟨k, k1, k4, rfl⟩ := mb_n4 h1 h4
      have ek : (nI k).toNatClampNeg = k := nI_clamp (by omega)
      have e120 : (120 : Int32) - nI u = nI (120 - u) := by
        have := nI_add (120 - u) u
        rw [show 120 - u + u = 120 by omega] at this
        rw [show (120 : Int32) = nI 120 from rfl, ← this, Int32.add_sub_cancel]
      rw [ek]
      by_cases hr : 120 < u + k
      · have e1 : nI (120 - u) < nI k := nI_lt (by omega) (by omega)
        simp only [g10_0, g10_1, g10_2, h1, if_false, g10_5, g10_6, g10_7, h4, g10_10, mx_isr_ref, g10_11, b1, b2, b3, mx_kn_ref, Nat.reduceLT, g10_14, g10_15, b4, mx_wt_nil, g11_0, g11_1, g11_3, g11_4, g11_7, g11_8, g11_11, g11_12, g11_15, g11_16, b5, b7, mx_kn_int, e120, e1, if_true, mx_nb0, Option.bind_some, Option.toList_some, List.cons_append, List.nil_append, g10_18, not_true_eq_false, g10_21, g10_22, hr, true_or, or_true]
      · have e1 : ¬ nI (120 - u) < nI k := nI_nlt (by omega) (by omega)
        have l1 := ps_loop1 (d := d + 1) (h := h) (u := u) w (nI k) k k4
        have l2 := ps_loop2 (d := d + 1) w (nI k) k u h k4 (by omega) B'
        by_cases ha : (List.range k).all (fun p => mb_ok (mb w p)) = true
        · rw [if_pos ha] at l1
          simp only [g10_0, g10_1, g10_2, h1, if_false, g10_5, g10_6, g10_7, h4, g10_10, mx_isr_ref, g10_11, b1, b2, b3, mx_kn_ref, Nat.reduceLT, g10_14, g10_15, b4, mx_wt_nil, g11_0, g11_1, g11_3, g11_4, g11_7, g11_8, g11_11, g11_12, g11_15, g11_16, b5, b7, mx_kn_int, e120, e1, mx_nb1, Option.bind_some, Option.toList_some, List.cons_append, List.nil_append, g10_18, show ¬ (1 : Int32) = 0 by decide, not_false_eq_true, if_true, g10_23, g10_24, g10_25, g10_26, mx_nl_int, l1, g10_50, g10_51, g10_52, g10_53, l2, hr, ha, Bool.true_eq_false, or_self]
        · rw [if_neg ha] at l1
          have ha' : (List.range k).all (fun p => mb_ok (mb w p)) = false := by simpa using ha
          simp only [g10_0, g10_1, g10_2, h1, if_false, g10_5, g10_6, g10_7, h4, g10_10, mx_isr_ref, g10_11, b1, b2, b3, mx_kn_ref, Nat.reduceLT, g10_14, g10_15, b4, mx_wt_nil, g11_0, g11_1, g11_3, g11_4, g11_7, g11_8, g11_11, g11_12, g11_15, g11_16, b5, b7, mx_kn_int, e120, e1, mx_nb1, Option.bind_some, Option.toList_some, List.cons_append, List.nil_append, g10_18, show ¬ (1 : Int32) = 0 by decide, not_false_eq_true, if_true, g10_23, g10_24, g10_25, g10_26, mx_nl_int, l1, ha', or_true]
theorem rm_loop1 {v4 : Option Value} (w : Int32) : ∀ j k n, n ≤ 4 → k + j = n → ∃ v5 : Option Value, mx_nl v5 = true ∧ mx_G d 237 25 [some (.ref 76), some (.int w), some (.int (nI n)), some (.int (nI k)), v4] [] h = if ((List.range n).drop k).all (fun p => mb_ok (mb w p)) = true then mx_G d 237 71 [some (.ref 76), some (.int w), some (.int (nI n)), some (.int (nI n)), if j = 0 then v4 else v5] [] h else some (some (.int 0), h) := by
  intro j
  induction j generalizing v4 with
  | zero =>
    intro k n hn hk
    have e : k = n := by omega
    subst e
    refine ⟨none, rfl, ?_⟩
    simp only [g237_25, g237_26, g237_27, Int32.le_refl, if_true]
    rw [List.drop_eq_nil_of_le (by simp)]
    simp
  | succ j ih =>
    intro k n hn hk
    obtain ⟨v5, hv5, hi⟩ := ih (v4 := some (.int (mb w k))) (k + 1) n hn (by omega)
    refine ⟨if j = 0 then some (.int (mb w k)) else v5, by split <;> first | rfl | exact hv5, ?_⟩
    have e1 : ¬ nI n ≤ nI k := nI_ge (by omega) (by omega)
    have e2 : (List.range n).drop k = k :: (List.range n).drop (k + 1) := by
      rw [List.drop_eq_getElem_cons (by simp; omega)]
      simp
    have e3 : (w >>> (nI (8 * k) &&& 31)) &&& 255 = mb w k := rfl
    rw [e2, List.all_cons]
    simp only [Nat.succ_ne_zero, if_false]
    rw [g237_25]
    by_cases h1 : mb w k = 10
    · have hm : mb_ok (mb w k) = true := by simp only [mb_ok, h1, decide_true, Bool.true_or]
      simp only [g237_26, g237_27, g237_30, g237_31, g237_33, g237_34, g237_35, g237_36, g237_39, g237_40, g237_42, g237_44, g237_46, g237_49, g237_51, g237_53, g237_56, g237_58, g237_60, g237_63, g237_64, g237_65, g237_68, e1, if_false, mb_8 k (by omega), e3, mx_nl_int, h1, if_true, nI_1]
      rw [h1] at hi hm
      rw [hi, hm, Bool.true_and]
    · by_cases h2 : mb w k < 32
      · have h3 : ¬ 32 ≤ mb w k := by simpa using h2
        have hm : mb_ok (mb w k) = false := by simp only [mb_ok, h1, h3, decide_false, Bool.false_or, Bool.false_and]
        simp only [g237_26, g237_27, g237_30, g237_31, g237_33, g237_34, g237_35, g237_36, g237_39, g237_40, g237_42, g237_44, g237_46, g237_49, g237_51, g237_53, g237_56, g237_58, g237_60, g237_63, g237_64, g237_65, g237_68, e1, if_false, mb_8 k (by omega), e3, mx_nl_int, h1, h2, if_true, mx_nb0, hm, Bool.false_and, Bool.false_eq_true]
      · have h3 : 32 ≤ mb w k := by simpa using h2
        by_cases h4 : mb w k ≤ 126
        · have hm : mb_ok (mb w k) = true := by simp only [mb_ok, h1, h3, h4, decide_true, decide_false, Bool.false_or, Bool.true_and]
          simp only [g237_26, g237_27, g237_30, g237_31, g237_33, g237_34, g237_35, g237_36, g237_39, g237_40, g237_42, g237_44, g237_46, g237_49, g237_51, g237_53, g237_56, g237_58, g237_60, g237_63, g237_64, g237_65, g237_68, e1, if_false, mb_8 k (by omega), e3, mx_nl_int, h1, h2, h4, if_true, nI_1]
          rw [hi, hm, Bool.true_and]
        · have hm : mb_ok (mb w k) = false := by simp only [mb_ok, h1, h3, h4, decide_true, decide_false, Bool.false_or, Bool.and_false]
          simp only [g237_26, g237_27, g237_30, g237_31, g237_33, g237_34, g237_35, g237_36, g237_39, g237_40, g237_42, g237_44, g237_46, g237_49, g237_51, g237_53, g237_56, g237_58, g237_60, g237_63, g237_64, g237_65, g237_68, e1, if_false, mb_8 k (by omega), e3, mx_nl_int, h1, h2, h4, mx_nb0, hm, Bool.false_and, Bool.false_eq_true]
theorem rm_loop2 {v4 : Option Value} (w n : Int32) : ∀ k u h, k ≤ 4 → u + k ≤ 120 → rm_B h u → mx_G d 237 75 [some (.ref 76), some (.int w), some (.int n), some (.int (nI k - 1)), v4] [] h = some (some (.int 1), rm_app w k u h) := by
  intro k
  induction k with
  | zero =>
    intro u h _ _ _
    simp only [g237_75, g237_76, show nI 0 - 1 < 0 by decide, if_true, g237_115, g237_116, mx_nb1, rm_app]
  | succ k ih =>
    intro u h hk hu B
    have hi := ih (u + 1) _ (by omega) (by omega) (rm_B_up (c := mb w k) B (u + 1) (by omega))
    have e1 : ¬ nI k < 0 := nI_pos (by omega)
    have e2 : (nI u).toNatClampNeg = u := nI_clamp (by omega)
    have e3 : (0 : Int32) ≤ nI u := nI_pos' (by omega)
    have e4 : (w >>> (nI (8 * k) &&& 31)) &&& 255 = mb w k := rfl
    have hu' : u < 120 := by omega
    obtain ⟨b1, b2, b3, b4, b5, b6⟩ := B
    have e5 : mx_el (mx_up h 78 u (.int (mb w k))) 76 3 = .int (nI u) := by simp [mx_el_up, b4]
    rw [nI_pred, g237_75]
    simp only [g237_0, g237_1, g237_2, g237_5, g237_6, g237_7, g237_10, g237_11, g237_14, g237_15, g237_16, g237_18, g237_21, g237_22, g237_23, g237_24, g237_25, g237_26, g237_27, g237_30, g237_31, g237_33, g237_34, g237_35, g237_36, g237_39, g237_40, g237_42, g237_44, g237_46, g237_49, g237_51, g237_53, g237_56, g237_58, g237_60, g237_63, g237_64, g237_65, g237_68, g237_71, g237_72, g237_73, g237_74, g237_76, g237_79, g237_80, g237_83, g237_84, g237_87, g237_88, g237_90, g237_91, g237_92, g237_93, g237_96, g237_97, g237_98, g237_99, g237_100, g237_101, g237_104, g237_105, g237_106, g237_109, g237_112, g237_115, g237_116, e1, if_false, mx_isr_ref, b1, b2, b3, b4, b5, b6, mx_kn_ref, mx_kn_int, Nat.reduceLT, mb_8 k (by omega), e4, mb_c2, e2, e3, hu', show mt_nO ≤ 78 by decide, show mt_nO ≤ 76 by decide, mb_nar, mx_cat_ref, mx_tag_up, mx_ln_up, e5, nI_1, mx_nl_int, rm_app]
    rw [show nI k + -1 = nI k - 1 from by rw [Int32.sub_eq_add_neg]]
    exact hi
theorem rm_put {u : Nat} (B : rm_B h u) (hu : u ≤ 120) (w n : Int32) : mx_G d 237 0 [some (.ref 76), some (.int w), some (.int n), none, none] [] h = if n < 1 ∨ 4 < n ∨ 120 < u + n.toNatClampNeg ∨ (List.range n.toNatClampNeg).all (fun p => mb_ok (mb w p)) = false then some (some (.int 0), h) else some (some (.int 1), rm_app w n.toNatClampNeg u h) := by
  have B' := B
  obtain ⟨b1, b2, b3, b4, b5, b6⟩ := B
  by_cases h1 : n < 1
  · simp only [g237_0, g237_1, g237_2, h1, if_true, g237_21, g237_22, mx_nb0, true_or]
  · by_cases h4 : 4 < n
    · simp only [g237_0, g237_1, g237_2, h1, if_false, g237_5, g237_6, g237_7, h4, if_true, g237_21, g237_22, mx_nb0, true_or, or_true]
    · obtain ⟨k, k1, k4, rfl⟩ := mb_n4 h1 h4
      have ek : (nI k).toNatClampNeg = k := nI_clamp (by omega)
      rw [ek]
      by_cases hr : 120 < u + k
      · have e1 : ¬ nI (u + k) ≤ 120 := nI_ge (a := 120) hr (by omega)
        simp only [g237_0, g237_1, g237_2, h1, if_false, g237_5, g237_6, g237_7, h4, g237_10, mx_isr_ref, g237_11, b1, b2, b4, mx_kn_int, Nat.reduceLT, g237_14, g237_15, g237_16, nI_add, g237_18, e1, g237_21, g237_22, mx_nb0, hr, true_or, or_true, if_true]
      · have e1 : nI (u + k) ≤ 120 := nI_le (b := 120) (by omega) (by decide)
        obtain ⟨v5, hv5, l1⟩ := rm_loop1 (d := d) (h := h) (v4 := none) w k 0 k k4 (by omega)
        have l2 := rm_loop2 (d := d) (v4 := if k = 0 then none else v5) w (nI k) k u h k4 (by omega) B'
        rw [List.drop_zero] at l1
        have first : mx_G d 237 0 [some (.ref 76), some (.int w), some (.int (nI k)), none, none] [] h = mx_G d 237 25 [some (.ref 76), some (.int w), some (.int (nI k)), some (.int (nI 0)), none] [] h := by
          simp only [g237_0, g237_1, g237_2, h1, if_false, g237_5, g237_6, g237_7, h4, g237_10, mx_isr_ref, g237_11, b1, b2, b4, mx_kn_int, Nat.reduceLT, g237_14, g237_15, g237_16, nI_add, g237_18, e1, if_true, g237_23, g237_24, mx_nl_int, nI_0]
        rw [first, l1]
        by_cases ha : (List.range k).all (fun p => mb_ok (mb w p)) = true
        · have hc : ¬ (nI k < 1 ∨ 4 < nI k ∨ 120 < u + k ∨ (List.range k).all (fun p => mb_ok (mb w p)) = false) := by
            rw [ha]
            simp only [h1, h4, hr, Bool.true_eq_false, or_self, not_false_eq_true]
          rw [if_pos ha, if_neg hc]
          simp only [g237_71, g237_72, g237_73, g237_74, mx_nl_int]
          exact l2
        · have ha' : (List.range k).all (fun p => mb_ok (mb w p)) = false := by simpa using ha
          rw [if_neg ha, if_pos (by simp only [ha', or_true])]
end
