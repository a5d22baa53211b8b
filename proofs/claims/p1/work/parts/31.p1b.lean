section
variable {d : Nat} {h : mx_H}
theorem p1_Fs (F : p1_F h = true) : mx_tag h 76 = some (.inl 11) ∧ mx_ln h 76 = 40 ∧ mx_el h 76 0 = .ref 77 ∧ mx_tag h 77 = some (.inr .int) ∧ mx_ln h 77 = 800 ∧ (∀ s, s < 8 → mx_el h 77 (80 * s) = .int 0) ∧ mx_tag h 0 = some (.inr .int) ∧ mx_ln h 0 = 5 ∧ h.length ≤ 1000 ∧ mx_tot h ≤ 10000 ∧ mx_tag h 63 = some (.inl 0) ∧ mt_nO ≤ h.length := by
  unfold p1_F at F
  simp only [Bool.and_eq_true, decide_eq_true_eq, List.all_eq_true, List.mem_range] at F
  exact F
theorem p1_i8 : ∀ s, s < 8 → (80 * Int32.ofNat s + 0).toNatClampNeg = 80 * s ∧ 0 ≤ 80 * Int32.ofNat s + 0 ∧ Int32.ofNat s + 1 = Int32.ofNat (s + 1) ∧ ¬ 8 ≤ Int32.ofNat s ∧ 80 * s < 800 := by decide
theorem p1_f (F : p1_F h = true) {s : Nat} (hs : s < 8) : mx_G d 274 0 [some (.ref 76), some (.int (Int32.ofNat s)), some (.int 0)] [] h = some (some (.int 0), h) := by
  obtain ⟨f1, f2, f3, f4, f5, f6, -⟩ := p1_Fs F
  obtain ⟨i1, i2, -, -, i5⟩ := p1_i8 s hs
  simp only [g274_0, g274_1, g274_4, g274_6, g274_7, g274_8, g274_9, g274_10, g274_11, mx_isr_ref, f1, f2, f3, f4, f5, mx_kn_ref, i1, i2, i5, f6 s hs, Nat.reduceLT]
theorem p1_slotL (F : p1_F h = true) (x : Int32) : ∀ k s, s + k = 8 → mx_G (d + 1) 280 2 [some (.ref 76), some (.int x), some (.int (Int32.ofNat s))] [] h = some (some (.int (-1)), h) := by
  intro k
  induction k with
  | zero =>
    intro s hs
    have e : s = 8 := by omega
    subst e
    simp only [g280_2, g280_3, g280_5, show (8 : Int32) ≤ Int32.ofNat 8 by decide, if_true, g280_30, g280_31]
  | succ k ih =>
    intro s hs
    obtain ⟨f1, -⟩ := p1_Fs F
    obtain ⟨i1, i2, i3, i4, i5⟩ := p1_i8 s (by omega)
    have hn := ih (s + 1) (by omega)
    by_cases e : x ≤ 0
    · simp only [g280_2, g280_3, g280_5, i4, if_false, g280_8, g280_9, e, if_true, g280_24, g280_27, mx_nl_int, i3, hn]
    · have e2 : ¬ (0 : Int32) = x := fun z => e (by rw [← z]; decide)
      simp only [g280_2, g280_3, g280_5, i4, if_false, g280_8, g280_9, e, g280_12, mx_isr_ref, g280_13, g280_14, g280_15, f1, mx_wt_nil, p1_f F (show s < 8 by omega), Option.bind_some, Option.toList_some, List.cons_append, List.nil_append, g280_18, g280_19, e2, not_false_eq_true, if_true, g280_24, g280_27, mx_nl_int, i3, hn]
theorem p1_slot (F : p1_F h = true) (x : Int32) : mx_G (d + 1) 280 0 [some (.ref 76), some (.int x), none] [] h = some (some (.int (-1)), h) := by
  rw [g280_0, g280_1 mx_nl_int]
  exact p1_slotL F x 8 0 rfl
theorem p1_check (y : Int32) : mx_G d 282 0 [some (.ref 76), some (.int (-1)), some (.int y)] [] h = some (some (.int (-404)), h) := by
  simp only [g282_0, g282_1, show ¬ (0 : Int32) ≤ -1 by decide, if_false, g282_4, g282_7, g282_31]
theorem p1_replaced (F : p1_F h = true) (y : Int32) : mx_G (d + 1) 281 0 [some (.ref 76), some (.int (-1)), some (.int y), none, none] [] h = some (some (.int (-404)), h) := by
  obtain ⟨f1, -⟩ := p1_Fs F
  simp only [g281_0, g281_1, g281_2, g281_3, f1, mx_isr_ref, mx_wt_nil, p1_check, Option.bind_some, Option.toList_some, List.cons_append, List.nil_append, g281_6, mx_nl_int, g281_7, g281_8, show ¬ (0 : Int32) ≤ -404 by decide, if_false, g281_11, g281_12]
theorem p1_patched (F : p1_F h = true) (y : Int32) : mx_G (d + 1) 287 0 [some (.ref 76), some (.int (-1)), some (.int y), none, none] [] h = some (some (.int (-404)), h) := by
  obtain ⟨f1, -⟩ := p1_Fs F
  simp only [g287_0, g287_1, g287_2, g287_3, f1, mx_isr_ref, mx_wt_nil, p1_check, Option.bind_some, Option.toList_some, List.cons_append, List.nil_append, g287_6, mx_nl_int, g287_7, g287_8, show ¬ (0 : Int32) ≤ -404 by decide, if_false, g287_11, g287_12]
theorem p1_o76 : mt_nO ≤ 76 := by decide
theorem p1_replace (F : p1_F h = true) (x y : Int32) : mx_G (d + 2) 279 0 [some (.ref 76), some (.int x), some (.int y), none] [] h = some (some (.int (-404)), mx_up h 76 3 (.int 0)) := by
  obtain ⟨f1, -⟩ := p1_Fs F
  simp only [g279_0, g279_1, g279_2, g279_3, g279_6, g279_7, g279_10, g279_11, g279_12, g279_13, g279_16, g279_17, f1, mx_isr_ref, mx_wt_1, p1_slot F, mx_wt_nil, p1_replaced F, Option.bind_some, Option.toList_some, List.cons_append, List.nil_append, mx_nl_int, p1_o76]
theorem p1_patch (F : p1_F h = true) (x y : Int32) : mx_G (d + 2) 286 0 [some (.ref 76), some (.int x), some (.int y), none] [] h = some (some (.int (-404)), mx_up h 76 3 (.int 0)) := by
  obtain ⟨f1, -⟩ := p1_Fs F
  simp only [g286_0, g286_1, g286_2, g286_3, g286_6, g286_7, g286_10, g286_11, g286_12, g286_13, g286_16, g286_17, f1, mx_isr_ref, mx_wt_1, p1_slot F, mx_wt_nil, p1_patched F, Option.bind_some, Option.toList_some, List.cons_append, List.nil_append, mx_nl_int, p1_o76]
theorem p1_remove (F : p1_F h = true) (x y : Int32) : mx_G (d + 2) 285 0 [some (.ref 76), some (.int x), some (.int y), none, none] [] h = some (some (.int (-404)), h) := by
  obtain ⟨f1, -⟩ := p1_Fs F
  simp only [g285_0, g285_1, g285_2, g285_5, g285_6, g285_7, g285_8, g285_9, g285_12, g285_14, g285_16, g285_19, g285_20, g285_21, g285_22, g285_23, g285_26, g285_28, f1, mx_isr_ref, mx_wt_1, p1_slot F, mx_wt_nil, p1_check, Option.bind_some, Option.toList_some, List.cons_append, List.nil_append, mx_nl_int, show ¬ (-404 : Int32) = 0 by decide, not_false_eq_true, if_true]
theorem p1_version (F : p1_F h = true) (x : Int32) : mx_G (d + 2) 329 0 [some (.ref 76), some (.int x), none] [] h = some (some (.int (-404)), h) := by
  obtain ⟨f1, -⟩ := p1_Fs F
  simp only [g329_0, g329_1, g329_2, g329_5, g329_6, g329_7, g329_10, g329_13, g329_16, g329_17, g329_18, g329_19, g329_22, f1, mx_isr_ref, mx_wt_1, p1_slot F, mx_wt_nil, Option.bind_some, Option.toList_some, List.cons_append, List.nil_append, mx_nl_int, show ¬ (0 : Int32) ≤ -1 by decide, if_false]
theorem p1_length (F : p1_F h = true) (x : Int32) : mx_G (d + 2) 330 0 [some (.ref 76), some (.int x), none] [] h = some (some (.int (-404)), h) := by
  obtain ⟨f1, -⟩ := p1_Fs F
  simp only [g330_0, g330_1, g330_2, g330_5, g330_6, g330_7, g330_10, g330_13, g330_14, g330_15, g330_16, g330_17, g330_20, g330_21, g330_24, f1, mx_isr_ref, mx_wt_1, p1_slot F, mx_wt_nil, Option.bind_some, Option.toList_some, List.cons_append, List.nil_append, mx_nl_int, show ¬ (0 : Int32) ≤ -1 by decide, if_false]
theorem p1_letter (F : p1_F h = true) (x y : Int32) : mx_G (d + 2) 338 0 [some (.ref 76), some (.int x), some (.int y), none] [] h = some (some (.int 0), h) := by
  obtain ⟨f1, -⟩ := p1_Fs F
  simp only [g338_0, g338_1, g338_2, g338_5, g338_6, g338_7, g338_10, g338_11, g338_12, g338_13, g338_14, g338_15, g338_18, g338_19, g338_22, f1, mx_isr_ref, mx_wt_1, p1_slot F, mx_wt_nil, Option.bind_some, Option.toList_some, List.cons_append, List.nil_append, mx_nl_int, show ¬ (0 : Int32) ≤ -1 by decide, if_false]
end
