section
variable {d : Nat} {h : mx_H}
theorem lN_div {a b : Nat} (ha : a < 2 ^ 62) (hb : b < 2 ^ 62) : lN a / lN b = lN (a / b) := by
  have le := Nat.div_le_self a b
  apply Int64.toInt_inj.1
  rw [Int64.toInt_div, lN_big (by omega), lN_big (by omega), lN_big (by omega), ← Int.ofNat_tdiv]
  generalize a / b = q at *
  apply Int.bmod_eq_of_le <;> omega
theorem lN_rem {a b : Nat} (ha : a < 2 ^ 62) (hb : b < 2 ^ 62) : lN a - lN a / lN b * lN b = lN (a % b) := by
  rw [lN_div ha hb, lN_mul, lN_sub (Nat.div_mul_le_self a b)]
  congr 1
  have := Nat.div_add_mod a b
  rw [Nat.mul_comm] at this
  omega
theorem lN_ltB {a b : Nat} (ha : a < 2 ^ 62) (hb : b < 2 ^ 62) : (lN a < lN b) = (a < b) := by
  rw [Int64.lt_iff_toInt_lt, lN_big (by omega), lN_big (by omega)]
  simp
theorem lg_gt (x y : Int64) : (0 < lg_cmp x y) = (y < x) := by
  have := lg_le x y
  have e : (0 < lg_cmp x y) = ¬ (lg_cmp x y ≤ 0) := by
    apply propext
    rw [Int32.lt_iff_toInt_lt, Int32.le_iff_toInt_le]
    omega
  rw [e, this]
  simp
/-- what has been written: how long it is, and the letter that is wanted -/
def Pw (a k : Nat) : Bool := a == 76 && (k == 37 || (k == 38 || k == 39))
theorem stw : stP Pw := ⟨fun _ _ => rfl, rfl, rfl, fun _ => rfl⟩
def lv (wn : Int32) (out : List Nat) : Int32 := if 0 ≤ wn.toInt ∧ wn.toInt < out.length then nI (out.getD wn.toInt.toNat 0) else 0
def wS (h h' : mx_H) (wn : Int32) (out : List Nat) : Prop := mf Pw h h' ∧ mi h' 76 37 = nI out.length ∧ mi h' 76 38 = wn ∧ mi h' 76 39 = lv wn out ∧ out.length < 2 ^ 20
/-- a method that writes w -/
def wr (h : mx_H) (wn : Int32) (G : mx_H → Option (Option Value × mx_H)) (w : List Nat) : Prop := ∀ h1 out, wS h h1 wn out → out.length + w.length < 2 ^ 20 → ∃ h', G h1 = some (none, h') ∧ wS h h' wn (out ++ w)
theorem wr_out {wn : Int32} {c : Nat} : wr h wn (fun h1 => mx_G d 332 0 [some (.ref 76), some (.int (nI c))] [] h1) [c] := by
  intro h1 out S hl
  obtain ⟨m, s1, s2, s3, s4⟩ := S
  have T := m.1
  rw [List.length_singleton] at hl
  have m2 : ∀ x, mf Pw h (mx_up h1 76 39 (.int x)) := fun x => mf_f m (by decide) rfl
  have T2 := fun x => (m2 x).1
  have m3 : ∀ x, mf Pw h (mx_up (mx_up h1 76 39 (.int x)) 76 37 (.int (nI (out.length + 1)))) := fun x => mf_f (m2 x) (by decide) rfl
  have r37 : ∀ x, mi (mx_up h1 76 39 (.int x)) 76 37 = nI out.length := fun x => by rw [mi_f T (by decide), if_neg (by decide), s1]
  have fin : ∀ x, x = lv wn (out ++ [c]) → wS h (mx_up (mx_up h1 76 39 (.int x)) 76 37 (.int (nI (out.length + 1)))) wn (out ++ [c]) := fun x hx => ⟨m3 x, by rw [mi_f (T2 x) (by decide), if_pos rfl, List.length_append, List.length_singleton], by rw [mi_f (T2 x) (by decide), if_neg (by decide), mi_f T (by decide), if_neg (by decide), s2], by rw [mi_f (T2 x) (by decide), if_neg (by decide), mi_f T (by decide), if_pos rfl, hx], by rw [List.length_append, List.length_singleton]; omega⟩
  by_cases e : nI out.length = wn
  · refine ⟨mx_up (mx_up h1 76 39 (.int (nI c))) 76 37 (.int (nI (out.length + 1))), ?_, fin _ ?_⟩
    · simp only [r332_0, r332_1, r332_2, r332_5, r332_6, r332_9, r332_12, r332_13, r332_16, r332_17, r332_20, r332_23, r332_24, r332_25, r332_28, r332_29, r332_30, r332_33, mx_isr_ref, mx_isr_null, mx_wt_nil, mx_wt_1, mx_wt_2, mx_wt_3, Option.bind_some, Option.toList_some, Option.toList_none, List.cons_append, List.nil_append, mx_nl_int, mx_nl_ref, mx_nl_null, mx_nl_none, mx_nb0, mx_nb1, mx_fb0, mx_fb1, mx_cat_int, mx_cat_ref, if_true, if_false, not_true_eq_false, not_false_eq_true, T, s1, s2, eq_true e, mr_ty_77, mr_n_77, mr_isI_77, mr_ty_78, mr_n_78, mr_isI_78, mr_ty_79, mr_n_79, mr_isI_79, mr_ty_80, mr_n_80, mr_isI_80, mr_ty_81, mr_n_81, mr_isI_81, mr_ty_82, mr_n_82, mr_isJ_82, mr_ty_83, mr_n_83, mr_isI_83, mr_ty_84, mr_n_84, mr_isI_84, mr_ty_85, mr_n_85, mr_isI_85, mr_ty_86, mr_n_86, mr_isI_86, mr_ty_87, mr_n_87, mr_isI_87, mr_ty_88, mr_n_88, mr_isI_88, mr_ty_89, mr_n_89, mr_isJ_89, mr_ty_90, mr_n_90, mr_isI_90, mr_ty_91, mr_n_91, mr_isI_91, mr_ty_92, mr_n_92, mr_isI_92, mr_ty_93, mr_n_93, mr_isI_93, mr_ty_94, mr_n_94, mr_isI_94, mr_ty_95, mr_n_95, mr_isI_95, mr_ty_96, mr_n_96, mr_isI_96, mr_ty_97, mr_n_97, mr_isI_97, mr_ty_98, mr_n_98, mr_isI_98, mr_ty_99, mr_n_99, mr_isI_99, mr_ty_100, mr_n_100, mr_isI_100, mr_ty_101, mr_n_101, mr_isI_101, mr_isF_1, mr_isF_3, mr_isF_4, mr_isF_10, mr_isF_12, mr_isF_18, mr_isF_19, mr_isF_21, mr_isF_22, mr_isF_23, mr_isF_26, mr_isF_34, mr_isF_37, mr_isF_38, mr_isF_39, mr_T_up, mr_T_upJ, mr_T_f, T2, r37, nI_1]
    · unfold lv
      rw [← e, nI_toInt (by omega), List.length_append, List.length_singleton, if_pos (by omega), Int.toNat_natCast, List.getD_eq_getElem?_getD, List.getElem?_append_right (Nat.le_refl _), Nat.sub_self]
      rfl
  · refine ⟨mx_up (mx_up h1 76 39 (.int (lv wn out))) 76 37 (.int (nI (out.length + 1))), ?_, fin _ ?_⟩
    · simp only [r332_0, r332_1, r332_2, r332_5, r332_6, r332_9, r332_12, r332_13, r332_16, r332_17, r332_20, r332_23, r332_24, r332_25, r332_28, r332_29, r332_30, r332_33, mx_isr_ref, mx_isr_null, mx_wt_nil, mx_wt_1, mx_wt_2, mx_wt_3, Option.bind_some, Option.toList_some, Option.toList_none, List.cons_append, List.nil_append, mx_nl_int, mx_nl_ref, mx_nl_null, mx_nl_none, mx_nb0, mx_nb1, mx_fb0, mx_fb1, mx_cat_int, mx_cat_ref, if_true, if_false, not_true_eq_false, not_false_eq_true, T, s1, s2, e, s3, mr_ty_77, mr_n_77, mr_isI_77, mr_ty_78, mr_n_78, mr_isI_78, mr_ty_79, mr_n_79, mr_isI_79, mr_ty_80, mr_n_80, mr_isI_80, mr_ty_81, mr_n_81, mr_isI_81, mr_ty_82, mr_n_82, mr_isJ_82, mr_ty_83, mr_n_83, mr_isI_83, mr_ty_84, mr_n_84, mr_isI_84, mr_ty_85, mr_n_85, mr_isI_85, mr_ty_86, mr_n_86, mr_isI_86, mr_ty_87, mr_n_87, mr_isI_87, mr_ty_88, mr_n_88, mr_isI_88, mr_ty_89, mr_n_89, mr_isJ_89, mr_ty_90, mr_n_90, mr_isI_90, mr_ty_91, mr_n_91, mr_isI_91, mr_ty_92, mr_n_92, mr_isI_92, mr_ty_93, mr_n_93, mr_isI_93, mr_ty_94, mr_n_94, mr_isI_94, mr_ty_95, mr_n_95, mr_isI_95, mr_ty_96, mr_n_96, mr_isI_96, mr_ty_97, mr_n_97, mr_isI_97, mr_ty_98, mr_n_98, mr_isI_98, mr_ty_99, mr_n_99, mr_isI_99, mr_ty_100, mr_n_100, mr_isI_100, mr_ty_101, mr_n_101, mr_isI_101, mr_isF_1, mr_isF_3, mr_isF_4, mr_isF_10, mr_isF_12, mr_isF_18, mr_isF_19, mr_isF_21, mr_isF_22, mr_isF_23, mr_isF_26, mr_isF_34, mr_isF_37, mr_isF_38, mr_isF_39, mr_T_up, mr_T_upJ, mr_T_f, T2, r37, nI_1]
    · unfold lv
      rw [List.length_append, List.length_singleton]
      have ne : wn.toInt ≠ (out.length : Int) := fun z => e ((nI_int (by omega)).2 z.symm)
      by_cases c1 : 0 ≤ wn.toInt ∧ wn.toInt < (out.length : Int)
      · rw [if_pos c1, if_pos (by omega), List.getD_eq_getElem?_getD, List.getD_eq_getElem?_getD, List.getElem?_append_left (by omega)]
      · rw [if_neg c1, if_neg (by omega)]
/-- the digits of v, the highest first -/
def dgt (b o v : Nat) : Nat → List Nat
  | 0 => [v % b + o]
  | m + 1 => (v / b ^ (m + 1) % b + o) :: dgt b o v m
theorem dgt_snoc (b o v : Nat) : ∀ m, dgt b o v (m + 1) = dgt b o (v / b) m ++ [v % b + o] := by
  intro m
  induction m with
  | zero => simp [dgt]
  | succ m ih =>
    rw [dgt, ih, dgt, List.cons_append, Nat.div_div_eq_div_mul, ← Nat.pow_succ']
theorem dgt_len (b o v : Nat) : ∀ m, (dgt b o v m).length = m + 1 := by
  intro m
  induction m with
  | zero => rfl
  | succ m ih => rw [dgt, List.length_cons, ih]
def dgP (b o v m : Nat) (ds : List Nat) : Prop := v / b < b ^ m ∧ (∀ j, j < m → b ^ j ≤ v / b) ∧ dgt b o v m = ds
theorem dgP_snoc {b o v m : Nat} {ds : List Nat} (hb : 1 < b) (hv : b ≤ v) (D : dgP b o (v / b) m ds) : dgP b o v (m + 1) (ds ++ [v % b + o]) := by
  obtain ⟨d1, d2, d3⟩ := D
  refine ⟨?_, fun j hj => ?_, by rw [dgt_snoc, d3]⟩
  · rw [Nat.pow_succ]
    exact Nat.lt_mul_of_div_lt d1 (by omega)
  · cases j with
    | zero => simp; exact Nat.div_pos hv (by omega)
    | succ j =>
      have := d2 j (by omega)
      rw [Nat.pow_succ]
      exact (Nat.le_div_iff_mul_le (by omega)).1 this
theorem dgP_word (l : List Nat) : l ≠ [] → (∀ c ∈ l, 97 ≤ c ∧ c ≤ 122) → dgP 27 96 (enc l) (l.length - 1) l := by
  refine snoc_rec (P := fun l => l ≠ [] → (∀ c ∈ l, 97 ≤ c ∧ c ≤ 122) → dgP 27 96 (enc l) (l.length - 1) l) (fun z => absurd rfl z) ?_ l
  intro l c ih _ hl
  have hc := hl c (by simp)
  rw [enc_app, List.length_append, List.length_singleton, Nat.add_sub_cancel]
  have e1 : (27 * enc l + (c - 96)) / 27 = enc l := by omega
  have e2 : (27 * enc l + (c - 96)) % 27 + 96 = c := by omega
  by_cases cl : l = []
  · subst cl
    refine ⟨?_, fun j hj => absurd hj (Nat.not_lt_zero j), ?_⟩
    · rw [e1]; decide
    · show [(27 * enc [] + (c - 96)) % 27 + 96] = [c]
      rw [e2]
  · have i := ih cl fun x hx => hl x (List.mem_append_left _ hx)
    have pos : 1 ≤ enc l := by
      have := i.2.2
      rcases Nat.eq_zero_or_pos (enc l) with z | z
      · exfalso
        have h0 := hl (l.head cl) (List.mem_append_left _ (List.head_mem cl))
        have hh := congrArg List.head? this
        rw [z] at hh
        cases k : l.length - 1 with
        | zero =>
          rw [k] at hh
          rw [List.head?_eq_some_head cl] at hh
          simp [dgt] at hh
          omega
        | succ m =>
          rw [k] at hh
          rw [List.head?_eq_some_head cl] at hh
          simp [dgt] at hh
          omega
      · exact z
    have := dgP_snoc (b := 27) (o := 96) (v := 27 * enc l + (c - 96)) (m := l.length - 1) (ds := l) (by decide) (by omega) (by rw [e1]; exact i)
    rw [e2, show l.length - 1 + 1 = l.length from by have := List.length_pos_iff.2 cl; omega] at this
    exact this
theorem dgP_num : ∀ f v, v < 10 ^ (f + 1) → ∃ m, m ≤ f ∧ dgP 10 48 v m (dgs f v) := by
  intro f
  induction f with
  | zero =>
    intro v hv
    refine ⟨0, Nat.le_refl _, ?_, fun j hj => absurd hj (Nat.not_lt_zero j), ?_⟩
    · simp at hv; simp; omega
    · simp [dgt, dgs, Nat.add_comm]
  | succ f ih =>
    intro v hv
    rw [dgs]
    by_cases c : v < 10
    · rw [if_pos c]
      refine ⟨0, Nat.zero_le _, by simp; omega, fun j hj => absurd hj (Nat.not_lt_zero j), ?_⟩
      simp [dgt]
      omega
    · rw [if_neg c]
      obtain ⟨m, hm, D⟩ := ih (v / 10) (by rw [Nat.pow_succ] at hv; omega)
      refine ⟨m + 1, by omega, ?_⟩
      have := dgP_snoc (b := 10) (o := 48) (v := v) (by decide) (by omega) D
      rw [Nat.add_comm 48]
      exact this
theorem wr_word {wn : Int32} {l : List Nat} (hl : l ≠ []) (h9 : l.length ≤ 9) (hw : ∀ c ∈ l, 97 ≤ c ∧ c ≤ 122) {u : Int64} (hu : u = lN (enc l)) : wr h wn (fun h1 => mx_G (d + 1) 334 0 [some (.ref 76), some (.long u), none, none, none, none, none] [] h1) l := by
  subst hu
  obtain ⟨d1, d2, d3⟩ := dgP_word l hl hw
  have eb := enc_lt l h9 hw
  have p9 : (27 : Nat) ^ l.length ≤ 27 ^ 9 := Nat.pow_le_pow_right (by decide) h9
  have q9 : (27 : Nat) ^ 9 < 2 ^ 50 := by decide
  have pm : ∀ i, i ≤ 9 → (27 : Nat) ^ i ≤ 27 ^ 9 := fun i hi => Nat.pow_le_pow_right (by decide) hi
  generalize enc l = v at *
  generalize hm : l.length - 1 = m at *
  have m8 : m ≤ 8 := by omega
  have dv : lN v / 27 = lN (v / 27) := lN_div (b := 27) (by omega) (by decide)
  have L1 : ∀ n i h1, i + n = m → mx_G (d + 1) 334 2 [some (.ref 76), some (.long (lN v)), none, some (.long (lN (27 ^ i))), none, none, none] [] h1 = mx_G (d + 1) 334 21 [some (.ref 76), some (.long (lN v)), none, some (.long (lN (27 ^ m))), none, none, none] [] h1 := by
    intro n
    induction n with
    | zero =>
      intro i h1 hi
      have : i = m := by omega
      subst this
      have := pm i (by omega)
      have e : (lN (v / 27) < lN (27 ^ i)) = True := by rw [lN_ltB (by omega) (by omega)]; exact eq_true d1
      simp only [r334_2, r334_3, r334_4, r334_7, r334_8, r334_9, mx_isr_ref, mx_isr_null, mx_wt_nil, mx_wt_1, mx_wt_2, mx_wt_3, Option.bind_some, Option.toList_some, Option.toList_none, List.cons_append, List.nil_append, mx_nl_int, mx_nl_ref, mx_nl_null, mx_nl_none, mx_nb0, mx_nb1, mx_fb0, mx_fb1, mx_cat_int, mx_cat_ref, if_true, if_false, not_true_eq_false, not_false_eq_true, dv, lg_gt, e, show ¬ (27 : Int64) = 0 by decide]
    | succ n ih =>
      intro i h1 hi
      have := pm i (by omega)
      have e : (lN (v / 27) < lN (27 ^ i)) = False := by rw [lN_ltB (by omega) (by omega)]; exact eq_false (by have := d2 i (by omega); omega)
      have e2 : lN (27 ^ i) * 27 = lN (27 ^ (i + 1)) := by rw [show (27 : Int64) = lN 27 from rfl, lN_mul, Nat.pow_succ]
      rw [← ih (i + 1) h1 (by omega), r334_2]
      simp only [r334_3, r334_4, r334_7, r334_8, r334_9, r334_12, r334_13, r334_16, r334_17, r334_18, mx_isr_ref, mx_isr_null, mx_wt_nil, mx_wt_1, mx_wt_2, mx_wt_3, Option.bind_some, Option.toList_some, Option.toList_none, List.cons_append, List.nil_append, mx_nl_int, mx_nl_ref, mx_nl_null, mx_nl_none, mx_nb0, mx_nb1, mx_fb0, mx_fb1, mx_cat_int, mx_cat_ref, if_true, if_false, not_true_eq_false, not_false_eq_true, dv, lg_gt, e, e2, show ¬ (27 : Int64) = 0 by decide]
  have L2 : ∀ i h1 out, i ≤ m → wS h h1 wn out → out.length + (i + 1) < 2 ^ 20 → ∃ h', mx_G (d + 1) 334 24 [some (.ref 76), some (.long (lN v)), none, some (.long (lN (27 ^ m))), none, some (.long (lN (27 ^ i))), none] [] h1 = some (none, h') ∧ wS h h' wn (out ++ dgt 27 96 v i) := by
    intro i
    induction i with
    | zero =>
      intro h1 out hi S hlen
      have e0 : lN v / lN (27 ^ 0) = lN v := by rw [lN_div (by omega) (by decide)]; simp
      have e1 : lN v - lN (v / 27) * 27 = lN (v % 27) := by have := lN_rem (a := v) (b := 27) (by omega) (by decide); rw [← this]; rw [← dv]; rfl
      have e2 : nI (v % 27) + 96 = nI (v % 27 + 96) := nI_add _ 96
      obtain ⟨h2, r2, S2⟩ := wr_out (d := d) (h := h) (wn := wn) (c := v % 27 + 96) h1 out S (by simp; omega)
      refine ⟨h2, ?_, S2⟩
      have T := S.1.1
      have T2 := S2.1.1
      rw [r334_24]
      have p1 : (lN 1 : Int64) = 1 := rfl
      have d0 : (lN (27 ^ 0) : Int64) / 27 = 0 := by decide
      simp only [r334_26, r334_27, r334_28, r334_31, r334_32, r334_33, r334_35, r334_36, r334_39, r334_40, r334_41, r334_43, r334_44, r334_47, r334_49, r334_52, r334_53, r334_55, mx_isr_ref, mx_isr_null, mx_wt_nil, mx_wt_1, mx_wt_2, mx_wt_3, Option.bind_some, Option.toList_some, Option.toList_none, List.cons_append, List.nil_append, mx_nl_int, mx_nl_ref, mx_nl_null, mx_nl_none, mx_nb0, mx_nb1, mx_fb0, mx_fb1, mx_cat_int, mx_cat_ref, if_true, if_false, not_true_eq_false, not_false_eq_true, T, lg_le, e0, dv, e1, lN_i, e2, r2, d0, show ¬ (27 : Int64) = 0 by decide, show ¬ (lN (27 ^ 0) : Int64) = 0 by decide, show (0 : Int64) < lN (27 ^ 0) by decide]
      rw [r334_24]
      simp only [r334_26, r334_27, r334_28, r334_58, mx_isr_ref, mx_isr_null, mx_wt_nil, mx_wt_1, mx_wt_2, mx_wt_3, Option.bind_some, Option.toList_some, Option.toList_none, List.cons_append, List.nil_append, mx_nl_int, mx_nl_ref, mx_nl_null, mx_nl_none, mx_nb0, mx_nb1, mx_fb0, mx_fb1, mx_cat_int, mx_cat_ref, if_true, if_false, not_true_eq_false, not_false_eq_true, lg_le, show ¬ (0 : Int64) < 0 by decide]
    | succ i ih =>
      intro h1 out hi S hlen
      have pi := pm (i + 1) (by omega)
      have pi0 : 0 < (27 : Nat) ^ (i + 1) := Nat.pow_pos (by decide)
      have e0 : lN v / lN (27 ^ (i + 1)) = lN (v / 27 ^ (i + 1)) := lN_div (by omega) (by omega)
      have vd : v / 27 ^ (i + 1) ≤ v := Nat.div_le_self _ _
      have e0' : lN (v / 27 ^ (i + 1)) / 27 = lN (v / 27 ^ (i + 1) / 27) := lN_div (b := 27) (by omega) (by decide)
      have e1 : lN (v / 27 ^ (i + 1)) - lN (v / 27 ^ (i + 1) / 27) * 27 = lN (v / 27 ^ (i + 1) % 27) := by have := lN_rem (a := v / 27 ^ (i + 1)) (b := 27) (by omega) (by decide); rw [← this]; rw [← e0']; rfl
      have e2 : nI (v / 27 ^ (i + 1) % 27) + 96 = nI (v / 27 ^ (i + 1) % 27 + 96) := nI_add _ 96
      have e3 : lN (27 ^ (i + 1)) / 27 = lN (27 ^ i) := by
        have := lN_div (a := 27 ^ (i + 1)) (b := 27) (by omega) (by decide)
        rw [Nat.pow_succ, Nat.mul_div_cancel _ (by decide)] at this
        rw [Nat.pow_succ]
        exact this
      have nz : ¬ lN (27 ^ (i + 1)) = 0 := fun z => by
        have := (lN_inj (a := 27 ^ (i + 1)) (b := 0) (by omega) (by decide)).1 z
        omega
      have ps : (0 < lN (27 ^ (i + 1))) = True := by
        have := lN_ltB (a := 0) (b := 27 ^ (i + 1)) (by decide) (by omega)
        rw [show (lN 0 : Int64) = 0 from rfl] at this
        rw [this]; exact eq_true pi0
      obtain ⟨h2, r2, S2⟩ := wr_out (d := d) (h := h) (wn := wn) (c := v / 27 ^ (i + 1) % 27 + 96) h1 out S (by simp; omega)
      have T := S.1.1
      obtain ⟨h', r', S'⟩ := ih h2 _ (by omega) S2 (by rw [List.length_append, List.length_singleton]; omega)
      rw [List.append_assoc, List.singleton_append] at S'
      refine ⟨h', ?_, S'⟩
      rw [← r', r334_24]
      simp only [r334_26, r334_27, r334_28, r334_31, r334_32, r334_33, r334_35, r334_36, r334_39, r334_40, r334_41, r334_43, r334_44, r334_47, r334_49, r334_52, r334_53, r334_55, mx_isr_ref, mx_isr_null, mx_wt_nil, mx_wt_1, mx_wt_2, mx_wt_3, Option.bind_some, Option.toList_some, Option.toList_none, List.cons_append, List.nil_append, mx_nl_int, mx_nl_ref, mx_nl_null, mx_nl_none, mx_nb0, mx_nb1, mx_fb0, mx_fb1, mx_cat_int, mx_cat_ref, if_true, if_false, not_true_eq_false, not_false_eq_true, T, lg_le, e0, e0', e1, lN_i, e2, r2, e3, nz, ps, show ¬ (27 : Int64) = 0 by decide]
  intro h1 out S hlen
  have ll : l.length = m + 1 := by have := List.length_pos_iff.2 hl; omega
  obtain ⟨h', r, S'⟩ := L2 m h1 out (Nat.le_refl _) S (by omega)
  rw [d3] at S'
  refine ⟨h', ?_, S'⟩
  rw [← r]
  have st : mx_G (d + 1) 334 0 [some (.ref 76), some (.long (lN v)), none, none, none, none, none] [] h1 = mx_G (d + 1) 334 2 [some (.ref 76), some (.long (lN v)), none, some (.long (lN (27 ^ 0))), none, none, none] [] h1 := by
    simp only [r334_0, r334_1, mx_isr_ref, mx_isr_null, mx_wt_nil, mx_wt_1, mx_wt_2, mx_wt_3, Option.bind_some, Option.toList_some, Option.toList_none, List.cons_append, List.nil_append, mx_nl_int, mx_nl_ref, mx_nl_null, mx_nl_none, mx_nb0, mx_nb1, mx_fb0, mx_fb1, mx_cat_int, mx_cat_ref, if_true, if_false, not_true_eq_false, not_false_eq_true]
    rfl
  show mx_G (d + 1) 334 0 [some (.ref 76), some (.long (lN v)), none, none, none, none, none] [] h1 = _
  rw [st, L1 m 0 h1 (Nat.zero_add _)]
  simp only [r334_21, r334_22, mx_isr_ref, mx_isr_null, mx_wt_nil, mx_wt_1, mx_wt_2, mx_wt_3, Option.bind_some, Option.toList_some, Option.toList_none, List.cons_append, List.nil_append, mx_nl_int, mx_nl_ref, mx_nl_null, mx_nl_none, mx_nb0, mx_nb1, mx_fb0, mx_fb1, mx_cat_int, mx_cat_ref, if_true, if_false, not_true_eq_false, not_false_eq_true]
end
