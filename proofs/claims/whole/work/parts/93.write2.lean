section
variable {d : Nat} {h : mx_H}
theorem wr_name {wn : Int32} {l : List Nat} (hl : l ≠ []) (h9 : l.length ≤ 9) (hw : ∀ c ∈ l, 97 ≤ c ∧ c ≤ 122) {u : Int64} (hu : u = lN (enc l)) : wr h wn (fun h1 => mx_G (d + 2) 333 0 [some (.ref 76), some (.long u), none] [] h1) (wN l) := by
  intro h1 out S hlen
  have ll : (wN l).length = l.length + 3 := by simp [wN]
  rw [ll] at hlen
  obtain ⟨h2, r2, S2⟩ := wr_out (d := d + 1) (c := 34) h1 out S (by simp; omega)
  obtain ⟨h3, r3, S3⟩ := wr_word (d := d) hl h9 hw hu h2 _ S2 (by simp; omega)
  obtain ⟨h4, r4, S4⟩ := wr_out (d := d + 1) (c := 34) h3 _ S3 (by simp; omega)
  obtain ⟨h5, r5, S5⟩ := wr_out (d := d + 1) (c := 58) h4 _ S4 (by simp; omega)
  have T1 := S.1.1
  have T2 := S2.1.1
  have T3 := S3.1.1
  have T4 := S4.1.1
  rw [show nI 34 = 34 from rfl] at r2 r4
  rw [show nI 58 = 58 from rfl] at r5
  refine ⟨h5, ?_, ?_⟩
  · simp only [r333_0, r333_1, r333_3, r333_6, r333_7, r333_8, r333_11, r333_12, r333_14, r333_17, r333_18, r333_20, r333_23, mx_isr_ref, mx_isr_null, mx_wt_nil, mx_wt_1, mx_wt_2, mx_wt_3, Option.bind_some, Option.toList_some, Option.toList_none, List.cons_append, List.nil_append, mx_nl_int, mx_nl_ref, mx_nl_null, mx_nl_none, mx_nb0, mx_nb1, mx_fb0, mx_fb1, mx_cat_int, mx_cat_ref, if_true, if_false, not_true_eq_false, not_false_eq_true, T1, T2, T3, T4, r2, r3, r4, r5]
  · have : out ++ [34] ++ l ++ [34] ++ [58] = out ++ wN l := by simp [wN]
    rw [← this]; exact S5
theorem n_l64 (n : Int32) : (¬ 0 ≤ n → -(n.toInt64) = lN (-n.toInt).toNat) ∧ (0 ≤ n → n.toInt64 = lN n.toInt.toNat) := by
  have b1 := n.le_toInt
  have b2 := n.toInt_lt
  constructor
  · intro c
    have c' : n.toInt < 0 := by rw [Int32.le_iff_toInt_le] at c; have : (0 : Int32).toInt = 0 := by decide
                                omega
    apply Int64.toInt_inj.1
    rw [Int64.toInt_neg, Int32.toInt_toInt64, lN_big (by omega), Int.toNat_of_nonneg (by omega)]
    apply Int.bmod_eq_of_le <;> omega
  · intro c
    have c' : 0 ≤ n.toInt := by rw [Int32.le_iff_toInt_le] at c; have : (0 : Int32).toInt = 0 := by decide
                                omega
    apply Int64.toInt_inj.1
    rw [Int32.toInt_toInt64, lN_big (by omega), Int.toNat_of_nonneg c']
theorem wr_dig {wn : Int32} {n : Int32} {v m : Nat} {ds : List Nat} (hv : v < 2 ^ 32) (hm : m ≤ 10) (D : dgP 10 48 v m ds) : wr h wn (fun h1 => mx_G (d + 1) 335 23 [some (.ref 76), some (.int n), some (.long (lN v)), none, none, none, none, none] [] h1) ds := by
  obtain ⟨d1, d2, d3⟩ := D
  have pm : ∀ i, i ≤ 10 → (10 : Nat) ^ i ≤ 10 ^ 10 := fun i hi => Nat.pow_le_pow_right (by decide) hi
  have q9 : (10 : Nat) ^ 10 < 2 ^ 50 := by decide
  have dv : lN v / 10 = lN (v / 10) := lN_div (b := 10) (by omega) (by decide)
  have L1 : ∀ k i h1, i + k = m → mx_G (d + 1) 335 26 [some (.ref 76), some (.int n), some (.long (lN v)), none, some (.long (lN (10 ^ i))), none, none, none] [] h1 = mx_G (d + 1) 335 48 [some (.ref 76), some (.int n), some (.long (lN v)), none, some (.long (lN (10 ^ m))), none, none, none] [] h1 := by
    intro k
    induction k with
    | zero =>
      intro i h1 hi
      have : i = m := by omega
      subst this
      have := pm i (by omega)
      have e : (lN (v / 10) < lN (10 ^ i)) = True := by rw [lN_ltB (by omega) (by omega)]; exact eq_true d1
      simp only [r335_26, r335_28, r335_29, r335_32, r335_33, r335_34, mx_isr_ref, mx_isr_null, mx_wt_nil, mx_wt_1, mx_wt_2, mx_wt_3, Option.bind_some, Option.toList_some, Option.toList_none, List.cons_append, List.nil_append, mx_nl_int, mx_nl_ref, mx_nl_null, mx_nl_none, mx_nb0, mx_nb1, mx_fb0, mx_fb1, mx_cat_int, mx_cat_ref, if_true, if_false, not_true_eq_false, not_false_eq_true, dv, lg_gt, e, show ¬ (10 : Int64) = 0 by decide]
    | succ k ih =>
      intro i h1 hi
      have := pm i (by omega)
      have e : (lN (v / 10) < lN (10 ^ i)) = False := by rw [lN_ltB (by omega) (by omega)]; exact eq_false (by have := d2 i (by omega); omega)
      have e2 : lN (10 ^ i) * 10 = lN (10 ^ (i + 1)) := by rw [show (10 : Int64) = lN 10 from rfl, lN_mul, Nat.pow_succ]
      rw [← ih (i + 1) h1 (by omega), r335_26]
      simp only [r335_28, r335_29, r335_32, r335_33, r335_34, r335_37, r335_39, r335_42, r335_43, r335_45, mx_isr_ref, mx_isr_null, mx_wt_nil, mx_wt_1, mx_wt_2, mx_wt_3, Option.bind_some, Option.toList_some, Option.toList_none, List.cons_append, List.nil_append, mx_nl_int, mx_nl_ref, mx_nl_null, mx_nl_none, mx_nb0, mx_nb1, mx_fb0, mx_fb1, mx_cat_int, mx_cat_ref, if_true, if_false, not_true_eq_false, not_false_eq_true, dv, lg_gt, e, e2, show ¬ (10 : Int64) = 0 by decide]
  have L2 : ∀ i h1 out, i ≤ m → wS h h1 wn out → out.length + (i + 1) < 2 ^ 20 → ∃ h', mx_G (d + 1) 335 52 [some (.ref 76), some (.int n), some (.long (lN v)), none, some (.long (lN (10 ^ m))), none, some (.long (lN (10 ^ i))), none] [] h1 = some (none, h') ∧ wS h h' wn (out ++ dgt 10 48 v i) := by
    intro i
    induction i with
    | zero =>
      intro h1 out hi S hlen
      have e0 : lN v / lN (10 ^ 0) = lN v := by rw [lN_div (by omega) (by decide)]; simp
      have e1 : lN v - lN (v / 10) * 10 = lN (v % 10) := by have := lN_rem (a := v) (b := 10) (by omega) (by decide); rw [← this]; rw [← dv]; rfl
      have e2 : nI (v % 10) + 48 = nI (v % 10 + 48) := nI_add _ 48
      obtain ⟨h2, r2, S2⟩ := wr_out (d := d) (h := h) (wn := wn) (c := v % 10 + 48) h1 out S (by simp; omega)
      refine ⟨h2, ?_, S2⟩
      have T := S.1.1
      rw [r335_52]
      have d0 : (lN (10 ^ 0) : Int64) / 10 = 0 := by decide
      simp only [r335_54, r335_55, r335_56, r335_59, r335_60, r335_61, r335_63, r335_64, r335_67, r335_68, r335_69, r335_71, r335_72, r335_75, r335_77, r335_80, r335_81, r335_83, mx_isr_ref, mx_isr_null, mx_wt_nil, mx_wt_1, mx_wt_2, mx_wt_3, Option.bind_some, Option.toList_some, Option.toList_none, List.cons_append, List.nil_append, mx_nl_int, mx_nl_ref, mx_nl_null, mx_nl_none, mx_nb0, mx_nb1, mx_fb0, mx_fb1, mx_cat_int, mx_cat_ref, if_true, if_false, not_true_eq_false, not_false_eq_true, T, lg_le, e0, dv, e1, lN_i, e2, r2, d0, show ¬ (10 : Int64) = 0 by decide, show ¬ (lN (10 ^ 0) : Int64) = 0 by decide, show (0 : Int64) < lN (10 ^ 0) by decide]
      rw [r335_52]
      simp only [r335_54, r335_55, r335_56, r335_86, mx_isr_ref, mx_isr_null, mx_wt_nil, mx_wt_1, mx_wt_2, mx_wt_3, Option.bind_some, Option.toList_some, Option.toList_none, List.cons_append, List.nil_append, mx_nl_int, mx_nl_ref, mx_nl_null, mx_nl_none, mx_nb0, mx_nb1, mx_fb0, mx_fb1, mx_cat_int, mx_cat_ref, if_true, if_false, not_true_eq_false, not_false_eq_true, lg_le, show ¬ (0 : Int64) < 0 by decide]
    | succ i ih =>
      intro h1 out hi S hlen
      have pi := pm (i + 1) (by omega)
      have pi0 : 0 < (10 : Nat) ^ (i + 1) := Nat.pow_pos (by decide)
      have e0 : lN v / lN (10 ^ (i + 1)) = lN (v / 10 ^ (i + 1)) := lN_div (by omega) (by omega)
      have vd : v / 10 ^ (i + 1) ≤ v := Nat.div_le_self _ _
      have e0' : lN (v / 10 ^ (i + 1)) / 10 = lN (v / 10 ^ (i + 1) / 10) := lN_div (b := 10) (by omega) (by decide)
      have e1 : lN (v / 10 ^ (i + 1)) - lN (v / 10 ^ (i + 1) / 10) * 10 = lN (v / 10 ^ (i + 1) % 10) := by have := lN_rem (a := v / 10 ^ (i + 1)) (b := 10) (by omega) (by decide); rw [← this]; rw [← e0']; rfl
      have e2 : nI (v / 10 ^ (i + 1) % 10) + 48 = nI (v / 10 ^ (i + 1) % 10 + 48) := nI_add _ 48
      have e3 : lN (10 ^ (i + 1)) / 10 = lN (10 ^ i) := by
        have := lN_div (a := 10 ^ (i + 1)) (b := 10) (by omega) (by decide)
        rw [Nat.pow_succ, Nat.mul_div_cancel _ (by decide)] at this
        rw [Nat.pow_succ]
        exact this
      have nz : ¬ lN (10 ^ (i + 1)) = 0 := fun z => by
        have := (lN_inj (a := 10 ^ (i + 1)) (b := 0) (by omega) (by decide)).1 z
        omega
      have ps : (0 < lN (10 ^ (i + 1))) = True := by
        have := lN_ltB (a := 0) (b := 10 ^ (i + 1)) (by decide) (by omega)
        rw [show (lN 0 : Int64) = 0 from rfl] at this
        rw [this]; exact eq_true pi0
      obtain ⟨h2, r2, S2⟩ := wr_out (d := d) (h := h) (wn := wn) (c := v / 10 ^ (i + 1) % 10 + 48) h1 out S (by simp; omega)
      have T := S.1.1
      obtain ⟨h', r', S'⟩ := ih h2 _ (by omega) S2 (by rw [List.length_append, List.length_singleton]; omega)
      rw [List.append_assoc, List.singleton_append] at S'
      refine ⟨h', ?_, S'⟩
      rw [← r', r335_52]
      simp only [r335_54, r335_55, r335_56, r335_59, r335_60, r335_61, r335_63, r335_64, r335_67, r335_68, r335_69, r335_71, r335_72, r335_75, r335_77, r335_80, r335_81, r335_83, mx_isr_ref, mx_isr_null, mx_wt_nil, mx_wt_1, mx_wt_2, mx_wt_3, Option.bind_some, Option.toList_some, Option.toList_none, List.cons_append, List.nil_append, mx_nl_int, mx_nl_ref, mx_nl_null, mx_nl_none, mx_nb0, mx_nb1, mx_fb0, mx_fb1, mx_cat_int, mx_cat_ref, if_true, if_false, not_true_eq_false, not_false_eq_true, T, lg_le, e0, e0', e1, lN_i, e2, r2, e3, nz, ps, show ¬ (10 : Int64) = 0 by decide]
  intro h1 out S hlen
  have ll : ds.length = m + 1 := by rw [← d3, dgt_len]
  obtain ⟨h', r, S'⟩ := L2 m h1 out (Nat.le_refl _) S (by omega)
  rw [d3] at S'
  refine ⟨h', ?_, S'⟩
  rw [← r]
  have st : mx_G (d + 1) 335 23 [some (.ref 76), some (.int n), some (.long (lN v)), none, none, none, none, none] [] h1 = mx_G (d + 1) 335 26 [some (.ref 76), some (.int n), some (.long (lN v)), none, some (.long (lN (10 ^ 0))), none, none, none] [] h1 := by
    simp only [r335_23, r335_24, mx_isr_ref, mx_isr_null, mx_wt_nil, mx_wt_1, mx_wt_2, mx_wt_3, Option.bind_some, Option.toList_some, Option.toList_none, List.cons_append, List.nil_append, mx_nl_int, mx_nl_ref, mx_nl_null, mx_nl_none, mx_nb0, mx_nb1, mx_fb0, mx_fb1, mx_cat_int, mx_cat_ref, if_true, if_false, not_true_eq_false, not_false_eq_true]
    rfl
  show mx_G (d + 1) 335 23 [some (.ref 76), some (.int n), some (.long (lN v)), none, none, none, none, none] [] h1 = _
  rw [st, L1 m 0 h1 (Nat.zero_add _)]
  simp only [r335_48, r335_50, mx_isr_ref, mx_isr_null, mx_wt_nil, mx_wt_1, mx_wt_2, mx_wt_3, Option.bind_some, Option.toList_some, Option.toList_none, List.cons_append, List.nil_append, mx_nl_int, mx_nl_ref, mx_nl_null, mx_nl_none, mx_nb0, mx_nb1, mx_fb0, mx_fb1, mx_cat_int, mx_cat_ref, if_true, if_false, not_true_eq_false, not_false_eq_true]
theorem wr_num {wn n : Int32} : wr h wn (fun h1 => mx_G (d + 1) 335 0 [some (.ref 76), some (.int n), none, none, none, none, none, none] [] h1) (wI n.toInt) := by
  intro h1 out S hlen
  have b1 := n.le_toInt
  have b2 := n.toInt_lt
  have T := S.1.1
  have big : (2 : Nat) ^ 32 < 10 ^ (10 + 1) := by decide
  unfold wI at hlen ⊢
  by_cases c : 0 ≤ n
  · have c' : ¬ n.toInt < 0 := by rw [Int32.le_iff_toInt_le] at c; have : (0 : Int32).toInt = 0 := by decide
                                  omega
    rw [if_neg c'] at hlen ⊢
    obtain ⟨m, hm, D⟩ := dgP_num 10 n.toInt.toNat (by omega)
    obtain ⟨h', r, S'⟩ := wr_dig (d := d) (n := n) (by omega) hm D h1 out S hlen
    have e := (n_l64 n).2 c
    refine ⟨h', ?_, S'⟩
    refine Eq.trans ?_ r
    simp only [r335_0, r335_1, r335_4, r335_5, r335_6, r335_7, r335_10, r335_11, r335_12, r335_13, r335_14, mx_isr_ref, mx_isr_null, mx_wt_nil, mx_wt_1, mx_wt_2, mx_wt_3, Option.bind_some, Option.toList_some, Option.toList_none, List.cons_append, List.nil_append, mx_nl_int, mx_nl_ref, mx_nl_null, mx_nl_none, mx_nb0, mx_nb1, mx_fb0, mx_fb1, mx_cat_int, mx_cat_ref, if_true, if_false, not_true_eq_false, not_false_eq_true, c, e]
  · have c' : n.toInt < 0 := by rw [Int32.le_iff_toInt_le] at c; have : (0 : Int32).toInt = 0 := by decide
                                omega
    rw [if_pos c'] at hlen ⊢
    simp only [List.length_cons] at hlen
    obtain ⟨h2, r2, S2⟩ := wr_out (d := d) (c := 45) h1 out S (by simp; omega)
    rw [show nI 45 = 45 from rfl] at r2
    obtain ⟨m, hm, D⟩ := dgP_num 10 (-n.toInt).toNat (by omega)
    obtain ⟨h', r, S'⟩ := wr_dig (d := d) (n := n) (by omega) hm D h2 _ S2 (by simp; omega)
    rw [List.append_assoc, List.singleton_append] at S'
    have e := (n_l64 n).1 c
    refine ⟨h', ?_, S'⟩
    refine Eq.trans ?_ r
    simp only [r335_0, r335_1, r335_4, r335_5, r335_6, r335_7, r335_10, r335_11, r335_12, r335_13, r335_14, r335_17, r335_18, r335_20, mx_isr_ref, mx_isr_null, mx_wt_nil, mx_wt_1, mx_wt_2, mx_wt_3, Option.bind_some, Option.toList_some, Option.toList_none, List.cons_append, List.nil_append, mx_nl_int, mx_nl_ref, mx_nl_null, mx_nl_none, mx_nb0, mx_nb1, mx_fb0, mx_fb1, mx_cat_int, mx_cat_ref, if_true, if_false, not_true_eq_false, not_false_eq_true, T, c, e, r2]
def esc (c : Nat) : List Nat := if c = 34 ∨ c = 92 then [92, c] else [c]
theorem txR_mf {P : Nat → Nat → Bool} {h h' : mx_H} {s o : Nat} {l : List Nat} (R : txR h s o l) (m : mf P h h') (hP : ∀ k, P 77 k = false) : txR h' s o l := ⟨R.1, R.2.1, R.2.2.1, fun j hj => (m.2.1 _ _ (hP _)).trans (R.2.2.2 j hj)⟩
theorem fm_len (suf : List Nat) : (suf.flatMap esc).length ≤ 2 * suf.length := by
  induction suf with
  | nil => simp
  | cons c suf ih =>
    rw [List.flatMap_cons, List.length_append, List.length_cons]
    have : (esc c).length ≤ 2 := by unfold esc; split <;> simp
    omega
theorem wr_text {wn : Int32} {s o : Nat} {l : List Nat} (R : txR h s o l) : wr h wn (fun h1 => mx_G (d + 1) 336 0 [some (.ref 76), some (.int (nI s)), some (.int (nI o)), none, none] [] h1) (wT l) := by
  have rb := R.2.2.1
  have l12 := R.1
  have L : ∀ (suf : List Nat) (k : Nat) (h1 : mx_H) (out : List Nat) (l4 : Option Value), l.drop k = suf → k ≤ l.length → wS h h1 wn out → out.length + (suf.flatMap esc).length + 1 < 2 ^ 20 → ∃ h', mx_G (d + 1) 336 8 [some (.ref 76), some (.int (nI s)), some (.int (nI o)), some (.int (nI k)), l4] [] h1 = some (none, h') ∧ wS h h' wn (out ++ suf.flatMap esc ++ [34]) := by
    intro suf
    induction suf with
    | nil =>
      intro k h1 out l4 hs hk S hlen
      have T := S.1.1
      have k1 := List.drop_eq_nil_iff.1 hs
      have f := rm_f (d := d) T (s := s) (o := o) (by omega)
      have rd := (txR_mf R S.1 fun _ => rfl).2.2.2 0 (by decide)
      rw [show 80 * s + o + 0 = 80 * s + o from rfl] at rd
      rw [rd, show te l 0 = nI l.length from rfl] at f
      have e1 : nI l.length ≤ nI k := nI_le (by omega) (by omega)
      obtain ⟨h2, r2, S2⟩ := wr_out (d := d) (c := 34) h1 out S (by simp at hlen ⊢; omega)
      rw [show nI 34 = 34 from rfl] at r2
      refine ⟨h2, ?_, by simpa using S2⟩
      simp only [r336_8, r336_9, r336_10, r336_11, r336_12, r336_15, r336_62, r336_63, r336_65, r336_68, mx_isr_ref, mx_isr_null, mx_wt_nil, mx_wt_1, mx_wt_2, mx_wt_3, Option.bind_some, Option.toList_some, Option.toList_none, List.cons_append, List.nil_append, mx_nl_int, mx_nl_ref, mx_nl_null, mx_nl_none, mx_nb0, mx_nb1, mx_fb0, mx_fb1, mx_cat_int, mx_cat_ref, if_true, if_false, not_true_eq_false, not_false_eq_true, T, f, e1, r2]
    | cons c suf ih =>
      intro k h1 out l4 hs hk S hlen
      have T := S.1.1
      obtain ⟨d1, d2, d3⟩ := dropC hs
      have f := rm_f (d := d) T (s := s) (o := o) (by omega)
      have R1 := txR_mf R S.1 fun _ => rfl
      have rd := R1.2.2.2 0 (by decide)
      rw [show 80 * s + o + 0 = 80 * s + o from rfl] at rd
      rw [rd, show te l 0 = nI l.length from rfl] at f
      have e1 : ¬ nI l.length ≤ nI k := nI_ge d2 (by omega)
      have g := rm_f (d := d) T (s := s) (o := o + 1 + k) (by omega)
      have rg := R1.2.2.2 (1 + k) (by omega)
      have ec : l.getD k 0 = c := by rw [List.getD_eq_getElem?_getD, d3]; rfl
      have te1 : te l (1 + k) = nI c := by unfold te; rw [if_neg (by omega), show 1 + k - 1 = k by omega, ec]
      rw [show 80 * s + (o + 1 + k) = 80 * s + o + (1 + k) by omega, rg, te1] at g
      have hc : c < 128 := R.2.1 c (List.mem_of_getElem? d3)
      rw [List.flatMap_cons, List.length_append] at hlen
      by_cases cq : c = 34 ∨ c = 92
      · have ee : esc c = [92, c] := by unfold esc; rw [if_pos cq]
        rw [ee] at hlen
        simp only [List.length_cons, List.length_nil] at hlen
        obtain ⟨h2, r2, S2⟩ := wr_out (d := d) (c := 92) h1 out S (by simp; omega)
        rw [show nI 92 = 92 from rfl] at r2
        obtain ⟨h3, r3, S3⟩ := wr_out (d := d) (c := c) h2 _ S2 (by simp; omega)
        have T2 := S2.1.1
        have T3 := S3.1.1
        obtain ⟨h', r', S'⟩ := ih (k + 1) h3 _ (some (.int (nI c))) d1 (by omega) S3 (by simp only [List.length_append, List.length_cons, List.length_nil]; omega)
        refine ⟨h', ?_, by rw [List.flatMap_cons, ee]; simpa using S'⟩
        rw [← r', r336_8]
        by_cases c34 : c = 34
        · have e34 : nI c = 34 := by rw [c34]; rfl
          simp only [r336_9, r336_10, r336_11, r336_12, r336_15, r336_18, r336_19, r336_20, r336_21, r336_22, r336_23, r336_24, r336_25, r336_28, r336_30, r336_32, r336_34, r336_37, r336_39, r336_41, r336_44, r336_45, r336_47, r336_50, r336_51, r336_53, r336_56, r336_59, mx_isr_ref, mx_isr_null, mx_wt_nil, mx_wt_1, mx_wt_2, mx_wt_3, Option.bind_some, Option.toList_some, Option.toList_none, List.cons_append, List.nil_append, mx_nl_int, mx_nl_ref, mx_nl_null, mx_nl_none, mx_nb0, mx_nb1, mx_fb0, mx_fb1, mx_cat_int, mx_cat_ref, if_true, if_false, not_true_eq_false, not_false_eq_true, T, T2, f, e1, nI_1, nI_add, g, eq_true e34, r2, r3]
        · have e34 : ¬ nI c = 34 := fun z => c34 ((nI_eq (b := 34) (by omega) (by decide)).mp z)
          have e92 : nI c = 92 := by rcases cq with z | z; exact absurd z c34; rw [z]; rfl
          simp only [r336_9, r336_10, r336_11, r336_12, r336_15, r336_18, r336_19, r336_20, r336_21, r336_22, r336_23, r336_24, r336_25, r336_28, r336_30, r336_32, r336_34, r336_37, r336_39, r336_41, r336_44, r336_45, r336_47, r336_50, r336_51, r336_53, r336_56, r336_59, mx_isr_ref, mx_isr_null, mx_wt_nil, mx_wt_1, mx_wt_2, mx_wt_3, Option.bind_some, Option.toList_some, Option.toList_none, List.cons_append, List.nil_append, mx_nl_int, mx_nl_ref, mx_nl_null, mx_nl_none, mx_nb0, mx_nb1, mx_fb0, mx_fb1, mx_cat_int, mx_cat_ref, if_true, if_false, not_true_eq_false, not_false_eq_true, T, T2, f, e1, nI_1, nI_add, g, eq_false e34, eq_true e92, r2, r3]
      · have ee : esc c = [c] := by unfold esc; rw [if_neg cq]
        rw [ee] at hlen
        simp only [List.length_cons, List.length_nil] at hlen
        obtain ⟨h3, r3, S3⟩ := wr_out (d := d) (c := c) h1 out S (by simp; omega)
        have T3 := S3.1.1
        obtain ⟨h', r', S'⟩ := ih (k + 1) h3 _ (some (.int (nI c))) d1 (by omega) S3 (by simp only [List.length_append, List.length_cons, List.length_nil]; omega)
        refine ⟨h', ?_, by rw [List.flatMap_cons, ee]; simpa using S'⟩
        have e34 : ¬ nI c = 34 := fun z => cq (Or.inl ((nI_eq (b := 34) (by omega) (by decide)).mp z))
        have e92 : ¬ nI c = 92 := fun z => cq (Or.inr ((nI_eq (b := 92) (by omega) (by decide)).mp z))
        rw [← r', r336_8]
        simp only [r336_9, r336_10, r336_11, r336_12, r336_15, r336_18, r336_19, r336_20, r336_21, r336_22, r336_23, r336_24, r336_25, r336_28, r336_30, r336_32, r336_34, r336_37, r336_39, r336_41, r336_44, r336_45, r336_47, r336_50, r336_51, r336_53, r336_56, r336_59, mx_isr_ref, mx_isr_null, mx_wt_nil, mx_wt_1, mx_wt_2, mx_wt_3, Option.bind_some, Option.toList_some, Option.toList_none, List.cons_append, List.nil_append, mx_nl_int, mx_nl_ref, mx_nl_null, mx_nl_none, mx_nb0, mx_nb1, mx_fb0, mx_fb1, mx_cat_int, mx_cat_ref, if_true, if_false, not_true_eq_false, not_false_eq_true, T, f, e1, nI_1, nI_add, g, eq_false e34, eq_false e92, r3]
  intro h1 out S hlen
  have T := S.1.1
  have wl : (wT l).length = (l.flatMap esc).length + 2 := by show ([34] ++ l.flatMap esc ++ [34]).length = _; simp only [List.length_append, List.length_cons, List.length_nil]; omega
  rw [wl] at hlen
  obtain ⟨h2, r2, S2⟩ := wr_out (d := d) (c := 34) h1 out S (by simp; omega)
  rw [show nI 34 = 34 from rfl] at r2
  have T2 := S2.1.1
  obtain ⟨h', r', S'⟩ := L l 0 h2 _ none rfl (Nat.zero_le _) S2 (by simp only [List.length_append, List.length_cons, List.length_nil]; omega)
  refine ⟨h', ?_, ?_⟩
  · refine Eq.trans ?_ r'
    simp only [r336_0, r336_1, r336_3, r336_6, r336_7, mx_isr_ref, mx_isr_null, mx_wt_nil, mx_wt_1, mx_wt_2, mx_wt_3, Option.bind_some, Option.toList_some, Option.toList_none, List.cons_append, List.nil_append, mx_nl_int, mx_nl_ref, mx_nl_null, mx_nl_none, mx_nb0, mx_nb1, mx_fb0, mx_fb1, mx_cat_int, mx_cat_ref, if_true, if_false, not_true_eq_false, not_false_eq_true, T, r2]
    rfl
  · have : out ++ [34] ++ l.flatMap esc ++ [34] = out ++ wT l := by show _ = out ++ ([34] ++ l.flatMap esc ++ [34]); simp
    rw [← this]; exact S'
end
