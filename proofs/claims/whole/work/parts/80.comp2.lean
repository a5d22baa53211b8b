section
variable {d : Nat} {h : mx_H} {ts : List tk}
def cX (d : Nat) (h : mx_H) (t it : Int32) (A : Int32) (Q : mx_H → Prop) (k : Nat) (wants : Bool) (D : Nat) (w : Bool) (s : List Nat) (out : List stp) (i : Nat) : Prop := ∀ (h1 : mx_H) (l6 : Option Value), mf Pcp h h1 → cR h1 D w false s out i →
  ∃ h', mx_G (d + 4) 292 36 [some (.ref 76), some (.int t), some (.int it), some (.int (nI k)), some (.int (if wants = true then 1 else 0)), some (.int 1), l6] [] h1 = some (some (.int A), h') ∧ mf Pcp h h' ∧ Q h'
/-- it ends wrong -/
theorem rm_cpW {D : Nat} {w : Bool} {s : List Nat} {out : List stp} {i : Nat} {t it k wt on : Int32} {l6 : Option Value} (C : cR h D w true s out i) (hl : out.length + s.length < 130) : ∃ h', mx_G (d + 4) 292 36 [some (.ref 76), some (.int t), some (.int it), some (.int k), some (.int wt), some (.int on), l6] [] h = some (some (.int (-1)), h') ∧ mf Pcp h h' := by
  have T := C.1
  obtain ⟨h1, r1, m1, C1⟩ := rm_reduce (d := d + 2) true s out h C hl
  have r1 : mx_G (d + 3) 299 0 [some (.ref 76), some (.int 1)] [] h = some (none, h1) := r1
  have T1 := C1.1
  have w1 : mi h 76 23 = 1 := C.2.2.2.2.1
  have w2 : mi h1 76 23 = 1 := C1.2.2.2.2.1
  refine ⟨h1, ?_, m1⟩
  by_cases c : on = 0
  · simp only [r292_36, r292_38, r292_41, r292_42, r292_45, r292_202, r292_203, r292_204, r292_207, r292_208, r292_211, r292_214, r292_215, r292_218, r292_221, r292_222, r292_225, r292_226, mx_isr_ref, mx_isr_null, mx_wt_nil, mx_wt_1, mx_wt_2, mx_wt_3, Option.bind_some, Option.toList_some, Option.toList_none, List.cons_append, List.nil_append, mx_nl_int, mx_nl_ref, mx_nl_null, mx_nl_none, mx_nb0, mx_nb1, mx_fb0, mx_fb1, mx_cat_int, mx_cat_ref, if_true, if_false, not_true_eq_false, not_false_eq_true, T, T1, r1, w1, w2, eq_true c, show ¬ (1 : Int32) = 0 by decide]
  · simp only [r292_36, r292_38, r292_41, r292_42, r292_45, r292_202, r292_203, r292_204, r292_207, r292_208, r292_211, r292_214, r292_215, r292_218, r292_221, r292_222, r292_225, r292_226, mx_isr_ref, mx_isr_null, mx_wt_nil, mx_wt_1, mx_wt_2, mx_wt_3, Option.bind_some, Option.toList_some, Option.toList_none, List.cons_append, List.nil_append, mx_nl_int, mx_nl_ref, mx_nl_null, mx_nl_none, mx_nb0, mx_nb1, mx_fb0, mx_fb1, mx_cat_int, mx_cat_ref, if_true, if_false, not_true_eq_false, not_false_eq_true, T, T1, r1, w1, w2, eq_false c, show ¬ (1 : Int32) = 0 by decide]
/-- it ends -/
theorem rm_cpE {D : Nat} {w : Bool} {s s' : List Nat} {out out' : List stp} {i : Nat} {t it k wt : Int32} {l6 : Option Value} (C : cR h D w false s out i) (hl : out.length + s.length < 130) (hr : red true s out = (s', out')) : ∃ h', mx_G (d + 4) 292 36 [some (.ref 76), some (.int t), some (.int it), some (.int k), some (.int wt), some (.int 0), l6] [] h = some (some (.int (if s' = [] then k else -1)), h') ∧ mf Pcp h h' ∧ outR h' out' := by
  have T := C.1
  obtain ⟨h1, r1, m1, C1⟩ := rm_reduce (d := d + 2) true s out h C hl
  have rl := red_len true s out
  rw [hr] at C1 rl
  have r1 : mx_G (d + 3) 299 0 [some (.ref 76), some (.int 1)] [] h = some (none, h1) := r1
  have T1 := C1.1
  have w2 : mi h1 76 23 = 0 := C1.2.2.2.2.1
  have c6 : mi h1 76 19 = nI s'.length := C1.2.2.2.2.2.2.1
  refine ⟨h1, ?_, m1, C1.2.2.2.2.2.2.2.2⟩
  cases s' with
  | nil =>
    rw [show ([] : List Nat).length = 0 from rfl, show nI 0 = 0 from rfl] at c6
    simp only [r292_36, r292_38, r292_202, r292_203, r292_204, r292_207, r292_208, r292_211, r292_214, r292_215, r292_218, r292_221, r292_222, r292_225, r292_226, mx_isr_ref, mx_isr_null, mx_wt_nil, mx_wt_1, mx_wt_2, mx_wt_3, Option.bind_some, Option.toList_some, Option.toList_none, List.cons_append, List.nil_append, mx_nl_int, mx_nl_ref, mx_nl_null, mx_nl_none, mx_nb0, mx_nb1, mx_fb0, mx_fb1, mx_cat_int, mx_cat_ref, if_true, if_false, not_true_eq_false, not_false_eq_true, T, T1, r1, w2, c6, show (0 : Int32) ≤ 0 by decide]
  | cons x s' =>
    have e : ¬ nI (x :: s').length ≤ 0 := nI_nle (by simp) (by simp only at rl; omega)
    rw [if_neg (fun z => by cases z)]
    simp only [r292_36, r292_38, r292_202, r292_203, r292_204, r292_207, r292_208, r292_211, r292_214, r292_215, r292_218, r292_221, r292_222, r292_225, r292_226, mx_isr_ref, mx_isr_null, mx_wt_nil, mx_wt_1, mx_wt_2, mx_wt_3, Option.bind_some, Option.toList_some, Option.toList_none, List.cons_append, List.nil_append, mx_nl_int, mx_nl_ref, mx_nl_null, mx_nl_none, mx_nb0, mx_nb1, mx_fb0, mx_fb1, mx_cat_int, mx_cat_ref, if_true, if_false, not_true_eq_false, not_false_eq_true, T, T1, r1, w2, c6, e]
theorem cp_tok {k : Nat} (S : rm_TK h ts) (hk : k ≤ ts.length) : True := True.intro
theorem cp_fw (S : rm_TK h ts) {t it A : Int32} {Q : mx_H → Prop} : fwd ts (cX d h t it A Q) := by
  have hl := S.1.2.1
  -- an operand that opens a pair
  have opens : ∀ (k k' D : Nat) (w w' : Bool) (s s' : List Nat) (out out' : List stp) (i i' : Nat), k' ≤ 200 → (∀ h1, mf Pcp h h1 → cR h1 D w false s out i → ∃ h', mx_G (d + 3) 293 0 [some (.ref 76), some (.int (nI k))] [] h1 = some (some (.int (nI k')), h') ∧ mf Pcp h1 h' ∧ cR h' (D + 1) w' false s' out' i') → D ≤ 6 → cX d h t it A Q k' true (D + 1) w' s' out' i' → cX d h t it A Q k true D w s out i := by
    intro k k' D w w' s s' out out' i i' hk' hop hD hX h1 l6 m C
    have T := C.1
    have w1 : mi h1 76 23 = 0 := C.2.2.2.2.1
    have d1 := C.2.1
    obtain ⟨h2, r2, m2, C2⟩ := hop h1 m C
    have T2 := C2.1
    have d2 := C2.2.1
    obtain ⟨h', r', m', q'⟩ := hX h2 (some (.int (nI D))) (mf_trans m m2) C2
    refine ⟨h', ?_, m', q'⟩
    rw [← r']
    have e : ¬ nI (D + 1) ≤ nI D := nI_ge (by omega) (by omega)
    rw [r292_36]
    simp only [r292_38, r292_41, r292_42, r292_45, r292_48, r292_50, r292_53, r292_54, r292_57, r292_59, r292_60, r292_61, r292_64, r292_65, r292_66, r292_69, r292_71, r292_74, r292_75, r292_78, r292_79, r292_81, mx_isr_ref, mx_isr_null, mx_wt_nil, mx_wt_1, mx_wt_2, mx_wt_3, Option.bind_some, Option.toList_some, Option.toList_none, List.cons_append, List.nil_append, mx_nl_int, mx_nl_ref, mx_nl_null, mx_nl_none, mx_nb0, mx_nb1, mx_fb0, mx_fb1, mx_cat_int, mx_cat_ref, if_true, if_false, not_true_eq_false, not_false_eq_true, T, T2, w1, d1, d2, r2, e, show ¬ (1 : Int32) = 0 by decide]
  have clos : ∀ (k D : Nat) (w w' : Bool) (s s' : List Nat) (out out' : List stp) (i : Nat) (b : Bool), tI ts k (if b = true then 93 else 41) = true → (∀ h1, mf Pcp h h1 → cR h1 (D + 1) w false s out i → ∃ h', mx_G (d + 3) 300 0 [some (.ref 76), some (.int (if b = true then 1 else 0)), none] [] h1 = some (some (.int 1), h') ∧ mf Pcp h1 h' ∧ cR h' D w' false s' out' i) → cX d h t it A Q (k + 1) false D w' s' out' i → cX d h t it A Q k false (D + 1) w s out i := by
    intro k D w w' s s' out out' i b hb hcl hX h1 l6 m C
    have T := C.1
    have S1 := TK_mf S m tkcp
    have w1 : mi h1 76 23 = 0 := C.2.2.2.2.1
    obtain ⟨h2, r2, m2, C2⟩ := hcl h1 m C
    have T2 := C2.1
    obtain ⟨h', r', m', q'⟩ := hX h2 l6 (mf_trans m m2) C2
    refine ⟨h', ?_, m', q'⟩
    rw [← r']
    have kl : k < ts.length := tI_lt (by cases b <;> decide) hb
    have y := rm_saysF (d := d + 3) S1 (t := k) (by omega)
    have j := rm_isF (d := d + 3) S1.1 (t := k) (by omega)
    have a1 : tW ts k w_and = false := tI_tW hb (by cases b <;> decide)
    have a2 : tW ts k w_or = false := tI_tW hb (by cases b <;> decide)
    rw [r292_36]
    cases b with
    | true =>
      have hb : tI ts k 93 = true := hb
      have hb' : tI ts k 41 = false := by rw [tI_ne]; rw [tI_eq] at hb; omega
      simp only [if_true] at r2
      simp only [r292_38, r292_41, r292_42, r292_45, r292_48, r292_50, r292_84, r292_85, r292_86, r292_89, r292_92, r292_95, r292_96, r292_97, r292_100, r292_103, r292_147, r292_148, r292_149, r292_151, r292_154, r292_157, r292_158, r292_159, r292_161, r292_164, r292_167, r292_168, r292_169, r292_170, r292_172, r292_175, r292_178, r292_180, r292_182, r292_185, r292_186, r292_187, r292_188, r292_191, r292_192, r292_193, mx_isr_ref, mx_isr_null, mx_wt_nil, mx_wt_1, mx_wt_2, mx_wt_3, Option.bind_some, Option.toList_some, Option.toList_none, List.cons_append, List.nil_append, mx_nl_int, mx_nl_ref, mx_nl_null, mx_nl_none, mx_nb0, mx_nb1, mx_fb0, mx_fb1, mx_cat_int, mx_cat_ref, if_true, if_false, not_true_eq_false, not_false_eq_true, T, T2, w1, y, j, a1, a2, hb, hb', r2, nI_1, Bool.false_eq_true, show ¬ (1 : Int32) = 0 by decide]
    | false =>
      have hb : tI ts k 41 = true := hb
      have hb' : tI ts k 93 = false := by rw [tI_ne]; rw [tI_eq] at hb; omega
      simp only [Bool.false_eq_true, if_false] at r2
      simp only [r292_38, r292_41, r292_42, r292_45, r292_48, r292_50, r292_84, r292_85, r292_86, r292_89, r292_92, r292_95, r292_96, r292_97, r292_100, r292_103, r292_147, r292_148, r292_149, r292_151, r292_154, r292_157, r292_158, r292_159, r292_161, r292_164, r292_167, r292_168, r292_169, r292_170, r292_172, r292_175, r292_178, r292_180, r292_182, r292_185, r292_186, r292_187, r292_188, r292_191, r292_192, r292_193, mx_isr_ref, mx_isr_null, mx_wt_nil, mx_wt_1, mx_wt_2, mx_wt_3, Option.bind_some, Option.toList_some, Option.toList_none, List.cons_append, List.nil_append, mx_nl_int, mx_nl_ref, mx_nl_null, mx_nl_none, mx_nb0, mx_nb1, mx_fb0, mx_fb1, mx_cat_int, mx_cat_ref, if_true, if_false, not_true_eq_false, not_false_eq_true, T, T2, w1, y, j, a1, a2, hb, hb', r2, nI_1, Bool.false_eq_true, show ¬ (1 : Int32) = 0 by decide]
  refine ⟨?_, ?_, ?_, ?_, ?_, ?_, ?_, ?_, ?_⟩
  · intro k D w s out i hb hk hD h1 h2 hX
    have kl := tI_lt (by decide) h2
    refine opens k (k + 2) D w w s (4 :: s) out out i i (by omega) (fun h1 m C => ?_) (by omega) hX
    obtain ⟨h', r, m', C'⟩ := rm_opN (d := d) (TK_mf S m tkcp) C (by omega) (by omega) (by assumption) (by assumption)
    rw [decide_eq_false (by omega)] at C'
    exact ⟨h', r, m', C'⟩
  · intro k D w s out i hb hk hD h1 hX
    have kl := tI_lt (by decide) h1
    refine opens k (k + 1) D w w s (3 :: s) out out i i (by omega) (fun h1 m C => ?_) (by omega) hX
    obtain ⟨h', r, m', C'⟩ := rm_opP (d := d) (TK_mf S m tkcp) C (by omega) (by omega) (by assumption)
    rw [decide_eq_false (by omega)] at C'
    exact ⟨h', r, m', C'⟩
  · intro k D s out i hb hk hD h1 h2 hX
    have kl := tI_lt (by decide) h2
    refine opens k (k + 2) D false true s (5 :: s) out (out ++ [sp 5]) i out.length (by omega) (fun h1 m C => ?_) (by omega) hX
    obtain ⟨h', r, m', C'⟩ := rm_opI (d := d) (TK_mf S m tkcp) C (by omega) (by omega) (by omega) (by assumption) (by assumption)
    rw [decide_eq_false (by omega)] at C'
    exact ⟨h', r, m', C'⟩
  · intro k D w s out i q hb hk hD n1 n2 n3 hc hX h1 l6 m C
    have T := C.1
    have w1 : mi h1 76 23 = 0 := C.2.2.2.2.1
    have d1 := C.2.1
    obtain ⟨h2, r2, m2, C2⟩ := rm_opT (d := d) (TK_mf S m tkcp) C hk (by omega) n1 n2 n3
    rw [decide_eq_false (by rw [hc]; exact fun z => by cases z)] at C2
    have eq : q = ((0, pAt ts w k, opw ts (oAt ts w k), oAt ts w k + 1), if opw ts (oAt ts w k) = w_pr then oAt ts w k + 1 else oAt ts w k + 2) := by
      unfold cC at hc
      split at hc
      · cases hc
      · cases hc; rfl
    have T2 := C2.1
    have d2 := C2.2.1
    have bd := cC_bd hc
    subst eq
    obtain ⟨h', r', m', q'⟩ := hX h2 (some (.int (nI D))) (mf_trans m m2) C2
    refine ⟨h', ?_, m', q'⟩
    rw [← r']
    have e : nI D ≤ nI D := nI_le (Nat.le_refl _) (by omega)
    rw [r292_36]
    simp only [r292_38, r292_41, r292_42, r292_45, r292_48, r292_50, r292_53, r292_54, r292_57, r292_59, r292_60, r292_61, r292_64, r292_65, r292_66, r292_69, r292_71, r292_74, r292_75, r292_78, r292_79, r292_81, mx_isr_ref, mx_isr_null, mx_wt_nil, mx_wt_1, mx_wt_2, mx_wt_3, Option.bind_some, Option.toList_some, Option.toList_none, List.cons_append, List.nil_append, mx_nl_int, mx_nl_ref, mx_nl_null, mx_nl_none, mx_nb0, mx_nb1, mx_fb0, mx_fb1, mx_cat_int, mx_cat_ref, if_true, if_false, not_true_eq_false, not_false_eq_true, T, T2, w1, d1, d2, r2, e, Bool.false_eq_true, show ¬ (1 : Int32) = 0 by decide]
  · intro k D w s out i hb hk hD ha hX h1 l6 m C
    have T := C.1
    have S1 := TK_mf S m tkcp
    have w1 : mi h1 76 23 = 0 := C.2.2.2.2.1
    have y := rm_saysF (d := d + 3) S1 (t := k) (by omega)
    have no : tW ts k w_or = false := tW2 ha (by decide)
    obtain ⟨h2, r2, m2, C2⟩ := rm_reduce (d := d + 2) false s out h1 C (by omega)
    have rl := red_len false s out
    have r2 : mx_G (d + 3) 299 0 [some (.ref 76), some (.int 0)] [] h1 = some (none, h2) := r2
    have T2 := C2.1
    have y2 := rm_saysF (d := d + 3) (TK_mf S1 m2 tkcp) (t := k) (by omega)
    have pu := rm_push (d := d + 3) T2 (x := 1) C2.2.2.2.2.2.2.1 (by omega)
    obtain ⟨C3, m3⟩ := cR_push (x := 1) C2 (by omega) (by decide)
    rw [show nI 1 = 1 from rfl] at C3 m3
    obtain ⟨h', r', m', q'⟩ := hX _ l6 (mf_trans m (mf_trans m2 m3)) C3
    refine ⟨h', ?_, m', q'⟩
    rw [← r', r292_36]
    simp only [r292_38, r292_41, r292_42, r292_45, r292_48, r292_50, r292_84, r292_85, r292_86, r292_89, r292_92, r292_95, r292_96, r292_97, r292_100, r292_103, r292_106, r292_107, r292_108, r292_109, r292_112, r292_115, r292_118, r292_119, r292_120, r292_121, r292_124, r292_127, r292_130, r292_131, r292_134, r292_135, r292_138, r292_139, r292_141, r292_144, mx_isr_ref, mx_isr_null, mx_wt_nil, mx_wt_1, mx_wt_2, mx_wt_3, Option.bind_some, Option.toList_some, Option.toList_none, List.cons_append, List.nil_append, mx_nl_int, mx_nl_ref, mx_nl_null, mx_nl_none, mx_nb0, mx_nb1, mx_fb0, mx_fb1, mx_cat_int, mx_cat_ref, if_true, if_false, not_true_eq_false, not_false_eq_true, T, T2, w1, y, y2, ha, no, r2, pu, nI_1, Bool.false_eq_true, show ¬ (1 : Int32) = 0 by decide]
  · intro k D w s out i hb hk hD ha hX h1 l6 m C
    have T := C.1
    have S1 := TK_mf S m tkcp
    have w1 : mi h1 76 23 = 0 := C.2.2.2.2.1
    have y := rm_saysF (d := d + 3) S1 (t := k) (by omega)
    have no : tW ts k w_and = false := tW2 ha (by decide)
    obtain ⟨h2, r2, m2, C2⟩ := rm_reduce (d := d + 2) true s out h1 C (by omega)
    have rl := red_len true s out
    have r2 : mx_G (d + 3) 299 0 [some (.ref 76), some (.int 1)] [] h1 = some (none, h2) := r2
    have T2 := C2.1
    have y2 := rm_saysF (d := d + 3) (TK_mf S1 m2 tkcp) (t := k) (by omega)
    have pu := rm_push (d := d + 3) T2 (x := 2) C2.2.2.2.2.2.2.1 (by omega)
    obtain ⟨C3, m3⟩ := cR_push (x := 2) C2 (by omega) (by decide)
    rw [show nI 2 = 2 from rfl] at C3 m3
    obtain ⟨h', r', m', q'⟩ := hX _ l6 (mf_trans m (mf_trans m2 m3)) C3
    refine ⟨h', ?_, m', q'⟩
    rw [← r', r292_36]
    simp only [r292_38, r292_41, r292_42, r292_45, r292_48, r292_50, r292_84, r292_85, r292_86, r292_89, r292_92, r292_95, r292_96, r292_97, r292_100, r292_103, r292_106, r292_107, r292_108, r292_109, r292_112, r292_115, r292_118, r292_119, r292_120, r292_121, r292_124, r292_127, r292_130, r292_131, r292_134, r292_135, r292_138, r292_139, r292_141, r292_144, mx_isr_ref, mx_isr_null, mx_wt_nil, mx_wt_1, mx_wt_2, mx_wt_3, Option.bind_some, Option.toList_some, Option.toList_none, List.cons_append, List.nil_append, mx_nl_int, mx_nl_ref, mx_nl_null, mx_nl_none, mx_nb0, mx_nb1, mx_fb0, mx_fb1, mx_cat_int, mx_cat_ref, if_true, if_false, not_true_eq_false, not_false_eq_true, T, T2, w1, y, y2, ha, no, r2, pu, nI_1, Bool.false_eq_true, show ¬ (1 : Int32) = 0 by decide]
  · intro k D w s out i s' out' hb hk hD ha hr hX
    refine clos k D w w s s' out out' i false ha (fun h1 m C => ?_) hX
    obtain ⟨h', w', o', r, m', C', -, e, -, -⟩ := rm_closeX (d := d + 1) (b := false) C (by omega) hr (fun z => by cases z)
    obtain ⟨e1, e2⟩ := e rfl
    subst e1 e2
    exact ⟨h', r, m', C'⟩
  · intro k D w s out i s' out' hb hk hD ha hr hX
    refine clos k D w w s s' out (out' ++ [sp 3]) i false ha (fun h1 m C => ?_) hX
    obtain ⟨h', w', o', r, m', C', -, -, e, -⟩ := rm_closeX (d := d + 1) (b := false) C (by omega) hr (fun z => by cases z)
    obtain ⟨e1, e2⟩ := e rfl
    subst e1 e2
    exact ⟨h', r, m', C'⟩
  · intro k D w s out i s' out' hb hk hD ha hr hi h5 hX
    have rl := red_len true s out
    rw [hr] at rl
    simp only [List.length_cons] at rl
    refine clos k D w false s s' out _ i true ha (fun h1 m C => ?_) hX
    obtain ⟨h', w', o', r, m', C', -, -, -, e⟩ := rm_closeX (d := d + 1) (b := true) C (by omega) hr (fun _ => by omega)
    obtain ⟨e1, e2⟩ := e rfl hi h5
    subst e1 e2
    exact ⟨h', r, m', C'⟩
theorem cp_no (S : rm_TK h ts) {t it : Int32} : stopsAt ts (cX d h t it (-1) fun _ => True) := by
  have hl := S.1.2.1
  have opwr : ∀ (k k' D D' : Nat) (w w' : Bool) (s s' : List Nat) (out out' : List stp) (i i' : Nat), k' ≤ 200 → out'.length + s'.length < 130 → (∀ h1, mf Pcp h h1 → cR h1 D w false s out i → ∃ h', mx_G (d + 3) 293 0 [some (.ref 76), some (.int (nI k))] [] h1 = some (some (.int (nI k')), h') ∧ mf Pcp h1 h' ∧ cR h' D' w' true s' out' i') → cX d h t it (-1) (fun _ => True) k true D w s out i := by
    intro k k' D D' w w' s s' out out' i i' hk' hb hop h1 l6 m C
    have T := C.1
    have w1 : mi h1 76 23 = 0 := C.2.2.2.2.1
    have d1 := C.2.1
    obtain ⟨h2, r2, m2, C2⟩ := hop h1 m C
    have T2 := C2.1
    have d2 := C2.2.1
    have W := fun wt => rm_cpW (d := d) (t := t) (it := it) (k := nI k') (wt := wt) (on := 1) (l6 := some (.int (nI D))) C2 hb
    by_cases e : nI D' ≤ nI D
    · obtain ⟨h', r', m'⟩ := W 0
      refine ⟨h', ?_, mf_trans m (mf_trans m2 m'), True.intro⟩
      rw [← r', r292_36]
      simp only [r292_38, r292_41, r292_42, r292_45, r292_48, r292_50, r292_53, r292_54, r292_57, r292_59, r292_60, r292_61, r292_64, r292_65, r292_66, r292_69, r292_71, r292_74, r292_75, r292_78, r292_79, r292_81, mx_isr_ref, mx_isr_null, mx_wt_nil, mx_wt_1, mx_wt_2, mx_wt_3, Option.bind_some, Option.toList_some, Option.toList_none, List.cons_append, List.nil_append, mx_nl_int, mx_nl_ref, mx_nl_null, mx_nl_none, mx_nb0, mx_nb1, mx_fb0, mx_fb1, mx_cat_int, mx_cat_ref, if_true, if_false, not_true_eq_false, not_false_eq_true, T, T2, w1, d1, d2, r2, e, show ¬ (1 : Int32) = 0 by decide]
    · obtain ⟨h', r', m'⟩ := W 1
      refine ⟨h', ?_, mf_trans m (mf_trans m2 m'), True.intro⟩
      rw [← r', r292_36]
      simp only [r292_38, r292_41, r292_42, r292_45, r292_48, r292_50, r292_53, r292_54, r292_57, r292_59, r292_60, r292_61, r292_64, r292_65, r292_66, r292_69, r292_71, r292_74, r292_75, r292_78, r292_79, r292_81, mx_isr_ref, mx_isr_null, mx_wt_nil, mx_wt_1, mx_wt_2, mx_wt_3, Option.bind_some, Option.toList_some, Option.toList_none, List.cons_append, List.nil_append, mx_nl_int, mx_nl_ref, mx_nl_null, mx_nl_none, mx_nb0, mx_nb1, mx_fb0, mx_fb1, mx_cat_int, mx_cat_ref, if_true, if_false, not_true_eq_false, not_false_eq_true, T, T2, w1, d1, d2, r2, e, show ¬ (1 : Int32) = 0 by decide]
  have clos : ∀ (k D : Nat) (w w' : Bool) (s s' : List Nat) (out out' : List stp) (i : Nat) (b : Bool), tI ts k (if b = true then 93 else 41) = true → (∀ h1, mf Pcp h h1 → cR h1 (D + 1) w false s out i → ∃ h' w' o', mx_G (d + 3) 300 0 [some (.ref 76), some (.int (if b = true then 1 else 0)), none] [] h1 = some (some (.int 1), h') ∧ mf Pcp h1 h' ∧ cR h' D w' true s' o' i ∧ o'.length + s'.length < 130) → cX d h t it (-1) (fun _ => True) k false (D + 1) w s out i := by
    intro k D w w' s s' out out' i b hb hcl h1 l6 m C
    have T := C.1
    have S1 := TK_mf S m tkcp
    have w1 : mi h1 76 23 = 0 := C.2.2.2.2.1
    obtain ⟨h2, w2, o2, r2, m2, C2, b2⟩ := hcl h1 m C
    have T2 := C2.1
    obtain ⟨h', r', m'⟩ := rm_cpW (d := d) (t := t) (it := it) (k := nI (k + 1)) (wt := 0) (on := 1) (l6 := l6) C2 b2
    refine ⟨h', ?_, mf_trans m (mf_trans m2 m'), True.intro⟩
    rw [← r']
    have kl : k < ts.length := tI_lt (by cases b <;> decide) hb
    have y := rm_saysF (d := d + 3) S1 (t := k) (by omega)
    have j := rm_isF (d := d + 3) S1.1 (t := k) (by omega)
    have a1 : tW ts k w_and = false := tI_tW hb (by cases b <;> decide)
    have a2 : tW ts k w_or = false := tI_tW hb (by cases b <;> decide)
    rw [r292_36]
    cases b with
    | true =>
      have hb : tI ts k 93 = true := hb
      have hb' : tI ts k 41 = false := by rw [tI_ne]; rw [tI_eq] at hb; omega
      simp only [if_true] at r2
      simp only [r292_38, r292_41, r292_42, r292_45, r292_48, r292_50, r292_84, r292_85, r292_86, r292_89, r292_92, r292_95, r292_96, r292_97, r292_100, r292_103, r292_147, r292_148, r292_149, r292_151, r292_154, r292_157, r292_158, r292_159, r292_161, r292_164, r292_167, r292_168, r292_169, r292_170, r292_172, r292_175, r292_178, r292_180, r292_182, r292_185, r292_186, r292_187, r292_188, r292_191, r292_192, r292_193, mx_isr_ref, mx_isr_null, mx_wt_nil, mx_wt_1, mx_wt_2, mx_wt_3, Option.bind_some, Option.toList_some, Option.toList_none, List.cons_append, List.nil_append, mx_nl_int, mx_nl_ref, mx_nl_null, mx_nl_none, mx_nb0, mx_nb1, mx_fb0, mx_fb1, mx_cat_int, mx_cat_ref, if_true, if_false, not_true_eq_false, not_false_eq_true, T, T2, w1, y, j, a1, a2, hb, hb', r2, nI_1, Bool.false_eq_true, show ¬ (1 : Int32) = 0 by decide]
    | false =>
      have hb : tI ts k 41 = true := hb
      have hb' : tI ts k 93 = false := by rw [tI_ne]; rw [tI_eq] at hb; omega
      simp only [Bool.false_eq_true, if_false] at r2
      simp only [r292_38, r292_41, r292_42, r292_45, r292_48, r292_50, r292_84, r292_85, r292_86, r292_89, r292_92, r292_95, r292_96, r292_97, r292_100, r292_103, r292_147, r292_148, r292_149, r292_151, r292_154, r292_157, r292_158, r292_159, r292_161, r292_164, r292_167, r292_168, r292_169, r292_170, r292_172, r292_175, r292_178, r292_180, r292_182, r292_185, r292_186, r292_187, r292_188, r292_191, r292_192, r292_193, mx_isr_ref, mx_isr_null, mx_wt_nil, mx_wt_1, mx_wt_2, mx_wt_3, Option.bind_some, Option.toList_some, Option.toList_none, List.cons_append, List.nil_append, mx_nl_int, mx_nl_ref, mx_nl_null, mx_nl_none, mx_nb0, mx_nb1, mx_fb0, mx_fb1, mx_cat_int, mx_cat_ref, if_true, if_false, not_true_eq_false, not_false_eq_true, T, T2, w1, y, j, a1, a2, hb, hb', r2, nI_1, Bool.false_eq_true, show ¬ (1 : Int32) = 0 by decide]
  refine ⟨?_, ?_, ?_, ?_, ?_⟩
  · intro k w s out i hb hk hc
    by_cases c1 : (tW ts k w_not && tI ts (k + 1) 40) = true
    · obtain ⟨a, b⟩ := Bool.and_eq_true_iff.1 c1
      have kl := tI_lt (by decide) b
      exact opwr k (k + 2) 6 7 w w s (4 :: s) out out i i (by omega) (by simp only [List.length_cons]; omega) fun h1 m C => rm_opN (d := d) (TK_mf S m tkcp) C (by omega) (by omega) a b
    · by_cases c2 : tI ts k 40 = true
      · have kl := tI_lt (by decide) c2
        exact opwr k (k + 1) 6 7 w w s (3 :: s) out out i i (by omega) (by simp only [List.length_cons]; omega) fun h1 m C => rm_opP (d := d) (TK_mf S m tkcp) C (by omega) (by omega) c2
      · have c3 : (!w && (tW ts k w_mail && tI ts (k + 1) 91)) = true := by
          rcases hc with z | z | z
          · exact absurd z c1
          · exact absurd z c2
          · exact z
        obtain ⟨a, b⟩ := Bool.and_eq_true_iff.1 c3
        obtain ⟨b, c⟩ := Bool.and_eq_true_iff.1 b
        have kl := tI_lt (by decide) c
        have hw : w = false := by cases w with | true => cases a | false => rfl
        subst hw
        exact opwr k (k + 2) 6 7 false true s (5 :: s) out (out ++ [sp 5]) i out.length (by omega) (by simp only [List.length_cons, List.length_append, List.length_nil]; omega) fun h1 m C => rm_opI (d := d) (TK_mf S m tkcp) C (by omega) (by omega) (by omega) b c
  · intro k D w s out i hb hk hD n1 n2 n3 hc
    have og : oAt ts w k ≤ k + 3 := by unfold oAt; split <;> omega
    refine opwr k (if opw ts (oAt ts w k) = w_pr then oAt ts w k + 1 else oAt ts w k + 2) D D w w s s out (out ++ [(0, pAt ts w k, opw ts (oAt ts w k), oAt ts w k + 1)]) i i (by split <;> omega) (by simp only [List.length_cons, List.length_append, List.length_nil]; omega) fun h1 m C => ?_
    obtain ⟨h', r, m', C'⟩ := rm_opT (d := d) (TK_mf S m tkcp) C hk (by omega) n1 n2 n3
    rw [decide_eq_true hc] at C'
    exact ⟨h', r, m', C'⟩
  · intro k D w s out i s' out' hb hk hD ha hr hi
    have rl := red_len true s out
    rw [hr] at rl
    simp only [List.length_cons] at rl
    refine clos k D w w s s' out out' i false ha fun h1 m C => ?_
    obtain ⟨h', w', o', r, m', C', ol, -⟩ := rm_closeX (d := d + 1) (b := false) C (by omega) hr (fun _ => by omega)
    exact ⟨h', w', o', r, m', C', by omega⟩
  · intro k D w s out i x s' out' hb hk hD ha hr hx
    have rl := red_len true s out
    rw [hr] at rl
    simp only [List.length_cons] at rl
    refine clos k D w w s s' out out' i true ha fun h1 m C => ?_
    obtain ⟨h', w', o', r, m', C', ol, -⟩ := rm_closeX (d := d + 1) (b := true) C (by omega) hr (fun z => absurd z hx)
    rw [decide_eq_false hx] at C'
    exact ⟨h', w', o', r, m', C', by omega⟩
  · intro k D w s out i x s' out' hb hk hD a1 a2 a3 a4 hr h1 l6 m C
    have T := C.1
    have S1 := TK_mf S m tkcp
    have w1 : mi h1 76 23 = 0 := C.2.2.2.2.1
    have y := rm_saysF (d := d + 3) S1 (t := k) (by omega)
    have j := rm_isF (d := d + 3) S1.1 (t := k) (by omega)
    obtain ⟨h', r', m', -⟩ := rm_cpE (d := d) (t := t) (it := it) (k := nI k) (wt := 0) (l6 := l6) C (by omega) hr
    rw [if_neg (fun z => by cases z)] at r'
    refine ⟨h', ?_, mf_trans m m', True.intro⟩
    rw [← r', r292_36]
    simp only [r292_38, r292_41, r292_42, r292_45, r292_48, r292_50, r292_84, r292_85, r292_86, r292_89, r292_92, r292_95, r292_96, r292_97, r292_100, r292_103, r292_147, r292_148, r292_149, r292_151, r292_154, r292_157, r292_158, r292_159, r292_161, r292_164, r292_196, r292_197, r292_199, mx_isr_ref, mx_isr_null, mx_wt_nil, mx_wt_1, mx_wt_2, mx_wt_3, Option.bind_some, Option.toList_some, Option.toList_none, List.cons_append, List.nil_append, mx_nl_int, mx_nl_ref, mx_nl_null, mx_nl_none, mx_nb0, mx_nb1, mx_fb0, mx_fb1, mx_cat_int, mx_cat_ref, if_true, if_false, not_true_eq_false, not_false_eq_true, T, w1, y, j, a1, a2, a3, a4, Bool.false_eq_true, show ¬ (1 : Int32) = 0 by decide]
end
