section
variable {d : Nat} {h : mx_H} {ts : List tk}
def Pop (a k : Nat) : Bool := (decide (84 ≤ a) && decide (a ≤ 90)) || ((decide (93 ≤ a) && decide (a ≤ 97)) || (a == 76 && (k == 12 || (k == 18 || (k == 19 || (k == 21 || (k == 22 || (k == 23 || k == 26))))))))
theorem tkop : tkP Pop := ⟨rfl, fun _ => ⟨rfl, rfl, rfl, rfl, rfl⟩⟩
theorem stop' : stP Pop := ⟨fun _ _ => rfl, rfl, rfl, fun _ => rfl⟩
theorem cp_op : ∀ a k, Pop a k = false → Pcp a k = false := fun a k e => by
  unfold Pop at e
  unfold Pcp
  simp at e ⊢
  omega
theorem p84_op : ∀ a k, Pop a k = false → P84 a k = false := fun a k e => by
  unfold Pop at e
  unfold P84
  simp at e ⊢
  omega
/-- what the reader of targets leaves -/
def tgR (h : mx_H) (ts : List tk) (out : List stp) (j : Nat) (q : Nat × cdP) : Prop := mi h 94 j = nI q.1 ∧ q.1 ≤ 11 ∧ (9 ≤ q.1 → ∃ low, mi h 95 j = nI low ∧ mi h 96 j = nI (low + q.2.1.length) ∧ low + q.2.1.length ≤ out.length ∧ (∀ i, i < q.2.1.length → sG out (low + i) = sG q.2.1 i) ∧ cdV (hd ts) itn true q.2 ∧ cdA ts q.2.1)
theorem rm_tgT (S : rm_TK h ts) {k j e : Nat} (he : e ≤ ts.length) (hj : j < 60) {b : Nat} (hb : b = 6 ∨ b = 9) (T94 : mi h 94 j = nI b) {l3 : Int32} : ∃ h', mx_G (d + 1) 290 165 [some (.ref 76), some (.int (nI k)), some (.int (nI j)), some (.int l3), some (.int (nI e))] [] h = some (some (.int (if tI ts e 46 = false then nI e else if tW ts (e + 1) w_v = true ∨ tW ts (e + 1) w_p = true then nI (e + 2) else -1)), h') ∧ mf Pop h h' ∧ (∀ a i, a ≠ 94 → mi h' a i = mi h a i) ∧ (∀ i, ml h' 89 i = ml h 89 i) ∧ (∀ i, i ≠ j → mi h' 94 i = mi h 94 i) ∧ mi h' 94 j = nI (if tI ts e 46 = false then b else if tW ts (e + 1) w_v = true then b + 1 else if tW ts (e + 1) w_p = true then b + 2 else b) := by
  have T := S.1.1
  have hl := S.1.2.1
  have i1 := rm_isF (d := d) S.1 (t := e) (by omega)
  have y := rm_saysF (d := d) S (t := e + 1) (by omega)
  have j1 : (nI j).toNatClampNeg = j := nI_clamp (by omega)
  have j2 : (0 : Int32) ≤ nI j := nI_pos' (by omega)
  have e2 : nI e + 2 = nI (e + 2) := nI_add e 2
  cases z : tI ts e 46 with
  | false =>
    refine ⟨h, ?_, mf_rfl T, fun _ _ _ => rfl, fun _ => rfl, fun _ _ => rfl, by rw [if_pos rfl]; exact T94⟩
    simp only [r290_165, r290_166, r290_168, r290_170, r290_173, r290_176, r290_178, mx_isr_ref, mx_isr_null, mx_wt_nil, mx_wt_1, mx_wt_2, mx_wt_3, Option.bind_some, Option.toList_some, Option.toList_none, List.cons_append, List.nil_append, mx_nl_int, mx_nl_ref, mx_nl_null, mx_nl_none, mx_nb0, mx_nb1, mx_fb0, mx_fb1, mx_cat_int, mx_cat_ref, if_true, if_false, not_true_eq_false, not_false_eq_true, T, i1, z, Bool.false_eq_true]
  | true =>
    have up : ∀ x : Nat, (∀ a i, a ≠ 94 → mi (mx_up h 94 j (.int (nI x))) a i = mi h a i) ∧ (∀ i, ml (mx_up h 94 j (.int (nI x))) 89 i = ml h 89 i) ∧ (∀ i, i ≠ j → mi (mx_up h 94 j (.int (nI x))) 94 i = mi h 94 i) ∧ mi (mx_up h 94 j (.int (nI x))) 94 j = nI x := fun x => ⟨fun a i ha => mi_o ha _ _, fun i => ml_upI _ _ _ _ _ _ (by decide), fun i hi => by rw [mi_a T mr_ty_94 hj, if_neg hi], by rw [mi_a T mr_ty_94 hj, if_pos rfl]⟩
    cases z1 : tW ts (e + 1) w_v with
    | true =>
      have ea : nI b + 1 = nI (b + 1) := nI_1 _
      refine ⟨mx_up h 94 j (.int (nI (b + 1))), ?_, mf_up (mf_rfl T) (by decide) rfl, (up (b + 1)).1, (up (b + 1)).2.1, (up (b + 1)).2.2.1, (up (b + 1)).2.2.2⟩
      simp only [r290_165, r290_166, r290_168, r290_170, r290_173, r290_176, r290_178, r290_179, r290_180, r290_182, r290_183, r290_184, r290_187, r290_190, r290_193, r290_194, r290_196, r290_197, r290_198, r290_201, r290_204, r290_207, r290_208, r290_209, r290_210, r290_213, r290_214, r290_215, r290_216, r290_217, r290_219, r290_220, r290_221, r290_224, r290_227, r290_230, r290_231, r290_234, r290_235, r290_236, r290_237, r290_239, r290_240, r290_241, mx_isr_ref, mx_isr_null, mx_wt_nil, mx_wt_1, mx_wt_2, mx_wt_3, Option.bind_some, Option.toList_some, Option.toList_none, List.cons_append, List.nil_append, mx_nl_int, mx_nl_ref, mx_nl_null, mx_nl_none, mx_nb0, mx_nb1, mx_fb0, mx_fb1, mx_cat_int, mx_cat_ref, if_true, if_false, not_true_eq_false, not_false_eq_true, T, i1, z, y, z1, mr_ty_77, mr_n_77, mr_isI_77, mr_ty_78, mr_n_78, mr_isI_78, mr_ty_79, mr_n_79, mr_isI_79, mr_ty_80, mr_n_80, mr_isI_80, mr_ty_81, mr_n_81, mr_isI_81, mr_ty_82, mr_n_82, mr_isJ_82, mr_ty_83, mr_n_83, mr_isI_83, mr_ty_84, mr_n_84, mr_isI_84, mr_ty_85, mr_n_85, mr_isI_85, mr_ty_86, mr_n_86, mr_isI_86, mr_ty_87, mr_n_87, mr_isI_87, mr_ty_88, mr_n_88, mr_isI_88, mr_ty_89, mr_n_89, mr_isJ_89, mr_ty_90, mr_n_90, mr_isI_90, mr_ty_91, mr_n_91, mr_isI_91, mr_ty_92, mr_n_92, mr_isI_92, mr_ty_93, mr_n_93, mr_isI_93, mr_ty_94, mr_n_94, mr_isI_94, mr_ty_95, mr_n_95, mr_isI_95, mr_ty_96, mr_n_96, mr_isI_96, mr_ty_97, mr_n_97, mr_isI_97, mr_ty_98, mr_n_98, mr_isI_98, mr_ty_99, mr_n_99, mr_isI_99, mr_ty_100, mr_n_100, mr_isI_100, mr_ty_101, mr_n_101, mr_isI_101, mr_isF_1, mr_isF_3, mr_isF_4, mr_isF_10, mr_isF_12, mr_isF_18, mr_isF_19, mr_isF_21, mr_isF_22, mr_isF_23, mr_isF_26, mr_isF_34, mr_isF_37, mr_isF_38, mr_isF_39, mr_T_up, mr_T_upJ, mr_T_f, j1, j2, hj, T94, nI_1, e2, Bool.true_eq_false, true_or, show ¬ (1 : Int32) = 0 by decide]
    | false =>
      cases z2 : tW ts (e + 1) w_p with
      | true =>
        have ea : nI b + 2 = nI (b + 2) := nI_add _ 2
        refine ⟨mx_up h 94 j (.int (nI (b + 2))), ?_, mf_up (mf_rfl T) (by decide) rfl, (up (b + 2)).1, (up (b + 2)).2.1, (up (b + 2)).2.2.1, (up (b + 2)).2.2.2⟩
        simp only [r290_165, r290_166, r290_168, r290_170, r290_173, r290_176, r290_178, r290_179, r290_180, r290_182, r290_183, r290_184, r290_187, r290_190, r290_193, r290_194, r290_196, r290_197, r290_198, r290_201, r290_204, r290_207, r290_208, r290_209, r290_210, r290_213, r290_214, r290_215, r290_216, r290_217, r290_219, r290_220, r290_221, r290_224, r290_227, r290_230, r290_231, r290_234, r290_235, r290_236, r290_237, r290_239, r290_240, r290_241, mx_isr_ref, mx_isr_null, mx_wt_nil, mx_wt_1, mx_wt_2, mx_wt_3, Option.bind_some, Option.toList_some, Option.toList_none, List.cons_append, List.nil_append, mx_nl_int, mx_nl_ref, mx_nl_null, mx_nl_none, mx_nb0, mx_nb1, mx_fb0, mx_fb1, mx_cat_int, mx_cat_ref, if_true, if_false, not_true_eq_false, not_false_eq_true, T, i1, z, y, z1, z2, mr_ty_77, mr_n_77, mr_isI_77, mr_ty_78, mr_n_78, mr_isI_78, mr_ty_79, mr_n_79, mr_isI_79, mr_ty_80, mr_n_80, mr_isI_80, mr_ty_81, mr_n_81, mr_isI_81, mr_ty_82, mr_n_82, mr_isJ_82, mr_ty_83, mr_n_83, mr_isI_83, mr_ty_84, mr_n_84, mr_isI_84, mr_ty_85, mr_n_85, mr_isI_85, mr_ty_86, mr_n_86, mr_isI_86, mr_ty_87, mr_n_87, mr_isI_87, mr_ty_88, mr_n_88, mr_isI_88, mr_ty_89, mr_n_89, mr_isJ_89, mr_ty_90, mr_n_90, mr_isI_90, mr_ty_91, mr_n_91, mr_isI_91, mr_ty_92, mr_n_92, mr_isI_92, mr_ty_93, mr_n_93, mr_isI_93, mr_ty_94, mr_n_94, mr_isI_94, mr_ty_95, mr_n_95, mr_isI_95, mr_ty_96, mr_n_96, mr_isI_96, mr_ty_97, mr_n_97, mr_isI_97, mr_ty_98, mr_n_98, mr_isI_98, mr_ty_99, mr_n_99, mr_isI_99, mr_ty_100, mr_n_100, mr_isI_100, mr_ty_101, mr_n_101, mr_isI_101, mr_isF_1, mr_isF_3, mr_isF_4, mr_isF_10, mr_isF_12, mr_isF_18, mr_isF_19, mr_isF_21, mr_isF_22, mr_isF_23, mr_isF_26, mr_isF_34, mr_isF_37, mr_isF_38, mr_isF_39, mr_T_up, mr_T_upJ, mr_T_f, j1, j2, hj, T94, ea, nI_1, e2, Bool.true_eq_false, Bool.false_eq_true, or_true, show ¬ (1 : Int32) = 0 by decide]
      | false =>
        refine ⟨h, ?_, mf_rfl T, fun _ _ _ => rfl, fun _ => rfl, fun _ _ => rfl, T94⟩
        simp only [r290_165, r290_166, r290_168, r290_170, r290_173, r290_176, r290_178, r290_179, r290_180, r290_182, r290_183, r290_184, r290_187, r290_190, r290_193, r290_194, r290_196, r290_197, r290_198, r290_201, r290_204, r290_207, r290_208, mx_isr_ref, mx_isr_null, mx_wt_nil, mx_wt_1, mx_wt_2, mx_wt_3, Option.bind_some, Option.toList_some, Option.toList_none, List.cons_append, List.nil_append, mx_nl_int, mx_nl_ref, mx_nl_null, mx_nl_none, mx_nb0, mx_nb1, mx_fb0, mx_fb1, mx_cat_int, mx_cat_ref, if_true, if_false, not_true_eq_false, not_false_eq_true, T, i1, z, y, z1, z2, nI_1, Bool.true_eq_false, Bool.false_eq_true, or_self, show ¬ (1 : Int32) = 0 by decide]
theorem rm_readTarget (S : rm_TK h ts) {c k j : Nat} (hc : c < 128) (hk : k ≤ ts.length) (hj : j < 60) (h26 : mi h 76 26 = nI j) (h93 : mi h 93 j = nI c) {out : List stp} (O : outR h out) (ho : out.length ≤ k) :
    ∃ h' o', mx_G (d + 5) 290 0 [some (.ref 76), some (.int (nI k)), none, none, none] [] h = some (some (.int (match rTg ts c k with | some q => nI q.2 | none => -1)), h') ∧ mf Pop h h' ∧ mi h' 76 26 = nI j ∧ (∀ i, mi h' 93 i = mi h 93 i) ∧ (∀ i, i ≠ j → mi h' 94 i = mi h 94 i ∧ mi h' 95 i = mi h 95 i ∧ mi h' 96 i = mi h 96 i) ∧ (∀ i, mi h' 97 i = mi h 97 i) ∧
      ∀ q, rTg ts c k = some q → outR h' (out ++ o') ∧ tgR h' ts (out ++ o') j q.1 ∧ (out ++ o').length ≤ q.2 := by
  have T := S.1.1
  have hl := S.1.2.1
  have j1 : (nI j).toNatClampNeg = j := nI_clamp (by omega)
  have j2 : (0 : Int32) ≤ nI j := nI_pos' (by omega)
  have m1 : mf Pop h (mx_up h 76 22 (.int 0)) := mf_f (mf_rfl T) (by decide) rfl
  have T1 := m1.1
  have r26 : mi (mx_up h 76 22 (.int 0)) 76 26 = nI j := by rw [mi_f T (by decide), if_neg (by decide), h26]
  have m2 : mf Pop h (mx_up (mx_up h 76 22 (.int 0)) 94 j (.int 0)) := mf_up m1 (by decide) rfl
  have T2 := m2.1
  have w22 : mi (mx_up (mx_up h 76 22 (.int 0)) 94 j (.int 0)) 76 22 = if false = true then 1 else 0 := by rw [mi_o (by decide), mi_f T (by decide), if_pos rfl]; rfl
  have S2 := TK_mf S m2 tkop
  have i0 := rm_isF (d := d + 4) S2.1 (t := k) (by omega)
  have i1 := rm_isF (d := d + 4) S2.1 (t := k + 1) (by omega)
  have y := rm_saysF (d := d + 4) S2 (t := k) (by omega)
  have r93 : mi (mx_up (mx_up h 76 22 (.int 0)) 94 j (.int 0)) 93 j = nI c := by rw [mi_o (by decide), mi_o (by decide), h93]
  have o2 : ∀ a, a ≠ 76 → a ≠ 94 → ∀ i, mi (mx_up (mx_up h 76 22 (.int 0)) 94 j (.int 0)) a i = mi h a i := fun a h1 h2 i => by rw [mi_o h2, mi_o h1]
  have o94 : ∀ i, i ≠ j → mi (mx_up (mx_up h 76 22 (.int 0)) 94 j (.int 0)) 94 i = mi h 94 i := fun i hi => by rw [mi_a T1 mr_ty_94 hj, if_neg hi, mi_o (by decide)]
  have o76 : ∀ i, i ≠ 22 → mi (mx_up (mx_up h 76 22 (.int 0)) 94 j (.int 0)) 76 i = mi h 76 i := fun i hi => by rw [mi_o (by decide), mi_f T (by decide), if_neg hi]
  have O2 : outR (mx_up (mx_up h 76 22 (.int 0)) 94 j (.int 0)) out := ⟨by rw [o76 12 (by decide)]; exact O.1, fun i hi => stpR_keep (O.2 i hi) (o2 85 (by decide) (by decide) i) (o2 86 (by decide) (by decide) i) (by rw [ml_upI _ _ _ _ _ _ (by decide), ml_upI _ _ _ _ _ _ (by decide)]) (o2 87 (by decide) (by decide) i) (o2 88 (by decide) (by decide) i)⟩
  have pre : mx_G (d + 5) 290 0 [some (.ref 76), some (.int (nI k)), none, none, none] [] h = mx_G (d + 5) 290 17 [some (.ref 76), some (.int (nI k)), some (.int (nI j)), none, none] [] (mx_up (mx_up h 76 22 (.int 0)) 94 j (.int 0)) := by
    simp only [r290_0, r290_1, r290_2, r290_5, r290_6, r290_9, r290_10, r290_11, r290_14, r290_15, r290_16, mx_isr_ref, mx_isr_null, mx_wt_nil, mx_wt_1, mx_wt_2, mx_wt_3, Option.bind_some, Option.toList_some, Option.toList_none, List.cons_append, List.nil_append, mx_nl_int, mx_nl_ref, mx_nl_null, mx_nl_none, mx_nb0, mx_nb1, mx_fb0, mx_fb1, mx_cat_int, mx_cat_ref, if_true, if_false, not_true_eq_false, not_false_eq_true, T, T1, mr_ty_77, mr_n_77, mr_isI_77, mr_ty_78, mr_n_78, mr_isI_78, mr_ty_79, mr_n_79, mr_isI_79, mr_ty_80, mr_n_80, mr_isI_80, mr_ty_81, mr_n_81, mr_isI_81, mr_ty_82, mr_n_82, mr_isJ_82, mr_ty_83, mr_n_83, mr_isI_83, mr_ty_84, mr_n_84, mr_isI_84, mr_ty_85, mr_n_85, mr_isI_85, mr_ty_86, mr_n_86, mr_isI_86, mr_ty_87, mr_n_87, mr_isI_87, mr_ty_88, mr_n_88, mr_isI_88, mr_ty_89, mr_n_89, mr_isJ_89, mr_ty_90, mr_n_90, mr_isI_90, mr_ty_91, mr_n_91, mr_isI_91, mr_ty_92, mr_n_92, mr_isI_92, mr_ty_93, mr_n_93, mr_isI_93, mr_ty_94, mr_n_94, mr_isI_94, mr_ty_95, mr_n_95, mr_isI_95, mr_ty_96, mr_n_96, mr_isI_96, mr_ty_97, mr_n_97, mr_isI_97, mr_ty_98, mr_n_98, mr_isI_98, mr_ty_99, mr_n_99, mr_isI_99, mr_ty_100, mr_n_100, mr_isI_100, mr_ty_101, mr_n_101, mr_isI_101, mr_isF_1, mr_isF_3, mr_isF_4, mr_isF_10, mr_isF_12, mr_isF_18, mr_isF_19, mr_isF_21, mr_isF_22, mr_isF_23, mr_isF_26, mr_isF_34, mr_isF_37, mr_isF_38, mr_isF_39, mr_T_up, mr_T_upJ, mr_T_f, r26, j1, j2, hj]
  rw [pre]
  generalize eh2 : mx_up (mx_up h 76 22 (.int 0)) 94 j (.int 0) = h2 at *
  have r94 : mi h2 94 j = 0 := by rw [← eh2, mi_a T1 mr_ty_94 hj, if_pos rfl]
  unfold rTg
  by_cases cA : tI ts k 58 = true ∧ c ≠ 45
  · rw [if_pos cA]
    have e45 : ¬ nI c = 45 := fun z => cA.2 ((nI_eq (b := 45) (by omega) (by decide)).mp z)
    refine ⟨h2, [], ?_, m2, by rw [o76 26 (by decide)]; exact h26, fun i => o2 93 (by decide) (by decide) i, fun i hi => ⟨o94 i hi, o2 95 (by decide) (by decide) i, o2 96 (by decide) (by decide) i⟩, fun i => o2 97 (by decide) (by decide) i, fun q hq => ?_⟩
    · simp only [r290_17, r290_18, r290_19, r290_21, r290_24, r290_27, r290_28, r290_31, r290_32, r290_33, r290_35, r290_38, r290_39, mx_isr_ref, mx_isr_null, mx_wt_nil, mx_wt_1, mx_wt_2, mx_wt_3, Option.bind_some, Option.toList_some, Option.toList_none, List.cons_append, List.nil_append, mx_nl_int, mx_nl_ref, mx_nl_null, mx_nl_none, mx_nb0, mx_nb1, mx_fb0, mx_fb1, mx_cat_int, mx_cat_ref, if_true, if_false, not_true_eq_false, not_false_eq_true, T2, i0, cA.1, mr_ty_77, mr_n_77, mr_isI_77, mr_ty_78, mr_n_78, mr_isI_78, mr_ty_79, mr_n_79, mr_isI_79, mr_ty_80, mr_n_80, mr_isI_80, mr_ty_81, mr_n_81, mr_isI_81, mr_ty_82, mr_n_82, mr_isJ_82, mr_ty_83, mr_n_83, mr_isI_83, mr_ty_84, mr_n_84, mr_isI_84, mr_ty_85, mr_n_85, mr_isI_85, mr_ty_86, mr_n_86, mr_isI_86, mr_ty_87, mr_n_87, mr_isI_87, mr_ty_88, mr_n_88, mr_isI_88, mr_ty_89, mr_n_89, mr_isJ_89, mr_ty_90, mr_n_90, mr_isI_90, mr_ty_91, mr_n_91, mr_isI_91, mr_ty_92, mr_n_92, mr_isI_92, mr_ty_93, mr_n_93, mr_isI_93, mr_ty_94, mr_n_94, mr_isI_94, mr_ty_95, mr_n_95, mr_isI_95, mr_ty_96, mr_n_96, mr_isI_96, mr_ty_97, mr_n_97, mr_isI_97, mr_ty_98, mr_n_98, mr_isI_98, mr_ty_99, mr_n_99, mr_isI_99, mr_ty_100, mr_n_100, mr_isI_100, mr_ty_101, mr_n_101, mr_isI_101, mr_isF_1, mr_isF_3, mr_isF_4, mr_isF_10, mr_isF_12, mr_isF_18, mr_isF_19, mr_isF_21, mr_isF_22, mr_isF_23, mr_isF_26, mr_isF_34, mr_isF_37, mr_isF_38, mr_isF_39, mr_T_up, mr_T_upJ, mr_T_f, j1, j2, hj, r93, e45, show ¬ (1 : Int32) = 0 by decide]
    · cases hq
      rw [List.append_nil]
      exact ⟨O2, ⟨r94, Nat.zero_le _, fun z => absurd (show 9 ≤ 0 from z) (by decide)⟩, ho⟩
  · rw [if_neg cA]
    have st : mx_G (d + 5) 290 17 [some (.ref 76), some (.int (nI k)), some (.int (nI j)), none, none] [] h2 = mx_G (d + 5) 290 40 [some (.ref 76), some (.int (nI k)), some (.int (nI j)), none, none] [] h2 := by
      cases z : tI ts k 58 with
      | false => simp only [r290_17, r290_18, r290_19, r290_21, r290_24, mx_isr_ref, mx_isr_null, mx_wt_nil, mx_wt_1, mx_wt_2, mx_wt_3, Option.bind_some, Option.toList_some, Option.toList_none, List.cons_append, List.nil_append, mx_nl_int, mx_nl_ref, mx_nl_null, mx_nl_none, mx_nb0, mx_nb1, mx_fb0, mx_fb1, mx_cat_int, mx_cat_ref, if_true, if_false, not_true_eq_false, not_false_eq_true, T2, i0, z, Bool.false_eq_true]
      | true =>
        have c45 : c = 45 := by
          rcases Nat.lt_trichotomy c 45 with q | q | q
          · exact absurd ⟨z, by omega⟩ cA
          · exact q
          · exact absurd ⟨z, by omega⟩ cA
        have e45 : nI c = 45 := by rw [c45]; rfl
        simp only [r290_17, r290_18, r290_19, r290_21, r290_24, r290_27, r290_28, r290_31, r290_32, r290_33, r290_35, mx_isr_ref, mx_isr_null, mx_wt_nil, mx_wt_1, mx_wt_2, mx_wt_3, Option.bind_some, Option.toList_some, Option.toList_none, List.cons_append, List.nil_append, mx_nl_int, mx_nl_ref, mx_nl_null, mx_nl_none, mx_nb0, mx_nb1, mx_fb0, mx_fb1, mx_cat_int, mx_cat_ref, if_true, if_false, not_true_eq_false, not_false_eq_true, T2, i0, z, mr_ty_77, mr_n_77, mr_isI_77, mr_ty_78, mr_n_78, mr_isI_78, mr_ty_79, mr_n_79, mr_isI_79, mr_ty_80, mr_n_80, mr_isI_80, mr_ty_81, mr_n_81, mr_isI_81, mr_ty_82, mr_n_82, mr_isJ_82, mr_ty_83, mr_n_83, mr_isI_83, mr_ty_84, mr_n_84, mr_isI_84, mr_ty_85, mr_n_85, mr_isI_85, mr_ty_86, mr_n_86, mr_isI_86, mr_ty_87, mr_n_87, mr_isI_87, mr_ty_88, mr_n_88, mr_isI_88, mr_ty_89, mr_n_89, mr_isJ_89, mr_ty_90, mr_n_90, mr_isI_90, mr_ty_91, mr_n_91, mr_isI_91, mr_ty_92, mr_n_92, mr_isI_92, mr_ty_93, mr_n_93, mr_isI_93, mr_ty_94, mr_n_94, mr_isI_94, mr_ty_95, mr_n_95, mr_isI_95, mr_ty_96, mr_n_96, mr_isI_96, mr_ty_97, mr_n_97, mr_isI_97, mr_ty_98, mr_n_98, mr_isI_98, mr_ty_99, mr_n_99, mr_isI_99, mr_ty_100, mr_n_100, mr_isI_100, mr_ty_101, mr_n_101, mr_isI_101, mr_isF_1, mr_isF_3, mr_isF_4, mr_isF_10, mr_isF_12, mr_isF_18, mr_isF_19, mr_isF_21, mr_isF_22, mr_isF_23, mr_isF_26, mr_isF_34, mr_isF_37, mr_isF_38, mr_isF_39, mr_T_up, mr_T_upJ, mr_T_f, j1, j2, hj, r93, eq_true e45, show ¬ (1 : Int32) = 0 by decide]
    rw [st]
    cases zm : tW ts k w_mail with
    | false =>
      rw [if_pos rfl]
      have pa := rm_pathAt (d := d + 3) S2 (w := false) w22 (k := k) (by omega)
      have pl := pAt_lt (ts := ts) false k
      have m3 : mf Pop h (mx_up h2 94 j (.int (nI (pAt ts false k)))) := mf_up m2 (by decide) rfl
      have T3 := m3.1
      have r3 : mi (mx_up h2 94 j (.int (nI (pAt ts false k)))) 94 j = nI (pAt ts false k) := by rw [mi_a T2 mr_ty_94 hj, if_pos rfl]
      have o3 : ∀ a, a ≠ 94 → ∀ i, mi (mx_up h2 94 j (.int (nI (pAt ts false k)))) a i = mi h2 a i := fun a ha i => mi_o ha _ _
      refine ⟨mx_up h2 94 j (.int (nI (pAt ts false k))), [], ?_, m3, by rw [o3 76 (by decide), o76 26 (by decide)]; exact h26, fun i => by rw [o3 93 (by decide)]; exact o2 93 (by decide) (by decide) i, fun i hi => ⟨by rw [mi_a T2 mr_ty_94 hj, if_neg hi]; exact o94 i hi, by rw [o3 95 (by decide)]; exact o2 95 (by decide) (by decide) i, by rw [o3 96 (by decide)]; exact o2 96 (by decide) (by decide) i⟩, fun i => by rw [o3 97 (by decide)]; exact o2 97 (by decide) (by decide) i, fun q hq => ?_⟩
      · by_cases cp : pAt ts false k = 0
        · have e0 : nI (pAt ts false k) = 0 := by rw [cp]; rfl
          rw [if_pos cp]
          simp only [r290_40, r290_41, r290_42, r290_45, r290_48, r290_51, r290_52, r290_55, r290_56, r290_57, r290_58, r290_61, r290_62, r290_63, r290_66, r290_67, r290_68, r290_71, r290_72, r290_75, r290_76, r290_77, r290_78, mx_isr_ref, mx_isr_null, mx_wt_nil, mx_wt_1, mx_wt_2, mx_wt_3, Option.bind_some, Option.toList_some, Option.toList_none, List.cons_append, List.nil_append, mx_nl_int, mx_nl_ref, mx_nl_null, mx_nl_none, mx_nb0, mx_nb1, mx_fb0, mx_fb1, mx_cat_int, mx_cat_ref, if_true, if_false, not_true_eq_false, not_false_eq_true, T2, T3, y, zm, pa, mr_ty_77, mr_n_77, mr_isI_77, mr_ty_78, mr_n_78, mr_isI_78, mr_ty_79, mr_n_79, mr_isI_79, mr_ty_80, mr_n_80, mr_isI_80, mr_ty_81, mr_n_81, mr_isI_81, mr_ty_82, mr_n_82, mr_isJ_82, mr_ty_83, mr_n_83, mr_isI_83, mr_ty_84, mr_n_84, mr_isI_84, mr_ty_85, mr_n_85, mr_isI_85, mr_ty_86, mr_n_86, mr_isI_86, mr_ty_87, mr_n_87, mr_isI_87, mr_ty_88, mr_n_88, mr_isI_88, mr_ty_89, mr_n_89, mr_isJ_89, mr_ty_90, mr_n_90, mr_isI_90, mr_ty_91, mr_n_91, mr_isI_91, mr_ty_92, mr_n_92, mr_isI_92, mr_ty_93, mr_n_93, mr_isI_93, mr_ty_94, mr_n_94, mr_isI_94, mr_ty_95, mr_n_95, mr_isI_95, mr_ty_96, mr_n_96, mr_isI_96, mr_ty_97, mr_n_97, mr_isI_97, mr_ty_98, mr_n_98, mr_isI_98, mr_ty_99, mr_n_99, mr_isI_99, mr_ty_100, mr_n_100, mr_isI_100, mr_ty_101, mr_n_101, mr_isI_101, mr_isF_1, mr_isF_3, mr_isF_4, mr_isF_10, mr_isF_12, mr_isF_18, mr_isF_19, mr_isF_21, mr_isF_22, mr_isF_23, mr_isF_26, mr_isF_34, mr_isF_37, mr_isF_38, mr_isF_39, mr_T_up, mr_T_upJ, mr_T_f, j1, j2, hj, r3, eq_true e0, Bool.false_eq_true]
        · have e0 : ¬ nI (pAt ts false k) = 0 := nI_ne0 (by omega) (by omega)
          rw [if_neg cp]
          simp only [r290_40, r290_41, r290_42, r290_45, r290_48, r290_51, r290_52, r290_55, r290_56, r290_57, r290_58, r290_61, r290_62, r290_63, r290_66, r290_67, r290_68, r290_71, r290_72, r290_75, r290_76, r290_77, r290_78, mx_isr_ref, mx_isr_null, mx_wt_nil, mx_wt_1, mx_wt_2, mx_wt_3, Option.bind_some, Option.toList_some, Option.toList_none, List.cons_append, List.nil_append, mx_nl_int, mx_nl_ref, mx_nl_null, mx_nl_none, mx_nb0, mx_nb1, mx_fb0, mx_fb1, mx_cat_int, mx_cat_ref, if_true, if_false, not_true_eq_false, not_false_eq_true, T2, T3, y, zm, pa, mr_ty_77, mr_n_77, mr_isI_77, mr_ty_78, mr_n_78, mr_isI_78, mr_ty_79, mr_n_79, mr_isI_79, mr_ty_80, mr_n_80, mr_isI_80, mr_ty_81, mr_n_81, mr_isI_81, mr_ty_82, mr_n_82, mr_isJ_82, mr_ty_83, mr_n_83, mr_isI_83, mr_ty_84, mr_n_84, mr_isI_84, mr_ty_85, mr_n_85, mr_isI_85, mr_ty_86, mr_n_86, mr_isI_86, mr_ty_87, mr_n_87, mr_isI_87, mr_ty_88, mr_n_88, mr_isI_88, mr_ty_89, mr_n_89, mr_isJ_89, mr_ty_90, mr_n_90, mr_isI_90, mr_ty_91, mr_n_91, mr_isI_91, mr_ty_92, mr_n_92, mr_isI_92, mr_ty_93, mr_n_93, mr_isI_93, mr_ty_94, mr_n_94, mr_isI_94, mr_ty_95, mr_n_95, mr_isI_95, mr_ty_96, mr_n_96, mr_isI_96, mr_ty_97, mr_n_97, mr_isI_97, mr_ty_98, mr_n_98, mr_isI_98, mr_ty_99, mr_n_99, mr_isI_99, mr_ty_100, mr_n_100, mr_isI_100, mr_ty_101, mr_n_101, mr_isI_101, mr_isF_1, mr_isF_3, mr_isF_4, mr_isF_10, mr_isF_12, mr_isF_18, mr_isF_19, mr_isF_21, mr_isF_22, mr_isF_23, mr_isF_26, mr_isF_34, mr_isF_37, mr_isF_38, mr_isF_39, mr_T_up, mr_T_upJ, mr_T_f, j1, j2, hj, r3, e0, nI_1, Bool.false_eq_true]
      · split at hq
        · cases hq
        · cases hq
          rw [List.append_nil]
          exact ⟨⟨by rw [o3 76 (by decide)]; exact O2.1, fun i hi => stpR_keep (O2.2 i hi) (o3 85 (by decide) i) (o3 86 (by decide) i) (ml_upI _ _ _ _ _ _ (by decide)) (o3 87 (by decide) i) (o3 88 (by decide) i)⟩, ⟨r3, by show pAt ts false k ≤ 11; omega, fun z => by have z : 9 ≤ pAt ts false k := z; omega⟩, by show out.length ≤ k + 1; omega⟩
    | true =>
      rw [if_neg (show ¬ true = false by decide)]
      have kl := tW_lt zm
      have m3 : mf Pop h (mx_up h2 94 j (.int 6)) := mf_up m2 (by decide) rfl
      have T3 := m3.1
      have o3 : ∀ a, a ≠ 94 → ∀ i, mi (mx_up h2 94 j (.int 6)) a i = mi h2 a i := fun a ha i => mi_o ha _ _
      have r3 : mi (mx_up h2 94 j (.int 6)) 94 j = nI 6 := by rw [mi_a T2 mr_ty_94 hj, if_pos rfl]; rfl
      have O3 : outR (mx_up h2 94 j (.int 6)) out := ⟨by rw [o3 76 (by decide)]; exact O2.1, fun i hi => stpR_keep (O2.2 i hi) (o3 85 (by decide) i) (o3 86 (by decide) i) (ml_upI _ _ _ _ _ _ (by decide)) (o3 87 (by decide) i) (o3 88 (by decide) i)⟩
      have S3 := TK_mf S m3 tkop
      cases zb : tI ts (k + 1) 91 with
      | false =>
        obtain ⟨h', r', m', f1, f2, f3, f4⟩ := rm_tgT (d := d + 4) S3 (k := k) (j := j) (e := k + 1) (by omega) hj (b := 6) (Or.inl rfl) r3 (l3 := 0)
        refine ⟨h', [], ?_, mf_trans m3 m', by rw [f1 76 26 (by decide), o3 76 (by decide), o76 26 (by decide)]; exact h26, fun i => by rw [f1 93 i (by decide), o3 93 (by decide)]; exact o2 93 (by decide) (by decide) i, fun i hi => ⟨by rw [f3 i hi, mi_a T2 mr_ty_94 hj, if_neg hi]; exact o94 i hi, by rw [f1 95 i (by decide), o3 95 (by decide)]; exact o2 95 (by decide) (by decide) i, by rw [f1 96 i (by decide), o3 96 (by decide)]; exact o2 96 (by decide) (by decide) i⟩, fun i => by rw [f1 97 i (by decide), o3 97 (by decide)]; exact o2 97 (by decide) (by decide) i, fun q hq => ?_⟩
        · have s3 : mx_G (d + 5) 290 40 [some (.ref 76), some (.int (nI k)), some (.int (nI j)), none, none] [] h2 = mx_G (d + 5) 290 165 [some (.ref 76), some (.int (nI k)), some (.int (nI j)), some (.int 0), some (.int (nI (k + 1)))] [] (mx_up h2 94 j (.int 6)) := by
            simp only [r290_40, r290_41, r290_42, r290_45, r290_48, r290_79, r290_80, r290_81, r290_82, r290_83, r290_85, r290_88, r290_89, r290_90, r290_91, r290_92, r290_94, r290_95, r290_98, r290_99, r290_101, r290_102, r290_103, mx_isr_ref, mx_isr_null, mx_wt_nil, mx_wt_1, mx_wt_2, mx_wt_3, Option.bind_some, Option.toList_some, Option.toList_none, List.cons_append, List.nil_append, mx_nl_int, mx_nl_ref, mx_nl_null, mx_nl_none, mx_nb0, mx_nb1, mx_fb0, mx_fb1, mx_cat_int, mx_cat_ref, if_true, if_false, not_true_eq_false, not_false_eq_true, T2, y, zm, i1, zb, mr_ty_77, mr_n_77, mr_isI_77, mr_ty_78, mr_n_78, mr_isI_78, mr_ty_79, mr_n_79, mr_isI_79, mr_ty_80, mr_n_80, mr_isI_80, mr_ty_81, mr_n_81, mr_isI_81, mr_ty_82, mr_n_82, mr_isJ_82, mr_ty_83, mr_n_83, mr_isI_83, mr_ty_84, mr_n_84, mr_isI_84, mr_ty_85, mr_n_85, mr_isI_85, mr_ty_86, mr_n_86, mr_isI_86, mr_ty_87, mr_n_87, mr_isI_87, mr_ty_88, mr_n_88, mr_isI_88, mr_ty_89, mr_n_89, mr_isJ_89, mr_ty_90, mr_n_90, mr_isI_90, mr_ty_91, mr_n_91, mr_isI_91, mr_ty_92, mr_n_92, mr_isI_92, mr_ty_93, mr_n_93, mr_isI_93, mr_ty_94, mr_n_94, mr_isI_94, mr_ty_95, mr_n_95, mr_isI_95, mr_ty_96, mr_n_96, mr_isI_96, mr_ty_97, mr_n_97, mr_isI_97, mr_ty_98, mr_n_98, mr_isI_98, mr_ty_99, mr_n_99, mr_isI_99, mr_ty_100, mr_n_100, mr_isI_100, mr_ty_101, mr_n_101, mr_isI_101, mr_isF_1, mr_isF_3, mr_isF_4, mr_isF_10, mr_isF_12, mr_isF_18, mr_isF_19, mr_isF_21, mr_isF_22, mr_isF_23, mr_isF_26, mr_isF_34, mr_isF_37, mr_isF_38, mr_isF_39, mr_T_up, mr_T_upJ, mr_T_f, j1, j2, hj, nI_1, Bool.false_eq_true, show ¬ (1 : Int32) = 0 by decide]
          rw [s3, r']
          simp only [Bool.false_eq_true, if_false, Option.bind_some]
          congr 3
          cases tI ts (k + 1) 46 with
          | false => rfl
          | true =>
            cases tW ts (k + 1 + 1) w_v <;> cases tW ts (k + 1 + 1) w_p <;> rfl
        · simp only [Bool.false_eq_true, if_false, Option.bind_some] at hq
          rw [List.append_nil]
          have Of : outR h' out := ⟨by rw [f1 76 12 (by decide)]; exact O3.1, fun i hi => stpR_keep (O3.2 i hi) (f1 85 i (by decide)) (f1 86 i (by decide)) (f2 i) (f1 87 i (by decide)) (f1 88 i (by decide))⟩
          cases z46 : tI ts (k + 1) 46 with
          | false =>
            rw [z46, if_pos rfl] at hq f4
            cases hq
            exact ⟨Of, ⟨f4, show 6 ≤ 11 by decide, fun z => absurd (show 9 ≤ 6 from z) (by decide)⟩, by show out.length ≤ k + 1; omega⟩
          | true =>
            rw [z46, if_neg (show ¬ true = false by decide)] at hq f4
            cases zv : tW ts (k + 1 + 1) w_v with
            | true =>
              rw [zv, if_pos rfl] at hq f4
              cases hq
              exact ⟨Of, ⟨f4, show 6 + 1 ≤ 11 by decide, fun z => absurd (show 9 ≤ 6 + 1 from z) (by decide)⟩, by show out.length ≤ k + 1 + 2; omega⟩
            | false =>
              rw [zv, if_neg (show ¬ false = true by decide)] at hq f4
              cases zp : tW ts (k + 1 + 1) w_p with
              | true =>
                rw [zp, if_pos rfl] at hq f4
                cases hq
                exact ⟨Of, ⟨f4, show 6 + 2 ≤ 11 by decide, fun z => absurd (show 9 ≤ 6 + 2 from z) (by decide)⟩, by show out.length ≤ k + 1 + 2; omega⟩
              | false => rw [zp, if_neg (show ¬ false = true by decide)] at hq; cases hq
      | true =>
        have kl1 := tI_lt (by decide) zb
        have m4 : mf Pop h (mx_up (mx_up h2 94 j (.int 6)) 95 j (.int (nI out.length))) := mf_up m3 (by decide) rfl
        have T4 := m4.1
        have S4 := TK_mf S m4 tkop
        generalize eh3 : mx_up h2 94 j (.int 6) = h3 at *
        have n12 : mi h3 76 12 = nI out.length := O3.1
        have o4 : ∀ a, a ≠ 95 → ∀ i, mi (mx_up h3 95 j (.int (nI out.length))) a i = mi h3 a i := fun a ha i => mi_o ha _ _
        have r95 : mi (mx_up h3 95 j (.int (nI out.length))) 95 j = nI out.length := by rw [mi_a T3 mr_ty_95 hj, if_pos rfl]
        have o95 : ∀ i, i ≠ j → mi (mx_up h3 95 j (.int (nI out.length))) 95 i = mi h3 95 i := fun i hi => by rw [mi_a T3 mr_ty_95 hj, if_neg hi]
        have O4 : outR (mx_up h3 95 j (.int (nI out.length))) out := ⟨by rw [o4 76 (by decide)]; exact O3.1, fun i hi => stpR_keep (O3.2 i hi) (o4 85 (by decide) i) (o4 86 (by decide) i) (ml_upI _ _ _ _ _ _ (by decide)) (o4 87 (by decide) i) (o4 88 (by decide) i)⟩
        generalize eh4 : mx_up h3 95 j (.int (nI out.length)) = h4 at *
        obtain ⟨h5, r5, m5, g5⟩ := rm_compile (d := d) S4 (t := k + 2) true O4 (by omega) (by omega)
        have r5 : mx_G (d + 4) 292 0 [some (.ref 76), some (.int (nI (k + 2))), some (.int 1), none, none, none, none] [] h4 = some (some (.int (match cF ts 5 true (k + 2) with | some q => nI q.2 | none => -1)), h5) := r5
        have g5 : ∀ q, cF ts 5 true (k + 2) = some q → outR h5 (out ++ q.1.1) := g5
        have T5 := m5.1
        have m5' := mf_trans m4 (mf_mono cp_op m5)
        have o5 : ∀ a, 93 ≤ a → a ≤ 97 → ∀ i, mi h5 a i = mi h4 a i := fun a h1 h2 i => m5.2.1 a i (by unfold Pcp; simp; omega)
        have o526 : mi h5 76 26 = mi h4 76 26 := m5.2.1 76 26 rfl
        have m6 : mf Pop h (mx_up h5 96 j (.int (mi h5 76 12))) := mf_up m5' (by decide) rfl
        have T6 := m6.1
        have o6 : ∀ a, a ≠ 96 → ∀ i, mi (mx_up h5 96 j (.int (mi h5 76 12))) a i = mi h5 a i := fun a ha i => mi_o ha _ _
        have o96 : ∀ i, i ≠ j → mi (mx_up h5 96 j (.int (mi h5 76 12))) 96 i = mi h5 96 i := fun i hi => by rw [mi_a T5 mr_ty_96 hj, if_neg hi]
        have r96 : mi (mx_up h5 96 j (.int (mi h5 76 12))) 96 j = mi h5 76 12 := by rw [mi_a T5 mr_ty_96 hj, if_pos rfl]
        have S6 := TK_mf S m6 tkop
        have e2 : nI k + 2 = nI (k + 2) := nI_add k 2
        have s3 : ∀ x : Int32, mx_G (d + 4) 292 0 [some (.ref 76), some (.int (nI (k + 2))), some (.int 1), none, none, none, none] [] h4 = some (some (.int x), h5) → mx_G (d + 5) 290 40 [some (.ref 76), some (.int (nI k)), some (.int (nI j)), none, none] [] h2 = mx_G (d + 5) 290 136 [some (.ref 76), some (.int (nI k)), some (.int (nI j)), some (.int 1), some (.int x)] [] (mx_up h5 96 j (.int (mi h5 76 12))) := by
          intro x hx
          simp only [r290_40, r290_41, r290_42, r290_45, r290_48, r290_79, r290_80, r290_81, r290_82, r290_83, r290_85, r290_88, r290_89, r290_90, r290_91, r290_92, r290_94, r290_95, r290_98, r290_99, r290_101, r290_102, r290_103, r290_106, r290_107, r290_110, r290_111, r290_112, r290_115, r290_116, r290_117, r290_118, r290_119, r290_120, r290_121, r290_124, r290_126, r290_127, r290_130, r290_131, r290_132, r290_135, mx_isr_ref, mx_isr_null, mx_wt_nil, mx_wt_1, mx_wt_2, mx_wt_3, Option.bind_some, Option.toList_some, Option.toList_none, List.cons_append, List.nil_append, mx_nl_int, mx_nl_ref, mx_nl_null, mx_nl_none, mx_nb0, mx_nb1, mx_fb0, mx_fb1, mx_cat_int, mx_cat_ref, if_true, if_false, not_true_eq_false, not_false_eq_true, T2, T3, T4, T5, y, zm, i1, zb, mr_ty_77, mr_n_77, mr_isI_77, mr_ty_78, mr_n_78, mr_isI_78, mr_ty_79, mr_n_79, mr_isI_79, mr_ty_80, mr_n_80, mr_isI_80, mr_ty_81, mr_n_81, mr_isI_81, mr_ty_82, mr_n_82, mr_isJ_82, mr_ty_83, mr_n_83, mr_isI_83, mr_ty_84, mr_n_84, mr_isI_84, mr_ty_85, mr_n_85, mr_isI_85, mr_ty_86, mr_n_86, mr_isI_86, mr_ty_87, mr_n_87, mr_isI_87, mr_ty_88, mr_n_88, mr_isI_88, mr_ty_89, mr_n_89, mr_isJ_89, mr_ty_90, mr_n_90, mr_isI_90, mr_ty_91, mr_n_91, mr_isI_91, mr_ty_92, mr_n_92, mr_isI_92, mr_ty_93, mr_n_93, mr_isI_93, mr_ty_94, mr_n_94, mr_isI_94, mr_ty_95, mr_n_95, mr_isI_95, mr_ty_96, mr_n_96, mr_isI_96, mr_ty_97, mr_n_97, mr_isI_97, mr_ty_98, mr_n_98, mr_isI_98, mr_ty_99, mr_n_99, mr_isI_99, mr_ty_100, mr_n_100, mr_isI_100, mr_ty_101, mr_n_101, mr_isI_101, mr_isF_1, mr_isF_3, mr_isF_4, mr_isF_10, mr_isF_12, mr_isF_18, mr_isF_19, mr_isF_21, mr_isF_22, mr_isF_23, mr_isF_26, mr_isF_34, mr_isF_37, mr_isF_38, mr_isF_39, mr_T_up, mr_T_upJ, mr_T_f, j1, j2, hj, nI_1, e2, eh3, n12, eh4, hx, show ¬ (1 : Int32) = 0 by decide]
        -- what stays
        have k26 : mi (mx_up h5 96 j (.int (mi h5 76 12))) 76 26 = nI j := by rw [o6 76 (by decide), o526, o4 76 (by decide), o3 76 (by decide), o76 26 (by decide)]; exact h26
        have k93 : ∀ i, mi (mx_up h5 96 j (.int (mi h5 76 12))) 93 i = mi h 93 i := fun i => by rw [o6 93 (by decide), o5 93 (by decide) (by decide), o4 93 (by decide), o3 93 (by decide)]; exact o2 93 (by decide) (by decide) i
        have k97 : ∀ i, mi (mx_up h5 96 j (.int (mi h5 76 12))) 97 i = mi h 97 i := fun i => by rw [o6 97 (by decide), o5 97 (by decide) (by decide), o4 97 (by decide), o3 97 (by decide)]; exact o2 97 (by decide) (by decide) i
        have k94 : ∀ i, i ≠ j → mi (mx_up h5 96 j (.int (mi h5 76 12))) 94 i = mi h 94 i := fun i hi => by rw [o6 94 (by decide), o5 94 (by decide) (by decide), o4 94 (by decide), ← eh3, mi_a T2 mr_ty_94 hj, if_neg hi]; exact o94 i hi
        have k95 : ∀ i, i ≠ j → mi (mx_up h5 96 j (.int (mi h5 76 12))) 95 i = mi h 95 i := fun i hi => by rw [o6 95 (by decide), o5 95 (by decide) (by decide), o95 i hi, o3 95 (by decide)]; exact o2 95 (by decide) (by decide) i
        have k96 : ∀ i, i ≠ j → mi (mx_up h5 96 j (.int (mi h5 76 12))) 96 i = mi h 96 i := fun i hi => by rw [o96 i hi, o5 96 (by decide) (by decide), o4 96 (by decide), o3 96 (by decide)]; exact o2 96 (by decide) (by decide) i
        cases zc : cF ts 5 true (k + 2) with
        | none =>
          rw [zc] at r5
          refine ⟨_, [], ?_, m6, k26, k93, fun i hi => ⟨k94 i hi, k95 i hi, k96 i hi⟩, k97, fun q hq => by simp at hq⟩
          rw [s3 _ r5]
          simp only [r290_136, r290_138, r290_141, r290_142, r290_144, r290_146, r290_149, r290_152, r290_153, mx_isr_ref, mx_isr_null, mx_wt_nil, mx_wt_1, mx_wt_2, mx_wt_3, Option.bind_some, Option.toList_some, Option.toList_none, List.cons_append, List.nil_append, mx_nl_int, mx_nl_ref, mx_nl_null, mx_nl_none, mx_nb0, mx_nb1, mx_fb0, mx_fb1, mx_cat_int, mx_cat_ref, if_true, if_false, not_true_eq_false, not_false_eq_true, show (-1 : Int32) < 0 by decide]
          rfl
        | some q =>
          rw [zc] at r5
          have bd := cO_bd _ _ _ _ zc
          have A := cF_A S.2 hl _ _ _ _ zc
          have V := cO_val (hd := hd ts) (its := itn) _ _ _ _ zc
          have Oq := g5 q zc
          have n1 : ¬ nI q.2 < 0 := nI_pos (by omega)
          have i6 := rm_isF (d := d + 4) S6.1 (t := q.2) (by omega)
          cases z93 : tI ts q.2 93 with
          | false =>
            refine ⟨_, [], ?_, m6, k26, k93, fun i hi => ⟨k94 i hi, k95 i hi, k96 i hi⟩, k97, fun q' hq => by simp [z93] at hq⟩
            rw [s3 _ r5]
            simp only [r290_136, r290_138, r290_141, r290_142, r290_144, r290_146, r290_149, r290_152, r290_153, mx_isr_ref, mx_isr_null, mx_wt_nil, mx_wt_1, mx_wt_2, mx_wt_3, Option.bind_some, Option.toList_some, Option.toList_none, List.cons_append, List.nil_append, mx_nl_int, mx_nl_ref, mx_nl_null, mx_nl_none, mx_nb0, mx_nb1, mx_fb0, mx_fb1, mx_cat_int, mx_cat_ref, if_true, if_false, not_true_eq_false, not_false_eq_true, T6, n1, i6, z93, Bool.false_eq_true, if_true, Option.bind_some, Option.bind_none]
          | true =>
            have m7 : mf Pop h (mx_up (mx_up h5 96 j (.int (mi h5 76 12))) 94 j (.int 9)) := mf_up m6 (by decide) rfl
            have T7 := m7.1
            have S7 := TK_mf S m7 tkop
            have el := tI_lt (by decide) z93
            have r7 : mi (mx_up (mx_up h5 96 j (.int (mi h5 76 12))) 94 j (.int 9)) 94 j = nI 9 := by rw [mi_a T6 mr_ty_94 hj, if_pos rfl]; rfl
            have o7 : ∀ a, a ≠ 94 → ∀ i, mi (mx_up (mx_up h5 96 j (.int (mi h5 76 12))) 94 j (.int 9)) a i = mi (mx_up h5 96 j (.int (mi h5 76 12))) a i := fun a ha i => mi_o ha _ _
            obtain ⟨h', r', m', f1, f2, f3, f4⟩ := rm_tgT (d := d + 4) S7 (k := k) (j := j) (e := q.2 + 1) (by omega) hj (b := 9) (Or.inr rfl) r7 (l3 := 1)
            have low : mi h' 95 j = nI out.length := by rw [f1 95 j (by decide), o7 95 (by decide), o6 95 (by decide), o5 95 (by decide) (by decide), r95]
            have high : mi h' 96 j = nI (out.length + q.1.1.length) := by rw [f1 96 j (by decide), o7 96 (by decide), r96, Oq.1, List.length_append]
            have Of : outR h' (out ++ q.1.1) := ⟨by rw [f1 76 12 (by decide), o7 76 (by decide), o6 76 (by decide)]; exact Oq.1, fun i hi => stpR_keep (Oq.2 i hi) (by rw [f1 85 i (by decide), o7 85 (by decide), o6 85 (by decide)]) (by rw [f1 86 i (by decide), o7 86 (by decide), o6 86 (by decide)]) (by rw [f2 i, ml_upI _ _ _ _ _ _ (by decide), ml_upI _ _ _ _ _ _ (by decide)]) (by rw [f1 87 i (by decide), o7 87 (by decide), o6 87 (by decide)]) (by rw [f1 88 i (by decide), o7 88 (by decide), o6 88 (by decide)])⟩
            have fin : ∀ x, x ≤ 2 → mi h' 94 j = nI (9 + x) → tgR h' ts (out ++ q.1.1) j (9 + x, q.1) := fun x hx h94 => ⟨h94, by show 9 + x ≤ 11; omega, fun _ => ⟨out.length, low, high, by rw [List.length_append]; exact Nat.le_refl _, fun i hi => by
              unfold sG
              rw [List.getD_eq_getElem?_getD, List.getD_eq_getElem?_getD, List.getElem?_append_right (by omega), Nat.add_sub_cancel_left], V, A.2⟩⟩
            have len : (out ++ q.1.1).length ≤ q.2 := by rw [List.length_append]; have := A.1; omega
            refine ⟨h', q.1.1, ?_, mf_trans m7 m', by rw [f1 76 26 (by decide), o7 76 (by decide)]; exact k26, fun i => by rw [f1 93 i (by decide), o7 93 (by decide)]; exact k93 i, fun i hi => ⟨by rw [f3 i hi, mi_a T6 mr_ty_94 hj, if_neg hi]; exact k94 i hi, by rw [f1 95 i (by decide), o7 95 (by decide)]; exact k95 i hi, by rw [f1 96 i (by decide), o7 96 (by decide)]; exact k96 i hi⟩, fun i => by rw [f1 97 i (by decide), o7 97 (by decide)]; exact k97 i, fun q' hq => ?_⟩
            · rw [s3 _ r5]
              have s4 : mx_G (d + 5) 290 136 [some (.ref 76), some (.int (nI k)), some (.int (nI j)), some (.int 1), some (.int (nI q.2))] [] (mx_up h5 96 j (.int (mi h5 76 12))) = mx_G (d + 5) 290 165 [some (.ref 76), some (.int (nI k)), some (.int (nI j)), some (.int 1), some (.int (nI (q.2 + 1)))] [] (mx_up (mx_up h5 96 j (.int (mi h5 76 12))) 94 j (.int 9)) := by
                simp only [r290_136, r290_138, r290_141, r290_142, r290_144, r290_146, r290_149, r290_152, r290_153, r290_154, r290_157, r290_158, r290_161, r290_162, r290_164, mx_isr_ref, mx_isr_null, mx_wt_nil, mx_wt_1, mx_wt_2, mx_wt_3, Option.bind_some, Option.toList_some, Option.toList_none, List.cons_append, List.nil_append, mx_nl_int, mx_nl_ref, mx_nl_null, mx_nl_none, mx_nb0, mx_nb1, mx_fb0, mx_fb1, mx_cat_int, mx_cat_ref, if_true, if_false, not_true_eq_false, not_false_eq_true, T6, n1, i6, z93, mr_ty_77, mr_n_77, mr_isI_77, mr_ty_78, mr_n_78, mr_isI_78, mr_ty_79, mr_n_79, mr_isI_79, mr_ty_80, mr_n_80, mr_isI_80, mr_ty_81, mr_n_81, mr_isI_81, mr_ty_82, mr_n_82, mr_isJ_82, mr_ty_83, mr_n_83, mr_isI_83, mr_ty_84, mr_n_84, mr_isI_84, mr_ty_85, mr_n_85, mr_isI_85, mr_ty_86, mr_n_86, mr_isI_86, mr_ty_87, mr_n_87, mr_isI_87, mr_ty_88, mr_n_88, mr_isI_88, mr_ty_89, mr_n_89, mr_isJ_89, mr_ty_90, mr_n_90, mr_isI_90, mr_ty_91, mr_n_91, mr_isI_91, mr_ty_92, mr_n_92, mr_isI_92, mr_ty_93, mr_n_93, mr_isI_93, mr_ty_94, mr_n_94, mr_isI_94, mr_ty_95, mr_n_95, mr_isI_95, mr_ty_96, mr_n_96, mr_isI_96, mr_ty_97, mr_n_97, mr_isI_97, mr_ty_98, mr_n_98, mr_isI_98, mr_ty_99, mr_n_99, mr_isI_99, mr_ty_100, mr_n_100, mr_isI_100, mr_ty_101, mr_n_101, mr_isI_101, mr_isF_1, mr_isF_3, mr_isF_4, mr_isF_10, mr_isF_12, mr_isF_18, mr_isF_19, mr_isF_21, mr_isF_22, mr_isF_23, mr_isF_26, mr_isF_34, mr_isF_37, mr_isF_38, mr_isF_39, mr_T_up, mr_T_upJ, mr_T_f, j1, j2, hj, nI_1, show ¬ (1 : Int32) = 0 by decide]
              show mx_G (d + 5) 290 136 [some (.ref 76), some (.int (nI k)), some (.int (nI j)), some (.int 1), some (.int (nI q.2))] [] (mx_up h5 96 j (.int (mi h5 76 12))) = _
              rw [s4, r']
              simp only [if_true, Option.bind_some, z93]
              congr 3
              cases tI ts (q.2 + 1) 46 with
              | false => rfl
              | true =>
                cases tW ts (q.2 + 1 + 1) w_v <;> cases tW ts (q.2 + 1 + 1) w_p <;> rfl
            · simp only [if_true, Option.bind_some, z93] at hq
              cases z46 : tI ts (q.2 + 1) 46 with
              | false =>
                rw [z46, if_pos rfl] at hq f4
                cases hq
                exact ⟨Of, fin 0 (by decide) f4, by show _ ≤ q.2 + 1; omega⟩
              | true =>
                rw [z46, if_neg (show ¬ true = false by decide)] at hq f4
                cases zv : tW ts (q.2 + 1 + 1) w_v with
                | true =>
                  rw [zv, if_pos rfl] at hq f4
                  cases hq
                  exact ⟨Of, fin 1 (by decide) f4, by show _ ≤ q.2 + 1 + 2; omega⟩
                | false =>
                  rw [zv, if_neg (show ¬ false = true by decide)] at hq f4
                  cases zp : tW ts (q.2 + 1 + 1) w_p with
                  | true =>
                    rw [zp, if_pos rfl] at hq f4
                    cases hq
                    exact ⟨Of, fin 2 (by decide) f4, by show _ ≤ q.2 + 1 + 2; omega⟩
                  | false => rw [zp, if_neg (show ¬ false = true by decide)] at hq; cases hq
end
