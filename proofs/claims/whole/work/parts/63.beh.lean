section
variable {d : Nat} {h : mx_H} {ts : List tk}
/-- nothing has changed but where P says so -/
def mf (P : Nat → Nat → Bool) (h h' : mx_H) : Prop := mr_T h' ∧ (∀ a k, P a k = false → mi h' a k = mi h a k) ∧ ∀ a k, a = 82 ∨ a = 89 → P a k = false → ml h' a k = ml h a k
theorem mf_rfl {P : Nat → Nat → Bool} (T : mr_T h) : mf P h h := ⟨T, fun _ _ _ => rfl, fun _ _ _ _ => rfl⟩
theorem mf_trans {P : Nat → Nat → Bool} {h h' h'' : mx_H} (a : mf P h h') (b : mf P h' h'') : mf P h h'' := ⟨b.1, fun x k e => (b.2.1 x k e).trans (a.2.1 x k e), fun x k z e => (b.2.2 x k z e).trans (a.2.2 x k z e)⟩
theorem mf_mono {P Q : Nat → Nat → Bool} {h h' : mx_H} (hPQ : ∀ a k, Q a k = false → P a k = false) (a : mf P h h') : mf Q h h' := ⟨a.1, fun x k e => a.2.1 x k (hPQ x k e), fun x k z e => a.2.2 x k z (hPQ x k e)⟩
theorem mf_up {P : Nat → Nat → Bool} {h h' : mx_H} {a k : Nat} {x : Int32} (m : mf P h h') (hA : mr_isI a = true) (hP : P a k = true) : mf P h (mx_up h' a k (.int x)) := by
  refine ⟨mr_T_up m.1 hA x, fun b j e => ?_, fun b j z e => ?_⟩
  · rw [mi_up, if_neg, m.2.1 b j e]
    rintro ⟨e1, e2, -⟩
    subst e1 e2
    rw [hP] at e; cases e
  · rw [ml_upI, m.2.2 b j z e]
    intro e1
    subst e1
    rcases z with z | z <;> (subst z; exact absurd hA (by decide))
theorem mf_f {P : Nat → Nat → Bool} {h h' : mx_H} {k : Nat} {x : Int32} (m : mf P h h') (hk : mr_isF k = true) (hP : P 76 k = true) : mf P h (mx_up h' 76 k (.int x)) := by
  refine ⟨mr_T_f m.1 hk x, fun b j e => ?_, fun b j z e => ?_⟩
  · rw [mi_up, if_neg, m.2.1 b j e]
    rintro ⟨e1, e2, -⟩
    subst e1 e2
    rw [hP] at e; cases e
  · rw [ml_upI, m.2.2 b j z e]
    rcases z with z | z <;> (subst z; decide)
theorem mf_upJ {P : Nat → Nat → Bool} {h h' : mx_H} {a k : Nat} {x : Int64} (m : mf P h h') (hA : mr_isJ a = true) (hP : ∀ j, P a j = true) : mf P h (mx_up h' a k (.long x)) := by
  refine ⟨mr_T_upJ m.1 hA x, fun b j e => ?_, fun b j z e => ?_⟩
  · rw [mi_upJ, m.2.1 b j e]
    intro e1
    subst e1
    rw [hP] at e; cases e
  · rw [ml_up, if_neg, m.2.2 b j z e]
    rintro ⟨e1, e2, -⟩
    subst e1
    rw [hP] at e; cases e
/-- the tokens are none of it -/
def tkP (P : Nat → Nat → Bool) : Prop := P 76 4 = false ∧ ∀ k, P 79 k = false ∧ P 80 k = false ∧ P 81 k = false ∧ P 82 k = false ∧ P 83 k = false
theorem TS_mf {P : Nat → Nat → Bool} {h h' : mx_H} (S : rm_TS h ts) (m : mf P h h') (hP : tkP P) : rm_TS h' ts := by
  refine ⟨m.1, S.2.1, ?_, fun t ht => ?_⟩
  · rw [m.2.1 _ _ hP.1]; exact S.2.2.1
  · exact rm_tk_keep (S.2.2.2 t ht) (m.2.1 _ _ (hP.2 t).1) (m.2.1 _ _ (hP.2 t).2.1) (m.2.1 _ _ (hP.2 t).2.2.1) (m.2.2 _ _ (Or.inl rfl) (hP.2 t).2.2.2.1) (fun j _ => m.2.1 _ _ (hP.2 j).2.2.2.2) (Nat.le_refl _)
theorem TK_mf {P : Nat → Nat → Bool} {h h' : mx_H} (S : rm_TK h ts) (m : mf P h h') (hP : tkP P) : rm_TK h' ts := ⟨TS_mf S.1 m hP, S.2⟩
def P84 (a _ : Nat) : Bool := a == 84
theorem tk84 : tkP P84 := ⟨rfl, fun _ => ⟨rfl, rfl, rfl, rfl, rfl⟩⟩
def opn (h : mx_H) : List Bool → Prop
  | [] => True
  | o :: os => mi h 84 (os.length + 1) = nI (cl o) ∧ opn h os
theorem opn_up {os : List Bool} {h : mx_H} {x : Int32} {n : Nat} (hn : os.length < n) (ho : opn h os) : opn (mx_up h 84 n (.int x)) os := by
  induction os with
  | nil => exact True.intro
  | cons o os ih =>
    simp only [List.length_cons] at hn
    refine ⟨?_, ih (by omega) ho.2⟩
    rw [mi_up, if_neg (by omega)]
    exact ho.1
def bX (d : Nat) (h : mx_H) (t : Nat) (A : Int32) (k : Nat) (os : List Bool) (wants : Bool) : Prop := ∀ (h1 : mx_H) (l5 l6 : Option Value), mf P84 h h1 → opn h1 os →
  ∃ h', mx_G (d + 2) 251 7 [some (.ref 76), some (.int (nI t)), some (.int (nI os.length)), some (.int (nI k)), some (.int (if wants = true then 1 else 0)), l5, l6] [] h1 = some (some (.int A), h') ∧ mf P84 h h'
theorem sc_lt4 (t : Nat) : sc ts t < 4 := by unfold sc; (repeat' split) <;> omega
theorem cl_i (o : Bool) : (o = true → (nI (cl o) : Int32) = 125) ∧ (o = false → (nI (cl o) : Int32) = 93) := by cases o <;> exact ⟨fun _ => by first | rfl | contradiction, fun _ => by first | rfl | contradiction⟩
theorem bh_fw (S : rm_TK h ts) {t : Nat} {A : Int32} : bfw ts (bX d h t A) := by
  have hl := S.1.2.1
  refine ⟨?_, ?_, ?_, ?_, ?_⟩
  · intro k os hk ho hs hX h1 l5 l6 m op
    have S1 := TK_mf S m tk84
    have T := m.1
    obtain ⟨h', e, m'⟩ := hX h1 (some (.int 0)) l6 m op
    refine ⟨h', ?_, m'⟩
    rw [r251_7]
    have i := rm_isF (d := d + 1) S1.1 (t := k) (by omega)
    have j := rm_scalar (d := d) S1 (t := k) (by omega)
    have b1 := sc_tI hs (c := 123) (by decide)
    have b2 := sc_tI hs (c := 91) (by decide)
    have s0 : ¬ nI (sc ts k) = 0 := fun z => by have := (nI_eq (a := sc ts k) (b := 0) (by have := sc_lt4 (ts := ts) k; omega) (by decide)).mp z; omega
    simp only [r251_9, r251_12, r251_13, r251_16, r251_17, r251_18, r251_20, r251_23, r251_25, r251_27, r251_30, r251_32, r251_35, r251_36, r251_37, r251_39, r251_42, r251_45, r251_48, r251_49, r251_50, r251_53, r251_54, r251_55, r251_56, r251_59, r251_60, r251_62, r251_65, r251_67, r251_70, r251_72, r251_73, r251_74, r251_75, r251_76, r251_77, r251_78, r251_81, r251_82, r251_83, r251_86, r251_89, r251_90, r251_93, r251_94, r251_96, r251_98, r251_101, r251_103, r251_106, r251_107, r251_108, r251_109, r251_110, r251_113, r251_116, r251_117, r251_118, r251_120, r251_123, r251_125, r251_128, r251_129, r251_130, r251_131, r251_134, r251_135, r251_136, r251_137, r251_138, r251_141, r251_143, r251_146, r251_147, r251_148, r251_151, r251_154, r251_155, r251_156, r251_159, r251_160, r251_162, r251_165, r251_166, r251_167, r251_168, r251_171, r251_172, r251_173, r251_176, r251_179, r251_182, r251_185, r251_188, r251_189, r251_192, r251_193, r251_194, r251_196, r251_199, r251_200, r251_203, r251_204, r251_206, r251_207, r251_208, r251_210, r251_213, r251_216, r251_218, r251_221, r251_222, r251_223, r251_224, r251_225, r251_228, r251_231, r251_232, r251_233, r251_235, r251_238, r251_239, r251_240, r251_241, r251_244, r251_245, r251_246, r251_247, r251_248, r251_249, r251_251, mx_isr_ref, mx_isr_null, mx_wt_nil, mx_wt_1, mx_wt_2, mx_wt_3, Option.bind_some, Option.toList_some, Option.toList_none, List.cons_append, List.nil_append, mx_nl_int, mx_nl_ref, mx_nl_null, mx_nl_none, mx_nb0, mx_nb1, mx_fb0, mx_fb1, mx_cat_int, mx_cat_ref, if_true, if_false, not_true_eq_false, not_false_eq_true, T, i, j, b1, b2, s0, Bool.false_eq_true, show ¬ (1 : Int32) = 0 by decide, nI_1]
    exact e
  · intro k os o ho hk hc hm hX h1 l5 l6 m op
    have S1 := TK_mf S m tk84
    have T := m.1
    have kl : k < ts.length := tI_lt (by cases o <;> decide) hk
    have m2 : mf P84 h (mx_up h1 84 (os.length + 1) (.int (nI (cl o)))) := mf_up m (by decide) rfl
    have S2 := TK_mf S m2 tk84
    have T2 := m2.1
    have rd : mi (mx_up h1 84 (os.length + 1) (.int (nI (cl o)))) 84 (os.length + 1) = nI (cl o) := by
      rw [mi_up, if_pos ⟨rfl, rfl, by rw [mr_ln T mr_ty_84]; show _ < 5; omega⟩]
    have hlt : os.length + 1 < 5 := by omega
    have t1 : (nI (os.length + 1)).toNatClampNeg = os.length + 1 := nI_clamp (by omega)
    have t2 : (0 : Int32) ≤ nI (os.length + 1) := nI_pos' (by omega)
    have t3 : nI (os.length + 1) ≤ 3 := nI_le (b := 3) (by omega) (by decide)
    have i := rm_isF (d := d + 1) S1.1 (t := k) (by omega)
    have i2 := rm_isF (d := d + 1) S2.1 (t := k + 1) (by omega)
    cases o with
    | true =>
      obtain ⟨h', e, m'⟩ := hX (mx_up h1 84 (os.length + 1) (.int 125)) (some (.int 1)) l6 m2 ⟨rd, opn_up (by omega) op⟩
      refine ⟨h', ?_, m'⟩
      have j := rm_isMember (d := d) S2.1 (t := k + 1) (by omega)
      rw [hm rfl] at j
      rw [show nI (cl true) = 125 from rfl] at *
      have hk : tI ts k 123 = true := hk
      have hc : tI ts (k + 1) 125 = false := hc
      have e3 : nI k + 3 = nI (k + 1 + 2) := nI_add k 3
      rw [r251_7]
      simp only [r251_9, r251_12, r251_13, r251_16, r251_17, r251_18, r251_20, r251_23, r251_25, r251_27, r251_30, r251_32, r251_35, r251_36, r251_37, r251_39, r251_42, r251_45, r251_48, r251_49, r251_50, r251_53, r251_54, r251_55, r251_56, r251_59, r251_60, r251_62, r251_65, r251_67, r251_70, r251_72, r251_73, r251_74, r251_75, r251_76, r251_77, r251_78, r251_81, r251_82, r251_83, r251_86, r251_89, r251_90, r251_93, r251_94, r251_96, r251_98, r251_101, r251_103, r251_106, r251_107, r251_108, r251_109, r251_110, r251_113, r251_116, r251_117, r251_118, r251_120, r251_123, r251_125, r251_128, r251_129, r251_130, r251_131, r251_134, r251_135, r251_136, r251_137, r251_138, r251_141, r251_143, r251_146, r251_147, r251_148, r251_151, r251_154, r251_155, r251_156, r251_159, r251_160, r251_162, r251_165, r251_166, r251_167, r251_168, r251_171, r251_172, r251_173, r251_176, r251_179, r251_182, r251_185, r251_188, r251_189, r251_192, r251_193, r251_194, r251_196, r251_199, r251_200, r251_203, r251_204, r251_206, r251_207, r251_208, r251_210, r251_213, r251_216, r251_218, r251_221, r251_222, r251_223, r251_224, r251_225, r251_228, r251_231, r251_232, r251_233, r251_235, r251_238, r251_239, r251_240, r251_241, r251_244, r251_245, r251_246, r251_247, r251_248, r251_249, r251_251, mx_isr_ref, mx_isr_null, mx_wt_nil, mx_wt_1, mx_wt_2, mx_wt_3, Option.bind_some, Option.toList_some, Option.toList_none, List.cons_append, List.nil_append, mx_nl_int, mx_nl_ref, mx_nl_null, mx_nl_none, mx_nb0, mx_nb1, mx_fb0, mx_fb1, mx_cat_int, mx_cat_ref, if_true, if_false, not_true_eq_false, not_false_eq_true, T, i, i2, j, hk, hc, rd, T2, t1, t2, t3, e3, hlt, mr_ty_77, mr_n_77, mr_isI_77, mr_ty_78, mr_n_78, mr_isI_78, mr_ty_79, mr_n_79, mr_isI_79, mr_ty_80, mr_n_80, mr_isI_80, mr_ty_81, mr_n_81, mr_isI_81, mr_ty_82, mr_n_82, mr_isJ_82, mr_ty_83, mr_n_83, mr_isI_83, mr_ty_84, mr_n_84, mr_isI_84, mr_ty_85, mr_n_85, mr_isI_85, mr_ty_86, mr_n_86, mr_isI_86, mr_ty_87, mr_n_87, mr_isI_87, mr_ty_88, mr_n_88, mr_isI_88, mr_ty_89, mr_n_89, mr_isJ_89, mr_ty_90, mr_n_90, mr_isI_90, mr_ty_91, mr_n_91, mr_isI_91, mr_ty_92, mr_n_92, mr_isI_92, mr_ty_93, mr_n_93, mr_isI_93, mr_ty_94, mr_n_94, mr_isI_94, mr_ty_95, mr_n_95, mr_isI_95, mr_ty_96, mr_n_96, mr_isI_96, mr_ty_97, mr_n_97, mr_isI_97, mr_ty_98, mr_n_98, mr_isI_98, mr_ty_99, mr_n_99, mr_isI_99, mr_ty_100, mr_n_100, mr_isI_100, mr_ty_101, mr_n_101, mr_isI_101, mr_isF_1, mr_isF_3, mr_isF_4, mr_isF_10, mr_isF_12, mr_isF_18, mr_isF_19, mr_isF_21, mr_isF_22, mr_isF_23, mr_isF_26, mr_isF_34, mr_isF_37, mr_isF_38, mr_isF_39, mr_T_up, mr_T_upJ, mr_T_f, Bool.false_eq_true, show ¬ (1 : Int32) = 0 by decide, nI_1]
      exact e
    | false =>
      obtain ⟨h', e, m'⟩ := hX (mx_up h1 84 (os.length + 1) (.int 93)) (some (.int 0)) l6 m2 ⟨rd, opn_up (by omega) op⟩
      refine ⟨h', ?_, m'⟩
      rw [show nI (cl false) = 93 from rfl] at *
      have hk' : tI ts k 123 = false := (op_ne (o := false) hk).2 rfl |>.1
      have hk : tI ts k 91 = true := hk
      have hc : tI ts (k + 1) 93 = false := hc
      rw [r251_7]
      simp only [r251_9, r251_12, r251_13, r251_16, r251_17, r251_18, r251_20, r251_23, r251_25, r251_27, r251_30, r251_32, r251_35, r251_36, r251_37, r251_39, r251_42, r251_45, r251_48, r251_49, r251_50, r251_53, r251_54, r251_55, r251_56, r251_59, r251_60, r251_62, r251_65, r251_67, r251_70, r251_72, r251_73, r251_74, r251_75, r251_76, r251_77, r251_78, r251_81, r251_82, r251_83, r251_86, r251_89, r251_90, r251_93, r251_94, r251_96, r251_98, r251_101, r251_103, r251_106, r251_107, r251_108, r251_109, r251_110, r251_113, r251_116, r251_117, r251_118, r251_120, r251_123, r251_125, r251_128, r251_129, r251_130, r251_131, r251_134, r251_135, r251_136, r251_137, r251_138, r251_141, r251_143, r251_146, r251_147, r251_148, r251_151, r251_154, r251_155, r251_156, r251_159, r251_160, r251_162, r251_165, r251_166, r251_167, r251_168, r251_171, r251_172, r251_173, r251_176, r251_179, r251_182, r251_185, r251_188, r251_189, r251_192, r251_193, r251_194, r251_196, r251_199, r251_200, r251_203, r251_204, r251_206, r251_207, r251_208, r251_210, r251_213, r251_216, r251_218, r251_221, r251_222, r251_223, r251_224, r251_225, r251_228, r251_231, r251_232, r251_233, r251_235, r251_238, r251_239, r251_240, r251_241, r251_244, r251_245, r251_246, r251_247, r251_248, r251_249, r251_251, mx_isr_ref, mx_isr_null, mx_wt_nil, mx_wt_1, mx_wt_2, mx_wt_3, Option.bind_some, Option.toList_some, Option.toList_none, List.cons_append, List.nil_append, mx_nl_int, mx_nl_ref, mx_nl_null, mx_nl_none, mx_nb0, mx_nb1, mx_fb0, mx_fb1, mx_cat_int, mx_cat_ref, if_true, if_false, not_true_eq_false, not_false_eq_true, T, i, i2, hk, hk', hc, rd, T2, t1, t2, t3, hlt, mr_ty_77, mr_n_77, mr_isI_77, mr_ty_78, mr_n_78, mr_isI_78, mr_ty_79, mr_n_79, mr_isI_79, mr_ty_80, mr_n_80, mr_isI_80, mr_ty_81, mr_n_81, mr_isI_81, mr_ty_82, mr_n_82, mr_isJ_82, mr_ty_83, mr_n_83, mr_isI_83, mr_ty_84, mr_n_84, mr_isI_84, mr_ty_85, mr_n_85, mr_isI_85, mr_ty_86, mr_n_86, mr_isI_86, mr_ty_87, mr_n_87, mr_isI_87, mr_ty_88, mr_n_88, mr_isI_88, mr_ty_89, mr_n_89, mr_isJ_89, mr_ty_90, mr_n_90, mr_isI_90, mr_ty_91, mr_n_91, mr_isI_91, mr_ty_92, mr_n_92, mr_isI_92, mr_ty_93, mr_n_93, mr_isI_93, mr_ty_94, mr_n_94, mr_isI_94, mr_ty_95, mr_n_95, mr_isI_95, mr_ty_96, mr_n_96, mr_isI_96, mr_ty_97, mr_n_97, mr_isI_97, mr_ty_98, mr_n_98, mr_isI_98, mr_ty_99, mr_n_99, mr_isI_99, mr_ty_100, mr_n_100, mr_isI_100, mr_ty_101, mr_n_101, mr_isI_101, mr_isF_1, mr_isF_3, mr_isF_4, mr_isF_10, mr_isF_12, mr_isF_18, mr_isF_19, mr_isF_21, mr_isF_22, mr_isF_23, mr_isF_26, mr_isF_34, mr_isF_37, mr_isF_38, mr_isF_39, mr_T_up, mr_T_upJ, mr_T_f, Bool.false_eq_true, show ¬ (1 : Int32) = 0 by decide, nI_1]
      exact e
  · intro k os o ho hk hc hX h1 l5 l6 m op
    have S1 := TK_mf S m tk84
    have T := m.1
    have kl : k < ts.length := tI_lt (by cases o <;> decide) hk
    have m2 : mf P84 h (mx_up h1 84 (os.length + 1) (.int (nI (cl o)))) := mf_up m (by decide) rfl
    have S2 := TK_mf S m2 tk84
    have T2 := m2.1
    have rd : mi (mx_up h1 84 (os.length + 1) (.int (nI (cl o)))) 84 (os.length + 1) = nI (cl o) := by
      rw [mi_up, if_pos ⟨rfl, rfl, by rw [mr_ln T mr_ty_84]; show _ < 5; omega⟩]
    have hlt : os.length + 1 < 5 := by omega
    have t1 : (nI (os.length + 1)).toNatClampNeg = os.length + 1 := nI_clamp (by omega)
    have t2 : (0 : Int32) ≤ nI (os.length + 1) := nI_pos' (by omega)
    have t3 : nI (os.length + 1) ≤ 3 := nI_le (b := 3) (by omega) (by decide)
    have i := rm_isF (d := d + 1) S1.1 (t := k) (by omega)
    have i2 := rm_isF (d := d + 1) S2.1 (t := k + 1) (by omega)
    cases o with
    | true =>
      obtain ⟨h', e, m'⟩ := hX (mx_up h1 84 (os.length + 1) (.int 125)) (some (.int 1)) l6 m2 ⟨rd, opn_up (by omega) op⟩
      refine ⟨h', ?_, m'⟩
      rw [show nI (cl true) = 125 from rfl] at *
      have hk : tI ts k 123 = true := hk
      have hc : tI ts (k + 1) 125 = true := hc
      rw [r251_7]
      simp only [r251_9, r251_12, r251_13, r251_16, r251_17, r251_18, r251_20, r251_23, r251_25, r251_27, r251_30, r251_32, r251_35, r251_36, r251_37, r251_39, r251_42, r251_45, r251_48, r251_49, r251_50, r251_53, r251_54, r251_55, r251_56, r251_59, r251_60, r251_62, r251_65, r251_67, r251_70, r251_72, r251_73, r251_74, r251_75, r251_76, r251_77, r251_78, r251_81, r251_82, r251_83, r251_86, r251_89, r251_90, r251_93, r251_94, r251_96, r251_98, r251_101, r251_103, r251_106, r251_107, r251_108, r251_109, r251_110, r251_113, r251_116, r251_117, r251_118, r251_120, r251_123, r251_125, r251_128, r251_129, r251_130, r251_131, r251_134, r251_135, r251_136, r251_137, r251_138, r251_141, r251_143, r251_146, r251_147, r251_148, r251_151, r251_154, r251_155, r251_156, r251_159, r251_160, r251_162, r251_165, r251_166, r251_167, r251_168, r251_171, r251_172, r251_173, r251_176, r251_179, r251_182, r251_185, r251_188, r251_189, r251_192, r251_193, r251_194, r251_196, r251_199, r251_200, r251_203, r251_204, r251_206, r251_207, r251_208, r251_210, r251_213, r251_216, r251_218, r251_221, r251_222, r251_223, r251_224, r251_225, r251_228, r251_231, r251_232, r251_233, r251_235, r251_238, r251_239, r251_240, r251_241, r251_244, r251_245, r251_246, r251_247, r251_248, r251_249, r251_251, mx_isr_ref, mx_isr_null, mx_wt_nil, mx_wt_1, mx_wt_2, mx_wt_3, Option.bind_some, Option.toList_some, Option.toList_none, List.cons_append, List.nil_append, mx_nl_int, mx_nl_ref, mx_nl_null, mx_nl_none, mx_nb0, mx_nb1, mx_fb0, mx_fb1, mx_cat_int, mx_cat_ref, if_true, if_false, not_true_eq_false, not_false_eq_true, T, i, i2, hk, hc, rd, T2, t1, t2, t3, hlt, mr_ty_77, mr_n_77, mr_isI_77, mr_ty_78, mr_n_78, mr_isI_78, mr_ty_79, mr_n_79, mr_isI_79, mr_ty_80, mr_n_80, mr_isI_80, mr_ty_81, mr_n_81, mr_isI_81, mr_ty_82, mr_n_82, mr_isJ_82, mr_ty_83, mr_n_83, mr_isI_83, mr_ty_84, mr_n_84, mr_isI_84, mr_ty_85, mr_n_85, mr_isI_85, mr_ty_86, mr_n_86, mr_isI_86, mr_ty_87, mr_n_87, mr_isI_87, mr_ty_88, mr_n_88, mr_isI_88, mr_ty_89, mr_n_89, mr_isJ_89, mr_ty_90, mr_n_90, mr_isI_90, mr_ty_91, mr_n_91, mr_isI_91, mr_ty_92, mr_n_92, mr_isI_92, mr_ty_93, mr_n_93, mr_isI_93, mr_ty_94, mr_n_94, mr_isI_94, mr_ty_95, mr_n_95, mr_isI_95, mr_ty_96, mr_n_96, mr_isI_96, mr_ty_97, mr_n_97, mr_isI_97, mr_ty_98, mr_n_98, mr_isI_98, mr_ty_99, mr_n_99, mr_isI_99, mr_ty_100, mr_n_100, mr_isI_100, mr_ty_101, mr_n_101, mr_isI_101, mr_isF_1, mr_isF_3, mr_isF_4, mr_isF_10, mr_isF_12, mr_isF_18, mr_isF_19, mr_isF_21, mr_isF_22, mr_isF_23, mr_isF_26, mr_isF_34, mr_isF_37, mr_isF_38, mr_isF_39, mr_T_up, mr_T_upJ, mr_T_f, Bool.false_eq_true, show ¬ (1 : Int32) = 0 by decide, nI_1]
      exact e
    | false =>
      obtain ⟨h', e, m'⟩ := hX (mx_up h1 84 (os.length + 1) (.int 93)) (some (.int 0)) l6 m2 ⟨rd, opn_up (by omega) op⟩
      refine ⟨h', ?_, m'⟩
      rw [show nI (cl false) = 93 from rfl] at *
      have hk' : tI ts k 123 = false := (op_ne (o := false) hk).2 rfl |>.1
      have hk : tI ts k 91 = true := hk
      have hc : tI ts (k + 1) 93 = true := hc
      rw [r251_7]
      simp only [r251_9, r251_12, r251_13, r251_16, r251_17, r251_18, r251_20, r251_23, r251_25, r251_27, r251_30, r251_32, r251_35, r251_36, r251_37, r251_39, r251_42, r251_45, r251_48, r251_49, r251_50, r251_53, r251_54, r251_55, r251_56, r251_59, r251_60, r251_62, r251_65, r251_67, r251_70, r251_72, r251_73, r251_74, r251_75, r251_76, r251_77, r251_78, r251_81, r251_82, r251_83, r251_86, r251_89, r251_90, r251_93, r251_94, r251_96, r251_98, r251_101, r251_103, r251_106, r251_107, r251_108, r251_109, r251_110, r251_113, r251_116, r251_117, r251_118, r251_120, r251_123, r251_125, r251_128, r251_129, r251_130, r251_131, r251_134, r251_135, r251_136, r251_137, r251_138, r251_141, r251_143, r251_146, r251_147, r251_148, r251_151, r251_154, r251_155, r251_156, r251_159, r251_160, r251_162, r251_165, r251_166, r251_167, r251_168, r251_171, r251_172, r251_173, r251_176, r251_179, r251_182, r251_185, r251_188, r251_189, r251_192, r251_193, r251_194, r251_196, r251_199, r251_200, r251_203, r251_204, r251_206, r251_207, r251_208, r251_210, r251_213, r251_216, r251_218, r251_221, r251_222, r251_223, r251_224, r251_225, r251_228, r251_231, r251_232, r251_233, r251_235, r251_238, r251_239, r251_240, r251_241, r251_244, r251_245, r251_246, r251_247, r251_248, r251_249, r251_251, mx_isr_ref, mx_isr_null, mx_wt_nil, mx_wt_1, mx_wt_2, mx_wt_3, Option.bind_some, Option.toList_some, Option.toList_none, List.cons_append, List.nil_append, mx_nl_int, mx_nl_ref, mx_nl_null, mx_nl_none, mx_nb0, mx_nb1, mx_fb0, mx_fb1, mx_cat_int, mx_cat_ref, if_true, if_false, not_true_eq_false, not_false_eq_true, T, i, i2, hk, hk', hc, rd, T2, t1, t2, t3, hlt, mr_ty_77, mr_n_77, mr_isI_77, mr_ty_78, mr_n_78, mr_isI_78, mr_ty_79, mr_n_79, mr_isI_79, mr_ty_80, mr_n_80, mr_isI_80, mr_ty_81, mr_n_81, mr_isI_81, mr_ty_82, mr_n_82, mr_isJ_82, mr_ty_83, mr_n_83, mr_isI_83, mr_ty_84, mr_n_84, mr_isI_84, mr_ty_85, mr_n_85, mr_isI_85, mr_ty_86, mr_n_86, mr_isI_86, mr_ty_87, mr_n_87, mr_isI_87, mr_ty_88, mr_n_88, mr_isI_88, mr_ty_89, mr_n_89, mr_isJ_89, mr_ty_90, mr_n_90, mr_isI_90, mr_ty_91, mr_n_91, mr_isI_91, mr_ty_92, mr_n_92, mr_isI_92, mr_ty_93, mr_n_93, mr_isI_93, mr_ty_94, mr_n_94, mr_isI_94, mr_ty_95, mr_n_95, mr_isI_95, mr_ty_96, mr_n_96, mr_isI_96, mr_ty_97, mr_n_97, mr_isI_97, mr_ty_98, mr_n_98, mr_isI_98, mr_ty_99, mr_n_99, mr_isI_99, mr_ty_100, mr_n_100, mr_isI_100, mr_ty_101, mr_n_101, mr_isI_101, mr_isF_1, mr_isF_3, mr_isF_4, mr_isF_10, mr_isF_12, mr_isF_18, mr_isF_19, mr_isF_21, mr_isF_22, mr_isF_23, mr_isF_26, mr_isF_34, mr_isF_37, mr_isF_38, mr_isF_39, mr_T_up, mr_T_upJ, mr_T_f, Bool.false_eq_true, show ¬ (1 : Int32) = 0 by decide, nI_1]
      exact e
  · intro k os o ho hk hX h1 l5 l6 m op
    have S1 := TK_mf S m tk84
    have T := m.1
    have kl : k < ts.length := tI_lt (cl_pos o) hk
    have hlt : os.length + 1 < 5 := by omega
    have t1 : (nI (os.length + 1)).toNatClampNeg = os.length + 1 := nI_clamp (by omega)
    have t2 : (0 : Int32) ≤ nI (os.length + 1) := nI_pos' (by omega)
    have t3 : ¬ (os.length + 1 = 0) := by omega
    have i := rm_isF (d := d + 1) S1.1 (t := k) (by omega)
    obtain ⟨h', e, m'⟩ := hX h1 (some (.int (if tI ts k 123 = true then 1 else 0))) l6 m op.2
    refine ⟨h', ?_, m'⟩
    have rd := op.1
    have e1 := nI_m1 os.length (by omega)
    rw [r251_7]
    cases o with
    | true =>
      rw [show nI (cl true) = 125 from rfl] at rd
      have hk : tI ts k 125 = true := hk
      simp only [r251_9, r251_12, r251_13, r251_16, r251_17, r251_18, r251_20, r251_23, r251_25, r251_27, r251_30, r251_32, r251_35, r251_36, r251_37, r251_39, r251_42, r251_45, r251_48, r251_49, r251_50, r251_53, r251_54, r251_55, r251_56, r251_59, r251_60, r251_62, r251_65, r251_67, r251_70, r251_72, r251_73, r251_74, r251_75, r251_76, r251_77, r251_78, r251_81, r251_82, r251_83, r251_86, r251_89, r251_90, r251_93, r251_94, r251_96, r251_98, r251_101, r251_103, r251_106, r251_107, r251_108, r251_109, r251_110, r251_113, r251_116, r251_117, r251_118, r251_120, r251_123, r251_125, r251_128, r251_129, r251_130, r251_131, r251_134, r251_135, r251_136, r251_137, r251_138, r251_141, r251_143, r251_146, r251_147, r251_148, r251_151, r251_154, r251_155, r251_156, r251_159, r251_160, r251_162, r251_165, r251_166, r251_167, r251_168, r251_171, r251_172, r251_173, r251_176, r251_179, r251_182, r251_185, r251_188, r251_189, r251_192, r251_193, r251_194, r251_196, r251_199, r251_200, r251_203, r251_204, r251_206, r251_207, r251_208, r251_210, r251_213, r251_216, r251_218, r251_221, r251_222, r251_223, r251_224, r251_225, r251_228, r251_231, r251_232, r251_233, r251_235, r251_238, r251_239, r251_240, r251_241, r251_244, r251_245, r251_246, r251_247, r251_248, r251_249, r251_251, mx_isr_ref, mx_isr_null, mx_wt_nil, mx_wt_1, mx_wt_2, mx_wt_3, Option.bind_some, Option.toList_some, Option.toList_none, List.cons_append, List.nil_append, mx_nl_int, mx_nl_ref, mx_nl_null, mx_nl_none, mx_nb0, mx_nb1, mx_fb0, mx_fb1, mx_cat_int, mx_cat_ref, if_true, if_false, not_true_eq_false, not_false_eq_true, T, i, hk, rd, t1, t2, t3, hlt, e1, List.length_cons, nI_le0 (os.length + 1) (by omega), mr_ty_77, mr_n_77, mr_isI_77, mr_ty_78, mr_n_78, mr_isI_78, mr_ty_79, mr_n_79, mr_isI_79, mr_ty_80, mr_n_80, mr_isI_80, mr_ty_81, mr_n_81, mr_isI_81, mr_ty_82, mr_n_82, mr_isJ_82, mr_ty_83, mr_n_83, mr_isI_83, mr_ty_84, mr_n_84, mr_isI_84, mr_ty_85, mr_n_85, mr_isI_85, mr_ty_86, mr_n_86, mr_isI_86, mr_ty_87, mr_n_87, mr_isI_87, mr_ty_88, mr_n_88, mr_isI_88, mr_ty_89, mr_n_89, mr_isJ_89, mr_ty_90, mr_n_90, mr_isI_90, mr_ty_91, mr_n_91, mr_isI_91, mr_ty_92, mr_n_92, mr_isI_92, mr_ty_93, mr_n_93, mr_isI_93, mr_ty_94, mr_n_94, mr_isI_94, mr_ty_95, mr_n_95, mr_isI_95, mr_ty_96, mr_n_96, mr_isI_96, mr_ty_97, mr_n_97, mr_isI_97, mr_ty_98, mr_n_98, mr_isI_98, mr_ty_99, mr_n_99, mr_isI_99, mr_ty_100, mr_n_100, mr_isI_100, mr_ty_101, mr_n_101, mr_isI_101, mr_isF_1, mr_isF_3, mr_isF_4, mr_isF_10, mr_isF_12, mr_isF_18, mr_isF_19, mr_isF_21, mr_isF_22, mr_isF_23, mr_isF_26, mr_isF_34, mr_isF_37, mr_isF_38, mr_isF_39, mr_T_up, mr_T_upJ, mr_T_f, Bool.false_eq_true, show ¬ (1 : Int32) = 0 by decide, nI_1]
      exact e
    | false =>
      rw [show nI (cl false) = 93 from rfl] at rd
      have hk : tI ts k 93 = true := hk
      simp only [r251_9, r251_12, r251_13, r251_16, r251_17, r251_18, r251_20, r251_23, r251_25, r251_27, r251_30, r251_32, r251_35, r251_36, r251_37, r251_39, r251_42, r251_45, r251_48, r251_49, r251_50, r251_53, r251_54, r251_55, r251_56, r251_59, r251_60, r251_62, r251_65, r251_67, r251_70, r251_72, r251_73, r251_74, r251_75, r251_76, r251_77, r251_78, r251_81, r251_82, r251_83, r251_86, r251_89, r251_90, r251_93, r251_94, r251_96, r251_98, r251_101, r251_103, r251_106, r251_107, r251_108, r251_109, r251_110, r251_113, r251_116, r251_117, r251_118, r251_120, r251_123, r251_125, r251_128, r251_129, r251_130, r251_131, r251_134, r251_135, r251_136, r251_137, r251_138, r251_141, r251_143, r251_146, r251_147, r251_148, r251_151, r251_154, r251_155, r251_156, r251_159, r251_160, r251_162, r251_165, r251_166, r251_167, r251_168, r251_171, r251_172, r251_173, r251_176, r251_179, r251_182, r251_185, r251_188, r251_189, r251_192, r251_193, r251_194, r251_196, r251_199, r251_200, r251_203, r251_204, r251_206, r251_207, r251_208, r251_210, r251_213, r251_216, r251_218, r251_221, r251_222, r251_223, r251_224, r251_225, r251_228, r251_231, r251_232, r251_233, r251_235, r251_238, r251_239, r251_240, r251_241, r251_244, r251_245, r251_246, r251_247, r251_248, r251_249, r251_251, mx_isr_ref, mx_isr_null, mx_wt_nil, mx_wt_1, mx_wt_2, mx_wt_3, Option.bind_some, Option.toList_some, Option.toList_none, List.cons_append, List.nil_append, mx_nl_int, mx_nl_ref, mx_nl_null, mx_nl_none, mx_nb0, mx_nb1, mx_fb0, mx_fb1, mx_cat_int, mx_cat_ref, if_true, if_false, not_true_eq_false, not_false_eq_true, T, i, hk, rd, t1, t2, t3, hlt, e1, List.length_cons, nI_le0 (os.length + 1) (by omega), mr_ty_77, mr_n_77, mr_isI_77, mr_ty_78, mr_n_78, mr_isI_78, mr_ty_79, mr_n_79, mr_isI_79, mr_ty_80, mr_n_80, mr_isI_80, mr_ty_81, mr_n_81, mr_isI_81, mr_ty_82, mr_n_82, mr_isJ_82, mr_ty_83, mr_n_83, mr_isI_83, mr_ty_84, mr_n_84, mr_isI_84, mr_ty_85, mr_n_85, mr_isI_85, mr_ty_86, mr_n_86, mr_isI_86, mr_ty_87, mr_n_87, mr_isI_87, mr_ty_88, mr_n_88, mr_isI_88, mr_ty_89, mr_n_89, mr_isJ_89, mr_ty_90, mr_n_90, mr_isI_90, mr_ty_91, mr_n_91, mr_isI_91, mr_ty_92, mr_n_92, mr_isI_92, mr_ty_93, mr_n_93, mr_isI_93, mr_ty_94, mr_n_94, mr_isI_94, mr_ty_95, mr_n_95, mr_isI_95, mr_ty_96, mr_n_96, mr_isI_96, mr_ty_97, mr_n_97, mr_isI_97, mr_ty_98, mr_n_98, mr_isI_98, mr_ty_99, mr_n_99, mr_isI_99, mr_ty_100, mr_n_100, mr_isI_100, mr_ty_101, mr_n_101, mr_isI_101, mr_isF_1, mr_isF_3, mr_isF_4, mr_isF_10, mr_isF_12, mr_isF_18, mr_isF_19, mr_isF_21, mr_isF_22, mr_isF_23, mr_isF_26, mr_isF_34, mr_isF_37, mr_isF_38, mr_isF_39, mr_T_up, mr_T_upJ, mr_T_f, Bool.false_eq_true, show ¬ (1 : Int32) = 0 by decide, nI_1]
      exact e
  · intro k os o ho hk hc hm hX h1 l5 l6 m op
    have S1 := TK_mf S m tk84
    have T := m.1
    have kl : k < ts.length := tI_lt (by decide) hc
    have hlt : os.length + 1 < 5 := by omega
    have t1 : (nI (os.length + 1)).toNatClampNeg = os.length + 1 := nI_clamp (by omega)
    have t2 : (0 : Int32) ≤ nI (os.length + 1) := nI_pos' (by omega)
    have t3 : ¬ (os.length + 1 = 0) := by omega
    have i := rm_isF (d := d + 1) S1.1 (t := k) (by omega)
    have rd := op.1
    cases o with
    | true =>
      obtain ⟨h', e, m'⟩ := hX h1 (some (.int (if tI ts k 123 = true then 1 else 0))) (some (.int 1)) m op
      refine ⟨h', ?_, m'⟩
      have j := rm_isMember (d := d) S1.1 (t := k + 1) (by omega)
      rw [hm rfl] at j
      rw [show nI (cl true) = 125 from rfl] at rd
      have hk : tI ts k 125 = false := hk
      have e3 : nI k + 3 = nI (k + 1 + 2) := nI_add k 3
      rw [r251_7]
      simp only [r251_9, r251_12, r251_13, r251_16, r251_17, r251_18, r251_20, r251_23, r251_25, r251_27, r251_30, r251_32, r251_35, r251_36, r251_37, r251_39, r251_42, r251_45, r251_48, r251_49, r251_50, r251_53, r251_54, r251_55, r251_56, r251_59, r251_60, r251_62, r251_65, r251_67, r251_70, r251_72, r251_73, r251_74, r251_75, r251_76, r251_77, r251_78, r251_81, r251_82, r251_83, r251_86, r251_89, r251_90, r251_93, r251_94, r251_96, r251_98, r251_101, r251_103, r251_106, r251_107, r251_108, r251_109, r251_110, r251_113, r251_116, r251_117, r251_118, r251_120, r251_123, r251_125, r251_128, r251_129, r251_130, r251_131, r251_134, r251_135, r251_136, r251_137, r251_138, r251_141, r251_143, r251_146, r251_147, r251_148, r251_151, r251_154, r251_155, r251_156, r251_159, r251_160, r251_162, r251_165, r251_166, r251_167, r251_168, r251_171, r251_172, r251_173, r251_176, r251_179, r251_182, r251_185, r251_188, r251_189, r251_192, r251_193, r251_194, r251_196, r251_199, r251_200, r251_203, r251_204, r251_206, r251_207, r251_208, r251_210, r251_213, r251_216, r251_218, r251_221, r251_222, r251_223, r251_224, r251_225, r251_228, r251_231, r251_232, r251_233, r251_235, r251_238, r251_239, r251_240, r251_241, r251_244, r251_245, r251_246, r251_247, r251_248, r251_249, r251_251, mx_isr_ref, mx_isr_null, mx_wt_nil, mx_wt_1, mx_wt_2, mx_wt_3, Option.bind_some, Option.toList_some, Option.toList_none, List.cons_append, List.nil_append, mx_nl_int, mx_nl_ref, mx_nl_null, mx_nl_none, mx_nb0, mx_nb1, mx_fb0, mx_fb1, mx_cat_int, mx_cat_ref, if_true, if_false, not_true_eq_false, not_false_eq_true, T, i, j, hk, hc, rd, t1, t2, t3, hlt, e3, List.length_cons, nI_le0 (os.length + 1) (by omega), mr_ty_77, mr_n_77, mr_isI_77, mr_ty_78, mr_n_78, mr_isI_78, mr_ty_79, mr_n_79, mr_isI_79, mr_ty_80, mr_n_80, mr_isI_80, mr_ty_81, mr_n_81, mr_isI_81, mr_ty_82, mr_n_82, mr_isJ_82, mr_ty_83, mr_n_83, mr_isI_83, mr_ty_84, mr_n_84, mr_isI_84, mr_ty_85, mr_n_85, mr_isI_85, mr_ty_86, mr_n_86, mr_isI_86, mr_ty_87, mr_n_87, mr_isI_87, mr_ty_88, mr_n_88, mr_isI_88, mr_ty_89, mr_n_89, mr_isJ_89, mr_ty_90, mr_n_90, mr_isI_90, mr_ty_91, mr_n_91, mr_isI_91, mr_ty_92, mr_n_92, mr_isI_92, mr_ty_93, mr_n_93, mr_isI_93, mr_ty_94, mr_n_94, mr_isI_94, mr_ty_95, mr_n_95, mr_isI_95, mr_ty_96, mr_n_96, mr_isI_96, mr_ty_97, mr_n_97, mr_isI_97, mr_ty_98, mr_n_98, mr_isI_98, mr_ty_99, mr_n_99, mr_isI_99, mr_ty_100, mr_n_100, mr_isI_100, mr_ty_101, mr_n_101, mr_isI_101, mr_isF_1, mr_isF_3, mr_isF_4, mr_isF_10, mr_isF_12, mr_isF_18, mr_isF_19, mr_isF_21, mr_isF_22, mr_isF_23, mr_isF_26, mr_isF_34, mr_isF_37, mr_isF_38, mr_isF_39, mr_T_up, mr_T_upJ, mr_T_f, Bool.false_eq_true, show ¬ (1 : Int32) = 0 by decide, nI_1]
      exact e
    | false =>
      obtain ⟨h', e, m'⟩ := hX h1 (some (.int (if tI ts k 123 = true then 1 else 0))) (some (.int 0)) m op
      refine ⟨h', ?_, m'⟩
      rw [show nI (cl false) = 93 from rfl] at rd
      have hk : tI ts k 93 = false := hk
      rw [r251_7]
      simp only [r251_9, r251_12, r251_13, r251_16, r251_17, r251_18, r251_20, r251_23, r251_25, r251_27, r251_30, r251_32, r251_35, r251_36, r251_37, r251_39, r251_42, r251_45, r251_48, r251_49, r251_50, r251_53, r251_54, r251_55, r251_56, r251_59, r251_60, r251_62, r251_65, r251_67, r251_70, r251_72, r251_73, r251_74, r251_75, r251_76, r251_77, r251_78, r251_81, r251_82, r251_83, r251_86, r251_89, r251_90, r251_93, r251_94, r251_96, r251_98, r251_101, r251_103, r251_106, r251_107, r251_108, r251_109, r251_110, r251_113, r251_116, r251_117, r251_118, r251_120, r251_123, r251_125, r251_128, r251_129, r251_130, r251_131, r251_134, r251_135, r251_136, r251_137, r251_138, r251_141, r251_143, r251_146, r251_147, r251_148, r251_151, r251_154, r251_155, r251_156, r251_159, r251_160, r251_162, r251_165, r251_166, r251_167, r251_168, r251_171, r251_172, r251_173, r251_176, r251_179, r251_182, r251_185, r251_188, r251_189, r251_192, r251_193, r251_194, r251_196, r251_199, r251_200, r251_203, r251_204, r251_206, r251_207, r251_208, r251_210, r251_213, r251_216, r251_218, r251_221, r251_222, r251_223, r251_224, r251_225, r251_228, r251_231, r251_232, r251_233, r251_235, r251_238, r251_239, r251_240, r251_241, r251_244, r251_245, r251_246, r251_247, r251_248, r251_249, r251_251, mx_isr_ref, mx_isr_null, mx_wt_nil, mx_wt_1, mx_wt_2, mx_wt_3, Option.bind_some, Option.toList_some, Option.toList_none, List.cons_append, List.nil_append, mx_nl_int, mx_nl_ref, mx_nl_null, mx_nl_none, mx_nb0, mx_nb1, mx_fb0, mx_fb1, mx_cat_int, mx_cat_ref, if_true, if_false, not_true_eq_false, not_false_eq_true, T, i, hk, hc, rd, t1, t2, t3, hlt, List.length_cons, nI_le0 (os.length + 1) (by omega), mr_ty_77, mr_n_77, mr_isI_77, mr_ty_78, mr_n_78, mr_isI_78, mr_ty_79, mr_n_79, mr_isI_79, mr_ty_80, mr_n_80, mr_isI_80, mr_ty_81, mr_n_81, mr_isI_81, mr_ty_82, mr_n_82, mr_isJ_82, mr_ty_83, mr_n_83, mr_isI_83, mr_ty_84, mr_n_84, mr_isI_84, mr_ty_85, mr_n_85, mr_isI_85, mr_ty_86, mr_n_86, mr_isI_86, mr_ty_87, mr_n_87, mr_isI_87, mr_ty_88, mr_n_88, mr_isI_88, mr_ty_89, mr_n_89, mr_isJ_89, mr_ty_90, mr_n_90, mr_isI_90, mr_ty_91, mr_n_91, mr_isI_91, mr_ty_92, mr_n_92, mr_isI_92, mr_ty_93, mr_n_93, mr_isI_93, mr_ty_94, mr_n_94, mr_isI_94, mr_ty_95, mr_n_95, mr_isI_95, mr_ty_96, mr_n_96, mr_isI_96, mr_ty_97, mr_n_97, mr_isI_97, mr_ty_98, mr_n_98, mr_isI_98, mr_ty_99, mr_n_99, mr_isI_99, mr_ty_100, mr_n_100, mr_isI_100, mr_ty_101, mr_n_101, mr_isI_101, mr_isF_1, mr_isF_3, mr_isF_4, mr_isF_10, mr_isF_12, mr_isF_18, mr_isF_19, mr_isF_21, mr_isF_22, mr_isF_23, mr_isF_26, mr_isF_34, mr_isF_37, mr_isF_38, mr_isF_39, mr_T_up, mr_T_upJ, mr_T_f, Bool.false_eq_true, show ¬ (1 : Int32) = 0 by decide, show ¬ (93 : Int32) = 125 by decide, nI_1]
      exact e
theorem bh_no (S : rm_TK h ts) {t : Nat} : bst ts (bX d h t (-1)) := by
  have hl := S.1.2.1
  refine ⟨?_, ?_, ?_, ?_, ?_⟩
  · intro k os o ho hk h1 l5 l6 m op
    have S1 := TK_mf S m tk84
    have T := m.1
    have kl : k < ts.length := tI_lt (by cases o <;> decide) hk
    have t3 : ¬ nI (os.length + 1) ≤ 3 := nI_ge (a := 3) (by omega) (by omega)
    have i := rm_isF (d := d + 1) S1.1 (t := k) (by omega)
    refine ⟨h1, ?_, m⟩
    rw [r251_7]
    cases o with
    | true =>
      have hk : tI ts k 123 = true := hk
      simp only [r251_9, r251_12, r251_13, r251_16, r251_17, r251_18, r251_20, r251_23, r251_25, r251_27, r251_30, r251_32, r251_35, r251_36, r251_37, r251_39, r251_42, r251_45, r251_48, r251_49, r251_50, r251_53, r251_54, r251_55, r251_56, r251_59, r251_60, r251_62, r251_65, r251_67, r251_70, r251_72, r251_73, r251_74, r251_75, r251_76, r251_77, r251_78, r251_81, r251_82, r251_83, r251_86, r251_89, r251_90, r251_93, r251_94, r251_96, r251_98, r251_101, r251_103, r251_106, r251_107, r251_108, r251_109, r251_110, r251_113, r251_116, r251_117, r251_118, r251_120, r251_123, r251_125, r251_128, r251_129, r251_130, r251_131, r251_134, r251_135, r251_136, r251_137, r251_138, r251_141, r251_143, r251_146, r251_147, r251_148, r251_151, r251_154, r251_155, r251_156, r251_159, r251_160, r251_162, r251_165, r251_166, r251_167, r251_168, r251_171, r251_172, r251_173, r251_176, r251_179, r251_182, r251_185, r251_188, r251_189, r251_192, r251_193, r251_194, r251_196, r251_199, r251_200, r251_203, r251_204, r251_206, r251_207, r251_208, r251_210, r251_213, r251_216, r251_218, r251_221, r251_222, r251_223, r251_224, r251_225, r251_228, r251_231, r251_232, r251_233, r251_235, r251_238, r251_239, r251_240, r251_241, r251_244, r251_245, r251_246, r251_247, r251_248, r251_249, r251_251, mx_isr_ref, mx_isr_null, mx_wt_nil, mx_wt_1, mx_wt_2, mx_wt_3, Option.bind_some, Option.toList_some, Option.toList_none, List.cons_append, List.nil_append, mx_nl_int, mx_nl_ref, mx_nl_null, mx_nl_none, mx_nb0, mx_nb1, mx_fb0, mx_fb1, mx_cat_int, mx_cat_ref, if_true, if_false, not_true_eq_false, not_false_eq_true, T, i, hk, t3, Bool.false_eq_true, show ¬ (1 : Int32) = 0 by decide, nI_1]
    | false =>
      have hk' : tI ts k 123 = false := (op_ne (o := false) hk).2 rfl |>.1
      have hk : tI ts k 91 = true := hk
      simp only [r251_9, r251_12, r251_13, r251_16, r251_17, r251_18, r251_20, r251_23, r251_25, r251_27, r251_30, r251_32, r251_35, r251_36, r251_37, r251_39, r251_42, r251_45, r251_48, r251_49, r251_50, r251_53, r251_54, r251_55, r251_56, r251_59, r251_60, r251_62, r251_65, r251_67, r251_70, r251_72, r251_73, r251_74, r251_75, r251_76, r251_77, r251_78, r251_81, r251_82, r251_83, r251_86, r251_89, r251_90, r251_93, r251_94, r251_96, r251_98, r251_101, r251_103, r251_106, r251_107, r251_108, r251_109, r251_110, r251_113, r251_116, r251_117, r251_118, r251_120, r251_123, r251_125, r251_128, r251_129, r251_130, r251_131, r251_134, r251_135, r251_136, r251_137, r251_138, r251_141, r251_143, r251_146, r251_147, r251_148, r251_151, r251_154, r251_155, r251_156, r251_159, r251_160, r251_162, r251_165, r251_166, r251_167, r251_168, r251_171, r251_172, r251_173, r251_176, r251_179, r251_182, r251_185, r251_188, r251_189, r251_192, r251_193, r251_194, r251_196, r251_199, r251_200, r251_203, r251_204, r251_206, r251_207, r251_208, r251_210, r251_213, r251_216, r251_218, r251_221, r251_222, r251_223, r251_224, r251_225, r251_228, r251_231, r251_232, r251_233, r251_235, r251_238, r251_239, r251_240, r251_241, r251_244, r251_245, r251_246, r251_247, r251_248, r251_249, r251_251, mx_isr_ref, mx_isr_null, mx_wt_nil, mx_wt_1, mx_wt_2, mx_wt_3, Option.bind_some, Option.toList_some, Option.toList_none, List.cons_append, List.nil_append, mx_nl_int, mx_nl_ref, mx_nl_null, mx_nl_none, mx_nb0, mx_nb1, mx_fb0, mx_fb1, mx_cat_int, mx_cat_ref, if_true, if_false, not_true_eq_false, not_false_eq_true, T, i, hk, hk', t3, Bool.false_eq_true, show ¬ (1 : Int32) = 0 by decide, nI_1]
  · intro k os ho hk hc hm h1 l5 l6 m op
    have S1 := TK_mf S m tk84
    have T := m.1
    have kl : k < ts.length := tI_lt (by decide) hk
    have m2 : mf P84 h (mx_up h1 84 (os.length + 1) (.int 125)) := mf_up m (by decide) rfl
    have S2 := TK_mf S m2 tk84
    have T2 := m2.1
    have rd : mi (mx_up h1 84 (os.length + 1) (.int 125)) 84 (os.length + 1) = 125 := by
      rw [mi_up, if_pos ⟨rfl, rfl, by rw [mr_ln T mr_ty_84]; show _ < 5; omega⟩]
    have hlt : os.length + 1 < 5 := by omega
    have t1 : (nI (os.length + 1)).toNatClampNeg = os.length + 1 := nI_clamp (by omega)
    have t2 : (0 : Int32) ≤ nI (os.length + 1) := nI_pos' (by omega)
    have t3 : nI (os.length + 1) ≤ 3 := nI_le (b := 3) (by omega) (by decide)
    have i := rm_isF (d := d + 1) S1.1 (t := k) (by omega)
    have i2 := rm_isF (d := d + 1) S2.1 (t := k + 1) (by omega)
    have j := rm_isMember (d := d) S2.1 (t := k + 1) (by omega)
    rw [hm] at j
    refine ⟨_, ?_, m2⟩
    rw [r251_7]
    simp only [r251_9, r251_12, r251_13, r251_16, r251_17, r251_18, r251_20, r251_23, r251_25, r251_27, r251_30, r251_32, r251_35, r251_36, r251_37, r251_39, r251_42, r251_45, r251_48, r251_49, r251_50, r251_53, r251_54, r251_55, r251_56, r251_59, r251_60, r251_62, r251_65, r251_67, r251_70, r251_72, r251_73, r251_74, r251_75, r251_76, r251_77, r251_78, r251_81, r251_82, r251_83, r251_86, r251_89, r251_90, r251_93, r251_94, r251_96, r251_98, r251_101, r251_103, r251_106, r251_107, r251_108, r251_109, r251_110, r251_113, r251_116, r251_117, r251_118, r251_120, r251_123, r251_125, r251_128, r251_129, r251_130, r251_131, r251_134, r251_135, r251_136, r251_137, r251_138, r251_141, r251_143, r251_146, r251_147, r251_148, r251_151, r251_154, r251_155, r251_156, r251_159, r251_160, r251_162, r251_165, r251_166, r251_167, r251_168, r251_171, r251_172, r251_173, r251_176, r251_179, r251_182, r251_185, r251_188, r251_189, r251_192, r251_193, r251_194, r251_196, r251_199, r251_200, r251_203, r251_204, r251_206, r251_207, r251_208, r251_210, r251_213, r251_216, r251_218, r251_221, r251_222, r251_223, r251_224, r251_225, r251_228, r251_231, r251_232, r251_233, r251_235, r251_238, r251_239, r251_240, r251_241, r251_244, r251_245, r251_246, r251_247, r251_248, r251_249, r251_251, mx_isr_ref, mx_isr_null, mx_wt_nil, mx_wt_1, mx_wt_2, mx_wt_3, Option.bind_some, Option.toList_some, Option.toList_none, List.cons_append, List.nil_append, mx_nl_int, mx_nl_ref, mx_nl_null, mx_nl_none, mx_nb0, mx_nb1, mx_fb0, mx_fb1, mx_cat_int, mx_cat_ref, if_true, if_false, not_true_eq_false, not_false_eq_true, T, i, i2, j, hk, hc, rd, T2, t1, t2, t3, hlt, mr_ty_77, mr_n_77, mr_isI_77, mr_ty_78, mr_n_78, mr_isI_78, mr_ty_79, mr_n_79, mr_isI_79, mr_ty_80, mr_n_80, mr_isI_80, mr_ty_81, mr_n_81, mr_isI_81, mr_ty_82, mr_n_82, mr_isJ_82, mr_ty_83, mr_n_83, mr_isI_83, mr_ty_84, mr_n_84, mr_isI_84, mr_ty_85, mr_n_85, mr_isI_85, mr_ty_86, mr_n_86, mr_isI_86, mr_ty_87, mr_n_87, mr_isI_87, mr_ty_88, mr_n_88, mr_isI_88, mr_ty_89, mr_n_89, mr_isJ_89, mr_ty_90, mr_n_90, mr_isI_90, mr_ty_91, mr_n_91, mr_isI_91, mr_ty_92, mr_n_92, mr_isI_92, mr_ty_93, mr_n_93, mr_isI_93, mr_ty_94, mr_n_94, mr_isI_94, mr_ty_95, mr_n_95, mr_isI_95, mr_ty_96, mr_n_96, mr_isI_96, mr_ty_97, mr_n_97, mr_isI_97, mr_ty_98, mr_n_98, mr_isI_98, mr_ty_99, mr_n_99, mr_isI_99, mr_ty_100, mr_n_100, mr_isI_100, mr_ty_101, mr_n_101, mr_isI_101, mr_isF_1, mr_isF_3, mr_isF_4, mr_isF_10, mr_isF_12, mr_isF_18, mr_isF_19, mr_isF_21, mr_isF_22, mr_isF_23, mr_isF_26, mr_isF_34, mr_isF_37, mr_isF_38, mr_isF_39, mr_T_up, mr_T_upJ, mr_T_f, Bool.false_eq_true, show ¬ (1 : Int32) = 0 by decide, nI_1]
  · intro k os hkl ho hk hk2 hs h1 l5 l6 m op
    have S1 := TK_mf S m tk84
    have T := m.1
    have i := rm_isF (d := d + 1) S1.1 (t := k) (by omega)
    have j := rm_scalar (d := d) S1 (t := k) (by omega)
    rw [hs] at j
    refine ⟨h1, ?_, m⟩
    rw [r251_7]
    simp only [r251_9, r251_12, r251_13, r251_16, r251_17, r251_18, r251_20, r251_23, r251_25, r251_27, r251_30, r251_32, r251_35, r251_36, r251_37, r251_39, r251_42, r251_45, r251_48, r251_49, r251_50, r251_53, r251_54, r251_55, r251_56, r251_59, r251_60, r251_62, r251_65, r251_67, r251_70, r251_72, r251_73, r251_74, r251_75, r251_76, r251_77, r251_78, r251_81, r251_82, r251_83, r251_86, r251_89, r251_90, r251_93, r251_94, r251_96, r251_98, r251_101, r251_103, r251_106, r251_107, r251_108, r251_109, r251_110, r251_113, r251_116, r251_117, r251_118, r251_120, r251_123, r251_125, r251_128, r251_129, r251_130, r251_131, r251_134, r251_135, r251_136, r251_137, r251_138, r251_141, r251_143, r251_146, r251_147, r251_148, r251_151, r251_154, r251_155, r251_156, r251_159, r251_160, r251_162, r251_165, r251_166, r251_167, r251_168, r251_171, r251_172, r251_173, r251_176, r251_179, r251_182, r251_185, r251_188, r251_189, r251_192, r251_193, r251_194, r251_196, r251_199, r251_200, r251_203, r251_204, r251_206, r251_207, r251_208, r251_210, r251_213, r251_216, r251_218, r251_221, r251_222, r251_223, r251_224, r251_225, r251_228, r251_231, r251_232, r251_233, r251_235, r251_238, r251_239, r251_240, r251_241, r251_244, r251_245, r251_246, r251_247, r251_248, r251_249, r251_251, mx_isr_ref, mx_isr_null, mx_wt_nil, mx_wt_1, mx_wt_2, mx_wt_3, Option.bind_some, Option.toList_some, Option.toList_none, List.cons_append, List.nil_append, mx_nl_int, mx_nl_ref, mx_nl_null, mx_nl_none, mx_nb0, mx_nb1, mx_fb0, mx_fb1, mx_cat_int, mx_cat_ref, if_true, if_false, not_true_eq_false, not_false_eq_true, T, i, j, hk, hk2, Bool.false_eq_true, show nI 0 = 0 from rfl, show ¬ (1 : Int32) = 0 by decide, nI_1]
  · intro k os o hkl ho hk hc h1 l5 l6 m op
    have S1 := TK_mf S m tk84
    have T := m.1
    have hlt : os.length + 1 < 5 := by omega
    have t1 : (nI (os.length + 1)).toNatClampNeg = os.length + 1 := nI_clamp (by omega)
    have t2 : (0 : Int32) ≤ nI (os.length + 1) := nI_pos' (by omega)
    have t3 : ¬ (os.length + 1 = 0) := by omega
    have i := rm_isF (d := d + 1) S1.1 (t := k) (by omega)
    have rd := op.1
    refine ⟨h1, ?_, m⟩
    rw [r251_7]
    cases o with
    | true =>
      rw [show nI (cl true) = 125 from rfl] at rd
      have hk : tI ts k 125 = false := hk
      simp only [r251_9, r251_12, r251_13, r251_16, r251_17, r251_18, r251_20, r251_23, r251_25, r251_27, r251_30, r251_32, r251_35, r251_36, r251_37, r251_39, r251_42, r251_45, r251_48, r251_49, r251_50, r251_53, r251_54, r251_55, r251_56, r251_59, r251_60, r251_62, r251_65, r251_67, r251_70, r251_72, r251_73, r251_74, r251_75, r251_76, r251_77, r251_78, r251_81, r251_82, r251_83, r251_86, r251_89, r251_90, r251_93, r251_94, r251_96, r251_98, r251_101, r251_103, r251_106, r251_107, r251_108, r251_109, r251_110, r251_113, r251_116, r251_117, r251_118, r251_120, r251_123, r251_125, r251_128, r251_129, r251_130, r251_131, r251_134, r251_135, r251_136, r251_137, r251_138, r251_141, r251_143, r251_146, r251_147, r251_148, r251_151, r251_154, r251_155, r251_156, r251_159, r251_160, r251_162, r251_165, r251_166, r251_167, r251_168, r251_171, r251_172, r251_173, r251_176, r251_179, r251_182, r251_185, r251_188, r251_189, r251_192, r251_193, r251_194, r251_196, r251_199, r251_200, r251_203, r251_204, r251_206, r251_207, r251_208, r251_210, r251_213, r251_216, r251_218, r251_221, r251_222, r251_223, r251_224, r251_225, r251_228, r251_231, r251_232, r251_233, r251_235, r251_238, r251_239, r251_240, r251_241, r251_244, r251_245, r251_246, r251_247, r251_248, r251_249, r251_251, mx_isr_ref, mx_isr_null, mx_wt_nil, mx_wt_1, mx_wt_2, mx_wt_3, Option.bind_some, Option.toList_some, Option.toList_none, List.cons_append, List.nil_append, mx_nl_int, mx_nl_ref, mx_nl_null, mx_nl_none, mx_nb0, mx_nb1, mx_fb0, mx_fb1, mx_cat_int, mx_cat_ref, if_true, if_false, not_true_eq_false, not_false_eq_true, T, i, hk, hc, rd, t1, t2, t3, hlt, List.length_cons, nI_le0 (os.length + 1) (by omega), mr_ty_77, mr_n_77, mr_isI_77, mr_ty_78, mr_n_78, mr_isI_78, mr_ty_79, mr_n_79, mr_isI_79, mr_ty_80, mr_n_80, mr_isI_80, mr_ty_81, mr_n_81, mr_isI_81, mr_ty_82, mr_n_82, mr_isJ_82, mr_ty_83, mr_n_83, mr_isI_83, mr_ty_84, mr_n_84, mr_isI_84, mr_ty_85, mr_n_85, mr_isI_85, mr_ty_86, mr_n_86, mr_isI_86, mr_ty_87, mr_n_87, mr_isI_87, mr_ty_88, mr_n_88, mr_isI_88, mr_ty_89, mr_n_89, mr_isJ_89, mr_ty_90, mr_n_90, mr_isI_90, mr_ty_91, mr_n_91, mr_isI_91, mr_ty_92, mr_n_92, mr_isI_92, mr_ty_93, mr_n_93, mr_isI_93, mr_ty_94, mr_n_94, mr_isI_94, mr_ty_95, mr_n_95, mr_isI_95, mr_ty_96, mr_n_96, mr_isI_96, mr_ty_97, mr_n_97, mr_isI_97, mr_ty_98, mr_n_98, mr_isI_98, mr_ty_99, mr_n_99, mr_isI_99, mr_ty_100, mr_n_100, mr_isI_100, mr_ty_101, mr_n_101, mr_isI_101, mr_isF_1, mr_isF_3, mr_isF_4, mr_isF_10, mr_isF_12, mr_isF_18, mr_isF_19, mr_isF_21, mr_isF_22, mr_isF_23, mr_isF_26, mr_isF_34, mr_isF_37, mr_isF_38, mr_isF_39, mr_T_up, mr_T_upJ, mr_T_f, Bool.false_eq_true, show ¬ (1 : Int32) = 0 by decide, nI_1]
    | false =>
      rw [show nI (cl false) = 93 from rfl] at rd
      have hk : tI ts k 93 = false := hk
      simp only [r251_9, r251_12, r251_13, r251_16, r251_17, r251_18, r251_20, r251_23, r251_25, r251_27, r251_30, r251_32, r251_35, r251_36, r251_37, r251_39, r251_42, r251_45, r251_48, r251_49, r251_50, r251_53, r251_54, r251_55, r251_56, r251_59, r251_60, r251_62, r251_65, r251_67, r251_70, r251_72, r251_73, r251_74, r251_75, r251_76, r251_77, r251_78, r251_81, r251_82, r251_83, r251_86, r251_89, r251_90, r251_93, r251_94, r251_96, r251_98, r251_101, r251_103, r251_106, r251_107, r251_108, r251_109, r251_110, r251_113, r251_116, r251_117, r251_118, r251_120, r251_123, r251_125, r251_128, r251_129, r251_130, r251_131, r251_134, r251_135, r251_136, r251_137, r251_138, r251_141, r251_143, r251_146, r251_147, r251_148, r251_151, r251_154, r251_155, r251_156, r251_159, r251_160, r251_162, r251_165, r251_166, r251_167, r251_168, r251_171, r251_172, r251_173, r251_176, r251_179, r251_182, r251_185, r251_188, r251_189, r251_192, r251_193, r251_194, r251_196, r251_199, r251_200, r251_203, r251_204, r251_206, r251_207, r251_208, r251_210, r251_213, r251_216, r251_218, r251_221, r251_222, r251_223, r251_224, r251_225, r251_228, r251_231, r251_232, r251_233, r251_235, r251_238, r251_239, r251_240, r251_241, r251_244, r251_245, r251_246, r251_247, r251_248, r251_249, r251_251, mx_isr_ref, mx_isr_null, mx_wt_nil, mx_wt_1, mx_wt_2, mx_wt_3, Option.bind_some, Option.toList_some, Option.toList_none, List.cons_append, List.nil_append, mx_nl_int, mx_nl_ref, mx_nl_null, mx_nl_none, mx_nb0, mx_nb1, mx_fb0, mx_fb1, mx_cat_int, mx_cat_ref, if_true, if_false, not_true_eq_false, not_false_eq_true, T, i, hk, hc, rd, t1, t2, t3, hlt, List.length_cons, nI_le0 (os.length + 1) (by omega), mr_ty_77, mr_n_77, mr_isI_77, mr_ty_78, mr_n_78, mr_isI_78, mr_ty_79, mr_n_79, mr_isI_79, mr_ty_80, mr_n_80, mr_isI_80, mr_ty_81, mr_n_81, mr_isI_81, mr_ty_82, mr_n_82, mr_isJ_82, mr_ty_83, mr_n_83, mr_isI_83, mr_ty_84, mr_n_84, mr_isI_84, mr_ty_85, mr_n_85, mr_isI_85, mr_ty_86, mr_n_86, mr_isI_86, mr_ty_87, mr_n_87, mr_isI_87, mr_ty_88, mr_n_88, mr_isI_88, mr_ty_89, mr_n_89, mr_isJ_89, mr_ty_90, mr_n_90, mr_isI_90, mr_ty_91, mr_n_91, mr_isI_91, mr_ty_92, mr_n_92, mr_isI_92, mr_ty_93, mr_n_93, mr_isI_93, mr_ty_94, mr_n_94, mr_isI_94, mr_ty_95, mr_n_95, mr_isI_95, mr_ty_96, mr_n_96, mr_isI_96, mr_ty_97, mr_n_97, mr_isI_97, mr_ty_98, mr_n_98, mr_isI_98, mr_ty_99, mr_n_99, mr_isI_99, mr_ty_100, mr_n_100, mr_isI_100, mr_ty_101, mr_n_101, mr_isI_101, mr_isF_1, mr_isF_3, mr_isF_4, mr_isF_10, mr_isF_12, mr_isF_18, mr_isF_19, mr_isF_21, mr_isF_22, mr_isF_23, mr_isF_26, mr_isF_34, mr_isF_37, mr_isF_38, mr_isF_39, mr_T_up, mr_T_upJ, mr_T_f, Bool.false_eq_true, show ¬ (1 : Int32) = 0 by decide, show ¬ (93 : Int32) = 125 by decide, nI_1]
  · intro k os ho hk hc hm h1 l5 l6 m op
    have S1 := TK_mf S m tk84
    have T := m.1
    have kl : k < ts.length := tI_lt (by decide) hc
    have hlt : os.length + 1 < 5 := by omega
    have t1 : (nI (os.length + 1)).toNatClampNeg = os.length + 1 := nI_clamp (by omega)
    have t2 : (0 : Int32) ≤ nI (os.length + 1) := nI_pos' (by omega)
    have t3 : ¬ (os.length + 1 = 0) := by omega
    have i := rm_isF (d := d + 1) S1.1 (t := k) (by omega)
    have rd := op.1
    have j := rm_isMember (d := d) S1.1 (t := k + 1) (by omega)
    rw [hm] at j
    rw [show nI (cl true) = 125 from rfl] at rd
    refine ⟨h1, ?_, m⟩
    rw [r251_7]
    simp only [r251_9, r251_12, r251_13, r251_16, r251_17, r251_18, r251_20, r251_23, r251_25, r251_27, r251_30, r251_32, r251_35, r251_36, r251_37, r251_39, r251_42, r251_45, r251_48, r251_49, r251_50, r251_53, r251_54, r251_55, r251_56, r251_59, r251_60, r251_62, r251_65, r251_67, r251_70, r251_72, r251_73, r251_74, r251_75, r251_76, r251_77, r251_78, r251_81, r251_82, r251_83, r251_86, r251_89, r251_90, r251_93, r251_94, r251_96, r251_98, r251_101, r251_103, r251_106, r251_107, r251_108, r251_109, r251_110, r251_113, r251_116, r251_117, r251_118, r251_120, r251_123, r251_125, r251_128, r251_129, r251_130, r251_131, r251_134, r251_135, r251_136, r251_137, r251_138, r251_141, r251_143, r251_146, r251_147, r251_148, r251_151, r251_154, r251_155, r251_156, r251_159, r251_160, r251_162, r251_165, r251_166, r251_167, r251_168, r251_171, r251_172, r251_173, r251_176, r251_179, r251_182, r251_185, r251_188, r251_189, r251_192, r251_193, r251_194, r251_196, r251_199, r251_200, r251_203, r251_204, r251_206, r251_207, r251_208, r251_210, r251_213, r251_216, r251_218, r251_221, r251_222, r251_223, r251_224, r251_225, r251_228, r251_231, r251_232, r251_233, r251_235, r251_238, r251_239, r251_240, r251_241, r251_244, r251_245, r251_246, r251_247, r251_248, r251_249, r251_251, mx_isr_ref, mx_isr_null, mx_wt_nil, mx_wt_1, mx_wt_2, mx_wt_3, Option.bind_some, Option.toList_some, Option.toList_none, List.cons_append, List.nil_append, mx_nl_int, mx_nl_ref, mx_nl_null, mx_nl_none, mx_nb0, mx_nb1, mx_fb0, mx_fb1, mx_cat_int, mx_cat_ref, if_true, if_false, not_true_eq_false, not_false_eq_true, T, i, j, hk, hc, rd, t1, t2, t3, hlt, List.length_cons, nI_le0 (os.length + 1) (by omega), mr_ty_77, mr_n_77, mr_isI_77, mr_ty_78, mr_n_78, mr_isI_78, mr_ty_79, mr_n_79, mr_isI_79, mr_ty_80, mr_n_80, mr_isI_80, mr_ty_81, mr_n_81, mr_isI_81, mr_ty_82, mr_n_82, mr_isJ_82, mr_ty_83, mr_n_83, mr_isI_83, mr_ty_84, mr_n_84, mr_isI_84, mr_ty_85, mr_n_85, mr_isI_85, mr_ty_86, mr_n_86, mr_isI_86, mr_ty_87, mr_n_87, mr_isI_87, mr_ty_88, mr_n_88, mr_isI_88, mr_ty_89, mr_n_89, mr_isJ_89, mr_ty_90, mr_n_90, mr_isI_90, mr_ty_91, mr_n_91, mr_isI_91, mr_ty_92, mr_n_92, mr_isI_92, mr_ty_93, mr_n_93, mr_isI_93, mr_ty_94, mr_n_94, mr_isI_94, mr_ty_95, mr_n_95, mr_isI_95, mr_ty_96, mr_n_96, mr_isI_96, mr_ty_97, mr_n_97, mr_isI_97, mr_ty_98, mr_n_98, mr_isI_98, mr_ty_99, mr_n_99, mr_isI_99, mr_ty_100, mr_n_100, mr_isI_100, mr_ty_101, mr_n_101, mr_isI_101, mr_isF_1, mr_isF_3, mr_isF_4, mr_isF_10, mr_isF_12, mr_isF_18, mr_isF_19, mr_isF_21, mr_isF_22, mr_isF_23, mr_isF_26, mr_isF_34, mr_isF_37, mr_isF_38, mr_isF_39, mr_T_up, mr_T_upJ, mr_T_f, Bool.false_eq_true, show ¬ (1 : Int32) = 0 by decide, nI_1]
theorem rm_behind (S : rm_TK h ts) {t : Nat} (ht : t ≤ ts.length) : ∃ h', mx_G (d + 2) 251 0 [some (.ref 76), some (.int (nI t)), none, none, none, none, none] [] h = some (some (.int (match pE ts 3 t with | some e => nI e | none => -1)), h') ∧ mf P84 h h' := by
  have T := S.1.1
  have hl := S.1.2.1
  have st : mx_G (d + 2) 251 0 [some (.ref 76), some (.int (nI t)), none, none, none, none, none] [] h = mx_G (d + 2) 251 7 [some (.ref 76), some (.int (nI t)), some (.int 0), some (.int (nI t)), some (.int 1), none, none] [] h := by simp only [r251_0, r251_1, r251_2, r251_3, r251_4, r251_5, mx_isr_ref, mx_isr_null, mx_wt_nil, mx_wt_1, mx_wt_2, mx_wt_3, Option.bind_some, Option.toList_some, Option.toList_none, List.cons_append, List.nil_append, mx_nl_int, mx_nl_ref, mx_nl_null, mx_nl_none, mx_nb0, mx_nb1, mx_fb0, mx_fb1, mx_cat_int, mx_cat_ref, if_true, if_false, not_true_eq_false, not_false_eq_true]
  rw [st]
  cases z : pE ts 3 t with
  | none => exact b_no (bh_fw (d := d) S) (bh_no S) hl 3 t [] rfl ht z h none none (mf_rfl T) True.intro
  | some e =>
    refine b_E (bh_fw (d := d) S (t := t) (A := nI e)) 3 t e [] rfl z ?_ h none none (mf_rfl T) True.intro
    intro h1 l5 l6 m op
    refine ⟨h1, ?_, m⟩
    show mx_G (d + 2) 251 7 [some (.ref 76), some (.int (nI t)), some (.int 0), some (.int (nI e)), some (.int 0), l5, l6] [] h1 = _
    simp only [r251_7, r251_9, r251_12, r251_13, r251_254, r251_255, mx_isr_ref, mx_isr_null, mx_wt_nil, mx_wt_1, mx_wt_2, mx_wt_3, Option.bind_some, Option.toList_some, Option.toList_none, List.cons_append, List.nil_append, mx_nl_int, mx_nl_ref, mx_nl_null, mx_nl_none, mx_nb0, mx_nb1, mx_fb0, mx_fb1, mx_cat_int, mx_cat_ref, if_true, if_false, not_true_eq_false, not_false_eq_true, show (0 : Int32) ≤ 0 by decide]
end
