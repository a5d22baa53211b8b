section
variable {d : Nat} {h : mx_H} {xs : Nat → Int32}
theorem p1_queryC (xs : Nat → Int32) (s b y z : Int32) : ((s < 0 ∨ ¬ s < 5) ∧ mx_G 30 201 0 [some (.ref 63), some (.int s), some (.int b), some (.int y), some (.int z), none, none, none, none, none] [] (p1_h xs) = some (some (.int (-401)), p1_qD xs)) ∨ (¬ s < 0 ∧ s < 5 ∧ mx_G 30 201 0 [some (.ref 63), some (.int s), some (.int b), some (.int y), some (.int z), none, none, none, none, none] [] (p1_h xs) = some (some (.int 0), p1_qH xs)) := by
  have X := p1_hX xs
  obtain ⟨cA, XA, -⟩ := p1_nxs (p1_kA xs)
  obtain ⟨cB, XB, -⟩ := p1_nxs (p1_kB xs)
  obtain ⟨cC, XC, -⟩ := p1_nxs (p1_kC xs)
  obtain ⟨cD, XD, -⟩ := p1_nxs (p1_kD xs)
  obtain ⟨cE, XE, -⟩ := p1_nxs (p1_kE xs)
  obtain ⟨cF, XF, -⟩ := p1_nxs (p1_kF xs)
  obtain ⟨cG, XG, -⟩ := p1_nxs (p1_kG xs)
  obtain ⟨cH, XH, -⟩ := p1_nxs (p1_kH xs)
  have cA : mx_G 29 17 0 [some (.ref 64), none] [] (p1_h xs) = some (none, p1_qA xs) := cA
  have cB : mx_G 29 49 0 [some (.ref 64), some (.int 0)] [] (p1_qA xs) = some (some (.int 1), p1_qB xs) := cB
  have cC : mx_G 29 49 0 [some (.ref 64), some (.int 0)] [] (p1_qB xs) = some (some (.int 1), p1_qC xs) := cC
  have cD : mx_G 29 118 0 [some (.ref 64)] [] (p1_qC xs) = some (none, p1_qD xs) := cD
  have cE : mx_G 29 197 0 [some (.ref 72), none, none, none] [] (p1_qD xs) = some (none, p1_qE xs) := cE
  have cF : mx_G 29 138 0 [some (.ref 71)] [] (p1_qE xs) = some (some (.int 0), p1_qF xs) := cF
  have cH : mx_G 29 138 0 [some (.ref 72)] [] (p1_qG xs) = some (some (.int 0), p1_qH xs) := cH
  have cT := p1_turn xs y z
  have XA : p1_X (p1_qA xs) = true := XA
  have XB : p1_X (p1_qB xs) = true := XB
  have XC : p1_X (p1_qC xs) = true := XC
  have XD : p1_X (p1_qD xs) = true := XD
  have XE : p1_X (p1_qE xs) = true := XE
  have XF : p1_X (p1_qF xs) = true := XF
  have XG : p1_X (p1_qG xs) = true := XG
  have t63 : ∀ {h : mx_H}, p1_X h = true → mx_tag h 63 = some (.inl 0) := fun X => (p1_Fs (p1_Xs X).1).2.2.2.2.2.2.2.2.2.2.1
  have l63 : ∀ {h : mx_H}, p1_X h = true → mx_ln h 63 = 7 := fun X => (p1_Xs X).2.1
  have b63 : ∀ {h : mx_H}, p1_X h = true → mx_el h 63 0 = .ref 64 := fun X => (p1_Xs X).2.2.1
  have p63 : ∀ {h : mx_H}, p1_X h = true → mx_el h 63 1 = .ref 71 := fun X => (p1_Xs X).2.2.2.1
  have q63 : ∀ {h : mx_H}, p1_X h = true → mx_el h 63 2 = .ref 72 := fun X => (p1_Xs X).2.2.2.2.1
  have t64 : ∀ {h : mx_H}, p1_X h = true → mx_tag h 64 = some (.inl 1) := fun X => (p1_Xs X).2.2.2.2.2.2.1
  have t71 : ∀ {h : mx_H}, p1_X h = true → mx_tag h 71 = some (.inl 3) := fun X => (p1_Xs X).2.2.2.2.2.2.2.1
  have t72 : ∀ {h : mx_H}, p1_X h = true → mx_tag h 72 = some (.inl 3) := fun X => (p1_Xs X).2.2.2.2.2.2.2.2.1
  have t4 : ∀ {h : mx_H}, p1_X h = true → mx_tag h 4 = some (.inr .int) := fun X => (p1_Xs X).2.2.2.2.2.2.2.2.2.2.2.1
  have l4 : ∀ {h : mx_H}, p1_X h = true → mx_ln h 4 = 5 := fun X => (p1_Xs X).2.2.2.2.2.2.2.2.2.2.2.2
  have e5 : Int32.ofNat 5 = 5 := by decide
  have n1 : ¬ (1 : Int32) = 0 := by decide
  have first : mx_G (29 + 1) 201 0 [some (.ref 63), some (.int s), some (.int b), some (.int y), some (.int z), none, none, none, none, none] [] (p1_h xs) = mx_G (29 + 1) 201 73 [some (.ref 63), some (.int s), some (.int b), some (.int y), some (.int z), some (.int 1), some .null, some (.int 1), none, none] [] (p1_qD xs) := by
    simp only [g201_0, g201_1, g201_4, g201_7, g201_8, g201_11, g201_12, g201_15, g201_17, g201_19, g201_22, g201_23, g201_35, g201_37, g201_38, g201_41, g201_42, g201_45, g201_47, g201_48, g201_51, g201_54, g201_56, mx_isr_ref, mx_isr_null, t63 X, l63 X, b63 X, t64 X, t63 XA, l63 XA, b63 XA, t64 XA, t63 XB, l63 XB, b63 XB, t64 XB, t63 XC, l63 XC, b63 XC, t64 XC, mx_kn_ref, Nat.reduceLT, mx_wt_nil, cA, cB, cC, cD, Option.bind_some, Option.toList_some, Option.toList_none, List.cons_append, List.nil_append, mx_nl_int, mx_nl_null, n1, if_false, not_false_eq_true, if_true]
  by_cases h1 : s < 0
  · refine Or.inl ⟨Or.inl h1, ?_⟩
    rw [show (30 : Nat) = 29 + 1 from rfl, first]
    simp only [g201_73, g201_74, h1, if_true, g201_85, g201_88]
  · by_cases h2 : s < 5
    · refine Or.inr ⟨h1, h2, ?_⟩
      rw [show (30 : Nat) = 29 + 1 from rfl, first]
      simp only [g201_73, g201_74, h1, if_false, g201_77, g201_78, g201_81 (t4 XD), l4 XD, e5, g201_82, h2, if_true, g201_89, g201_90, mx_isr_ref, t63 XD, l63 XD, q63 XD, t72 XD, mx_kn_ref, Nat.reduceLT, g201_93, mx_wt_nil, cE, Option.bind_some, Option.toList_none, List.nil_append, g201_96, g201_97, mx_nl_int, g201_99, g201_101, g201_102, t63 XE, l63 XE, p63 XE, t71 XE, g201_105, mx_wt_1, cF, Option.toList_some, List.cons_append, g201_108, Int32.le_refl, g201_159, g201_160, g201_161, g201_163, t63 XF, cT, g201_166, g201_167, t63 XG, l63 XG, q63 XG, t72 XG, g201_170, cH, g201_173]
    · refine Or.inl ⟨Or.inr h2, ?_⟩
      rw [show (30 : Nat) = 29 + 1 from rfl, first]
      simp only [g201_73, g201_74, h1, if_false, g201_77, g201_78, g201_81 (t4 XD), l4 XD, e5, g201_82, h2, g201_85, g201_88]
theorem p1_qloop (F : p1_F h = true) (b y z s x7 : Option Value) : ∀ k n, n + k = 8 → mx_G (d + 1) 321 59 [some (.ref 76), s, b, y, z, some (.int 0), some (.int (Int32.ofNat n)), x7] [] h = mx_G (d + 1) 321 158 [some (.ref 76), s, b, y, z, some (.int 0), some (.int 8), x7] [] h := by
  intro k
  induction k with
  | zero =>
    intro n hn
    have e : n = 8 := by omega
    subst e
    simp only [g321_59, g321_61, g321_63, show (8 : Int32) ≤ Int32.ofNat 8 by decide, if_true]
    rfl
  | succ k ih =>
    intro n hn
    obtain ⟨f1, -⟩ := p1_Fs F
    obtain ⟨i1, i2, i3, i4, i5⟩ := p1_i8 n (by omega)
    have hn := ih (n + 1) (by omega)
    simp only [g321_59, g321_61, g321_63, i4, if_false, g321_66, mx_isr_ref, g321_67, g321_69, g321_70, f1, mx_wt_nil, p1_f F (show n < 8 by omega), Option.bind_some, Option.toList_some, List.cons_append, List.nil_append, g321_73, Int32.le_refl, if_true, g321_152, mx_nl_int, i3, g321_155, hn]
theorem p1_queried (hc : p1_ck 28 240 [.ref 76] (mx_up h 76 12 (.int 0)) (some (.int 1)) = true) (t : mx_tag h 76 = some (.inl 11)) (s b y z : Int32) : mx_G 29 321 0 [some (.ref 76), some (.int s), some (.int b), some (.int y), some (.int z), none, none, none] [] h = if s < 0 ∨ ¬ s ≤ 4 then some (some (.int (-401)), p1_mA h) else some (some (.int 0), mx_up (p1_mA h) 76 34 (.int 0)) := by
  obtain ⟨cA, XA, -⟩ := p1_nxs hc
  have cA : mx_G 28 240 0 [some (.ref 76), none, none, none] [] (mx_up h 76 12 (.int 0)) = some (some (.int 1), p1_mA h) := cA
  have XA : p1_X (p1_mA h) = true := XA
  obtain ⟨F, f2, f3, f4, f5, f6, f7, f8, f9, f10, -⟩ := p1_Xs XA
  obtain ⟨t76, l76, -⟩ := p1_Fs F
  have n1 : ¬ (1 : Int32) = 0 := by decide
  have o76 : mt_nO ≤ 76 := by decide
  have ql := p1_qloop (d := 28) F (some (.int b)) (some (.int y)) (some (.int z)) (some (.int s)) none 8 0 rfl
  rw [show Int32.ofNat 0 = 0 from rfl] at ql
  have first : mx_G (28 + 1) 321 0 [some (.ref 76), some (.int s), some (.int b), some (.int y), some (.int z), none, none, none] [] h = mx_G (28 + 1) 321 40 [some (.ref 76), some (.int s), some (.int b), some (.int y), some (.int z), none, none, none] [] (p1_mA h) := by
    simp only [g321_0, g321_1, g321_2, g321_5, g321_6, g321_9, g321_16, g321_17, g321_20, mx_isr_ref, t, o76, mx_tag_up, mx_wt_nil, cA, Option.bind_some, Option.toList_some, List.cons_append, List.nil_append, n1, not_false_eq_true, if_true, t76, l76, f10, mx_kn_int, Nat.reduceLT, Int32.le_refl]
  rw [show (29 : Nat) = 28 + 1 from rfl, first]
  by_cases h1 : s < 0
  · simp only [g321_40, g321_41, h1, if_true, true_or, g321_49, g321_52]
  · by_cases h2 : s ≤ 4
    · simp only [g321_40, g321_41, h1, if_false, g321_44, g321_45, g321_46, h2, if_true, not_true_eq_false, or_self, g321_53, g321_54, g321_56, g321_57, mx_nl_int, ql, g321_158, mx_isr_ref, g321_159, g321_160, t76, o76, g321_163, g321_164, g321_166, g321_168, g321_170, Int32.le_refl, g321_227, g321_229]
    · simp only [g321_40, g321_41, h1, if_false, g321_44, g321_45, g321_46, h2, not_false_eq_true, or_true, if_true, g321_49, g321_52]
theorem p1_queryM (hc : p1_ck 28 240 [.ref 76] (mx_up h 76 12 (.int 0)) (some (.int 1)) = true) (t : mx_tag h 76 = some (.inl 11)) (s b y z : Int32) : ∃ h1 : mx_H, mx_G 30 320 0 [some (.ref 76), some (.int s), some (.int b), some (.int y), some (.int z), none] [] h = some (some (.int (if s < 0 ∨ ¬ s ≤ 4 then -401 else 0)), h1) ∧ mx_tag h1 0 = some (.inr .int) ∧ mx_ln h1 0 = 5 ∧ h1.length ≤ 1000 ∧ mx_tot h1 ≤ 10000 := by
  obtain ⟨cA, XA, -⟩ := p1_nxs hc
  have XA : p1_X (p1_mA h) = true := XA
  obtain ⟨F, -⟩ := p1_Xs XA
  obtain ⟨t76, l76, -, -, -, -, f7, f8, f9, f10, -⟩ := p1_Fs F
  have o76 : mt_nO ≤ 76 := by decide
  have q := p1_queried hc t s b y z
  rw [show (30 : Nat) = 29 + 1 from rfl]
  by_cases h1 : s < 0 ∨ ¬ s ≤ 4
  · rw [if_pos h1] at q
    refine ⟨mx_up (p1_mA h) 76 3 (.int 0), ?_, by rw [mx_tag_up]; exact f7, by rw [mx_ln_up]; exact f8, by rw [mx_len_up]; exact f9, by rw [mx_tot_up]; exact f10⟩
    simp only [if_pos h1, g320_0, g320_1, g320_2, g320_3, g320_4, g320_6, g320_9, g320_11, g320_12, g320_13, g320_16, g320_18, mx_isr_ref, t, mx_wt_nil, q, Option.bind_some, Option.toList_some, List.cons_append, List.nil_append, mx_nl_int, t76, o76]
  · rw [if_neg h1] at q
    refine ⟨mx_up (mx_up (p1_mA h) 76 34 (.int 0)) 76 3 (.int 0), ?_, by rw [mx_tag_up, mx_tag_up]; exact f7, by rw [mx_ln_up, mx_ln_up]; exact f8, by rw [mx_len_up, mx_len_up]; exact f9, by rw [mx_tot_up, mx_tot_up]; exact f10⟩
    simp only [if_neg h1, g320_0, g320_1, g320_2, g320_3, g320_4, g320_6, g320_9, g320_11, g320_12, g320_13, g320_16, g320_18, mx_isr_ref, t, mx_wt_nil, q, Option.bind_some, Option.toList_some, List.cons_append, List.nil_append, mx_nl_int, mx_tag_up, t76, o76]
theorem p1_s5 (s : Int32) : (s < 0 ∨ ¬ s ≤ 4) ↔ (s < 0 ∨ ¬ s < 5) := by
  have e4 : (4 : Int32).toInt = 4 := by decide
  have e5 : (5 : Int32).toInt = 5 := by decide
  rw [Int32.le_iff_toInt_le, Int32.lt_iff_toInt_lt (y := 5), e4, e5]
  constructor
  · rintro (a | a)
    · exact Or.inl a
    · exact Or.inr (by omega)
  · rintro (a | a)
    · exact Or.inl a
    · exact Or.inr (by omega)
theorem p1_Cquery (xs : Nat → Int32) : ∃ h2, mx_G 31 0 237 p1_l0 [] (p1_h xs) = some (some (.int 1), h2) ∧ h2.length ≤ 1000 ∧ mx_tot h2 ≤ 10000 := by
  have X := p1_hX xs
  obtain ⟨-, XD, kD⟩ := p1_nxs (p1_kD xs)
  obtain ⟨-, -, kA⟩ := p1_nxs (p1_kA xs)
  obtain ⟨-, -, kB⟩ := p1_nxs (p1_kB xs)
  obtain ⟨-, -, kC⟩ := p1_nxs (p1_kC xs)
  obtain ⟨-, -, kE⟩ := p1_nxs (p1_kE xs)
  obtain ⟨-, -, kF⟩ := p1_nxs (p1_kF xs)
  obtain ⟨-, -, kG⟩ := p1_nxs (p1_kG xs)
  obtain ⟨-, XH, kH⟩ := p1_nxs (p1_kH xs)
  have XD : p1_X (p1_qD xs) = true := XD
  have XH : p1_X (p1_qH xs) = true := XH
  have kD : mx_keep (mx_olds 5 xs) (p1_qD xs) := mx_keep_trans (mx_keep_trans (mx_keep_trans (mx_keep_trans (p1_hk xs) kA) kB) kC) kD
  have kU : mx_keep (p1_qF xs) (mx_up (p1_qF xs) 63 5 (.int 0)) := by
    unfold mx_up
    split
    · rename_i q hq
      exact mx_keep_set hq (by simp) rfl (by decide)
    · exact mx_keep_rfl _
  have kH : mx_keep (mx_olds 5 xs) (p1_qH xs) := mx_keep_trans (mx_keep_trans (mx_keep_trans (mx_keep_trans (mx_keep_trans kD kE) kF) kU) kG) kH
  obtain ⟨f1, -, -, -, -, -, f7, f8, f9, f10, f11, f12⟩ := p1_Fs (p1_Xs X).1
  obtain ⟨s0, s1, s2, s3, s4⟩ := p1_sc (p1_hk xs)
  have key : ∀ (b : Int32) (h1 : mx_H) (v : Int32), p1_X h1 = true → mx_keep (mx_olds 5 xs) h1 → p1_ck 28 240 [.ref 76] (mx_up h1 76 12 (.int 0)) (some (.int 1)) = true → v = (if xs 1 < 0 ∨ ¬ xs 1 ≤ 4 then -401 else 0) → mx_G 30 201 0 [some (.ref 63), some (.int (xs 1)), some (.int b), some (.int (xs 3)), some (.int (xs 4)), none, none, none, none, none] [] (p1_h xs) = some (some (.int v), h1) → b = (if xs 2 = 0 then 0 else 1) → ∃ h2, mx_G 31 0 237 p1_l0 [] (p1_h xs) = some (some (.int 1), h2) ∧ h2.length ≤ 1000 ∧ mx_tot h2 ≤ 10000 := by
    intro b h1 v X1 k1 c1 hv hq hb
    obtain ⟨h2, hm, m1, m2, m3, m4⟩ := p1_queryM c1 (p1_Fs (p1_Xs X1).1).1 (xs 1) b (xs 3) (xs 4)
    obtain ⟨r0, r1, r2, r3, r4⟩ := p1_sc k1
    obtain ⟨q1, -, -, -, -, -, q7, q8, q9, q10, q11, q12⟩ := p1_Fs (p1_Xs X1).1
    have he := p1_end (d := 31) (h := h2) m1 m2
    unfold p1_l0 at he
    refine ⟨h2, ?_, m3, m4⟩
    rw [← hv] at hm
    rw [show (31 : Nat) = 30 + 1 from rfl] at he ⊢
    by_cases e : xs 2 = 0
    · rw [if_pos e] at hb
      subst hb
      simp only [p1_l0, g0_0, g0_3, g0_4, g0_7, g0_8, g0_11, g0_12, g0_15, g0_16, g0_17, g0_18, g0_19, g0_20, g0_21, g0_22, g0_23, g0_26, g0_27, g0_28, g0_29, g0_31, g0_32_0, g0_32_1, g0_32_2, g0_32_3, g0_32_4, g0_32_5, g0_32_6, g0_32_7, g0_32_8, g0_32_9, g0_32_10, g0_32d, g0_92, g0_93, g0_94, g0_95, g0_96, g0_97, g0_98, g0_99, g0_100, g0_101, g0_102, g0_103, g0_106, g0_107, g0_108, g0_109, g0_110, g0_111, g0_112, g0_113, g0_114, g0_115, g0_116, g0_117, g0_120, g0_123, g0_124, g0_125, g0_126, g0_129, g0_130, g0_133, g0_136, g0_137, g0_138, g0_139, g0_140, g0_141, g0_142, g0_143, g0_144, g0_145, g0_146, g0_147, g0_148, g0_149, g0_152, g0_153, g0_154, g0_155, g0_156, g0_157, g0_158, g0_159, g0_160, g0_161, g0_162, g0_163, g0_166, g0_169, g0_170, g0_171, g0_172, g0_173, g0_174, g0_175, g0_176, g0_177, g0_178, g0_179, g0_180, g0_181, g0_182, g0_185, g0_186, g0_187, g0_188, g0_189, g0_190, g0_191, g0_192, g0_193, g0_194, g0_195, g0_196, g0_199, g0_202, g0_203, g0_204, g0_205, g0_206, g0_207, g0_208, g0_209, g0_210, g0_211, g0_212, g0_213, g0_214, g0_215, g0_218, g0_219, g0_220, g0_221, g0_222, g0_223, g0_224, g0_225, g0_226, g0_227, g0_228, g0_229, g0_232, g0_235, g0_236, g0_237, g0_238, g0_239, g0_240, g0_241, g0_242, g0_243, g0_244, g0_245, g0_246, g0_247, g0_248, g0_251, g0_252, g0_255, g0_256, g0_257, g0_258, g0_259, g0_260, g0_261, g0_262, g0_263, g0_264, g0_265, g0_266, g0_269, g0_270, g0_271, g0_272, g0_273, g0_274, g0_275, g0_276, g0_277, g0_278, g0_279, g0_280, g0_283, g0_284, g0_287, g0_288, g0_289, g0_290, g0_291, g0_292, g0_293, g0_294, g0_295, g0_296, g0_297, g0_298, g0_301, g0_304, g0_305, g0_306, g0_307, g0_308, g0_309, g0_310, g0_311, g0_312, g0_315, g0_316, g0_317, g0_318, g0_319, g0_320, g0_321, g0_324, g0_327, g0_328, g0_329, g0_330, g0_333, g0_334, g0_337, g0_340, g0_341, g0_342, g0_343, g0_344, g0_345, g0_346, g0_347, g0_348, g0_351, g0_352, g0_353, g0_354, g0_355, g0_356, g0_357, g0_360, g0_363, g0_364, g0_365, g0_366, g0_367, g0_368, g0_369, g0_370, g0_371, g0_374, g0_375, g0_376, g0_377, g0_378, g0_379, g0_380, g0_383, g0_386, g0_387, g0_388, g0_389, g0_390, g0_391, g0_392, g0_393, g0_394, g0_395, g0_396, g0_397, g0_398, g0_399, g0_402, g0_403, g0_404, g0_405, g0_406, g0_407, g0_408, g0_409, g0_410, g0_411, g0_412, g0_413, g0_416, g0_419, g0_420, g0_421, g0_424, g0_427, g0_428, mx_isr_ref, mx_wt_nil, mx_wt_1, mx_wt_2, mx_wt_3, p1_i1.1, p1_i1.2, p1_i2.1, p1_i2.2, p1_i3.1, p1_i3.2, p1_i4.1, p1_i4.2, Nat.reduceLT, Option.bind_some, Option.toList_some, List.cons_append, List.nil_append, if_true, f1, f7, f8, f11, s1, s2, s3, s4, r1, r2, r3, r4, q1, q7, q8, q11, e, hq, hm, he]
    · rw [if_neg e] at hb
      subst hb
      simp only [p1_l0, g0_0, g0_3, g0_4, g0_7, g0_8, g0_11, g0_12, g0_15, g0_16, g0_17, g0_18, g0_19, g0_20, g0_21, g0_22, g0_23, g0_26, g0_27, g0_28, g0_29, g0_31, g0_32_0, g0_32_1, g0_32_2, g0_32_3, g0_32_4, g0_32_5, g0_32_6, g0_32_7, g0_32_8, g0_32_9, g0_32_10, g0_32d, g0_92, g0_93, g0_94, g0_95, g0_96, g0_97, g0_98, g0_99, g0_100, g0_101, g0_102, g0_103, g0_106, g0_107, g0_108, g0_109, g0_110, g0_111, g0_112, g0_113, g0_114, g0_115, g0_116, g0_117, g0_120, g0_123, g0_124, g0_125, g0_126, g0_129, g0_130, g0_133, g0_136, g0_137, g0_138, g0_139, g0_140, g0_141, g0_142, g0_143, g0_144, g0_145, g0_146, g0_147, g0_148, g0_149, g0_152, g0_153, g0_154, g0_155, g0_156, g0_157, g0_158, g0_159, g0_160, g0_161, g0_162, g0_163, g0_166, g0_169, g0_170, g0_171, g0_172, g0_173, g0_174, g0_175, g0_176, g0_177, g0_178, g0_179, g0_180, g0_181, g0_182, g0_185, g0_186, g0_187, g0_188, g0_189, g0_190, g0_191, g0_192, g0_193, g0_194, g0_195, g0_196, g0_199, g0_202, g0_203, g0_204, g0_205, g0_206, g0_207, g0_208, g0_209, g0_210, g0_211, g0_212, g0_213, g0_214, g0_215, g0_218, g0_219, g0_220, g0_221, g0_222, g0_223, g0_224, g0_225, g0_226, g0_227, g0_228, g0_229, g0_232, g0_235, g0_236, g0_237, g0_238, g0_239, g0_240, g0_241, g0_242, g0_243, g0_244, g0_245, g0_246, g0_247, g0_248, g0_251, g0_252, g0_255, g0_256, g0_257, g0_258, g0_259, g0_260, g0_261, g0_262, g0_263, g0_264, g0_265, g0_266, g0_269, g0_270, g0_271, g0_272, g0_273, g0_274, g0_275, g0_276, g0_277, g0_278, g0_279, g0_280, g0_283, g0_284, g0_287, g0_288, g0_289, g0_290, g0_291, g0_292, g0_293, g0_294, g0_295, g0_296, g0_297, g0_298, g0_301, g0_304, g0_305, g0_306, g0_307, g0_308, g0_309, g0_310, g0_311, g0_312, g0_315, g0_316, g0_317, g0_318, g0_319, g0_320, g0_321, g0_324, g0_327, g0_328, g0_329, g0_330, g0_333, g0_334, g0_337, g0_340, g0_341, g0_342, g0_343, g0_344, g0_345, g0_346, g0_347, g0_348, g0_351, g0_352, g0_353, g0_354, g0_355, g0_356, g0_357, g0_360, g0_363, g0_364, g0_365, g0_366, g0_367, g0_368, g0_369, g0_370, g0_371, g0_374, g0_375, g0_376, g0_377, g0_378, g0_379, g0_380, g0_383, g0_386, g0_387, g0_388, g0_389, g0_390, g0_391, g0_392, g0_393, g0_394, g0_395, g0_396, g0_397, g0_398, g0_399, g0_402, g0_403, g0_404, g0_405, g0_406, g0_407, g0_408, g0_409, g0_410, g0_411, g0_412, g0_413, g0_416, g0_419, g0_420, g0_421, g0_424, g0_427, g0_428, mx_isr_ref, mx_wt_nil, mx_wt_1, mx_wt_2, mx_wt_3, p1_i1.1, p1_i1.2, p1_i2.1, p1_i2.2, p1_i3.1, p1_i3.2, p1_i4.1, p1_i4.2, Nat.reduceLT, Option.bind_some, Option.toList_some, List.cons_append, List.nil_append, if_true, if_false, f1, f7, f8, f11, s1, s2, s3, s4, r1, r2, r3, r4, q1, q7, q8, q11, e, hq, hm, he]
  rcases p1_queryC xs (xs 1) (if xs 2 = 0 then 0 else 1) (xs 3) (xs 4) with ⟨a, q⟩ | ⟨a, a', q⟩
  · exact key _ _ _ XD kD (p1_lD xs) (by rw [if_pos ((p1_s5 _).mpr a)]) q rfl
  · exact key _ _ _ XH kH (p1_lH xs) (by rw [if_neg (fun z => ((p1_s5 _).mp z).elim a (fun w => w a'))]) q rfl
end
