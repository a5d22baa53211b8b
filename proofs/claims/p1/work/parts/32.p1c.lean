section
variable {d : Nat} {h : mx_H} {xs : Nat → Int32}
def p1_cl (mi : Nat) (as : List Value) (v0 : Int32) (xs : Nat → Int32) : Bool := match mx_run 4000 30 mi 0 (mx_ent mi as) [] (p1_h xs) with
  | some (some (.int v), h1) => decide (v = v0) && p1_F h1
  | _ => false
theorem p1_cls {mi : Nat} {as : List Value} {v0 : Int32} (hc : p1_cl mi as v0 xs = true) : ∃ h1, mx_G 30 mi 0 (mx_ent mi as) [] (p1_h xs) = some (some (.int v0), h1) ∧ p1_F h1 = true ∧ mx_keep (mx_olds 5 xs) h1 := by
  unfold p1_cl at hc
  split at hc
  · rename_i v h1 hr
    simp only [Bool.and_eq_true, decide_eq_true_eq] at hc
    refine ⟨h1, ?_, hc.2, mx_keep_trans (p1_hk xs) (mx_run_keep _ _ _ _ _ _ _ _ _ hr)⟩
    rw [mx_G_of hr, hc.1]
  · cases hc
theorem p1_sc (k : mx_keep (mx_olds 5 xs) h) : mx_el h 0 0 = .int (xs 0) ∧ mx_el h 0 1 = .int (xs 1) ∧ mx_el h 0 2 = .int (xs 2) ∧ mx_el h 0 3 = .int (xs 3) ∧ mx_el h 0 4 = .int (xs 4) := by
  have e := k.1 (Nat.le_refl _) 0 (by decide)
  unfold mx_el
  rw [e]
  exact ⟨rfl, rfl, rfl, rfl, rfl⟩
theorem p1_end (t : mx_tag h 0 = some (.inr .int)) (l : mx_ln h 0 = 5) : mx_G d 0 421 p1_l0 [] h = some (some (.int 1), h) := by
  simp only [p1_l0, g0_421, mx_nl_ref, g0_424, g0_18, g0_19, mx_isr_ref, g0_20 t, l, g0_21, g0_22, g0_23, show Int32.ofNat 5 - 5 < 0 + 5 by decide, if_true, g0_427, g0_428, mx_nb1]
theorem mx_tot_up (h : mx_H) (a k : Nat) (v : Value) : mx_tot (mx_up h a k v) = mx_tot h := by
  unfold mx_up
  split
  · rename_i q hq
    exact mx_tot_set hq (by simp)
  · rfl
theorem p1_i1 : (0 + 1 : Int32).toNatClampNeg = 1 ∧ (0 : Int32) ≤ 0 + 1 := by decide
theorem p1_i2 : (0 + 2 : Int32).toNatClampNeg = 2 ∧ (0 : Int32) ≤ 0 + 2 := by decide
theorem p1_i3 : (0 + 3 : Int32).toNatClampNeg = 3 ∧ (0 : Int32) ≤ 0 + 3 := by decide
theorem p1_i4 : (0 + 4 : Int32).toNatClampNeg = 4 ∧ (0 : Int32) ≤ 0 + 4 := by decide

theorem p1_Kreplace : ∀ xs, p1_cl 149 [.ref 63, .int (xs 1), .int (xs 2)] (-404) xs = true := mx_eps (fun xs => p1_cl 149 [.ref 63, .int (xs 1), .int (xs 2)] (-404) xs = true) (by decide +kernel)
theorem p1_Creplace (xs : Nat → Int32) : ∃ h2, mx_G 31 0 138 p1_l0 [] (p1_h xs) = some (some (.int 1), h2) ∧ h2.length ≤ 1000 ∧ mx_tot h2 ≤ 10000 := by
  obtain ⟨h1, hc, F, k⟩ := p1_cls (p1_Kreplace xs)
  have hc : mx_G 30 149 0 [some (.ref 63), some (.int (xs 1)), some (.int (xs 2)), none, none, none, none] [] (p1_h xs) = some (some (.int (-404)), h1) := hc
  obtain ⟨f1, -, -, -, -, -, f7, f8, f9, f10, f11, f12⟩ := p1_Fs F
  obtain ⟨g1, -, -, -, -, -, g7, g8, g9, g10, g11, g12⟩ := p1_Fs (p1_hF xs)
  obtain ⟨s0, s1, s2, s3, s4⟩ := p1_sc (p1_hk xs)
  obtain ⟨r0, r1, r2, r3, r4⟩ := p1_sc k
  have hm : mx_G 30 279 0 [some (.ref 76), some (.int (xs 1)), some (.int (xs 2)), none] [] h1 = some (some (.int (-404)), (mx_up h1 76 3 (.int 0))) := p1_replace (d := 28) F (xs 1) (xs 2)
  have he := p1_end (d := 31) (h := (mx_up h1 76 3 (.int 0))) (by rw [mx_tag_up]; exact f7) (by rw [mx_ln_up]; exact f8)
  unfold p1_l0 at he
  refine ⟨(mx_up h1 76 3 (.int 0)), ?_, by rw [mx_len_up]; exact f9, by rw [mx_tot_up]; exact f10⟩
  rw [show (31 : Nat) = 30 + 1 from rfl] at he ⊢
  simp only [p1_l0, g0_0, g0_3, g0_4, g0_7, g0_8, g0_11, g0_12, g0_15, g0_16, g0_17, g0_18, g0_19, g0_20, g0_21, g0_22, g0_23, g0_26, g0_27, g0_28, g0_29, g0_31, g0_32_0, g0_32_1, g0_32_2, g0_32_3, g0_32_4, g0_32_5, g0_32_6, g0_32_7, g0_32_8, g0_32_9, g0_32_10, g0_32d, g0_92, g0_93, g0_94, g0_95, g0_96, g0_97, g0_98, g0_99, g0_100, g0_101, g0_102, g0_103, g0_106, g0_107, g0_108, g0_109, g0_110, g0_111, g0_112, g0_113, g0_114, g0_115, g0_116, g0_117, g0_120, g0_123, g0_124, g0_125, g0_126, g0_129, g0_130, g0_133, g0_136, g0_137, g0_138, g0_139, g0_140, g0_141, g0_142, g0_143, g0_144, g0_145, g0_146, g0_147, g0_148, g0_149, g0_152, g0_153, g0_154, g0_155, g0_156, g0_157, g0_158, g0_159, g0_160, g0_161, g0_162, g0_163, g0_166, g0_169, g0_170, g0_171, g0_172, g0_173, g0_174, g0_175, g0_176, g0_177, g0_178, g0_179, g0_180, g0_181, g0_182, g0_185, g0_186, g0_187, g0_188, g0_189, g0_190, g0_191, g0_192, g0_193, g0_194, g0_195, g0_196, g0_199, g0_202, g0_203, g0_204, g0_205, g0_206, g0_207, g0_208, g0_209, g0_210, g0_211, g0_212, g0_213, g0_214, g0_215, g0_218, g0_219, g0_220, g0_221, g0_222, g0_223, g0_224, g0_225, g0_226, g0_227, g0_228, g0_229, g0_232, g0_235, g0_236, g0_237, g0_238, g0_239, g0_240, g0_241, g0_242, g0_243, g0_244, g0_245, g0_246, g0_247, g0_248, g0_251, g0_252, g0_255, g0_256, g0_257, g0_258, g0_259, g0_260, g0_261, g0_262, g0_263, g0_264, g0_265, g0_266, g0_269, g0_270, g0_271, g0_272, g0_273, g0_274, g0_275, g0_276, g0_277, g0_278, g0_279, g0_280, g0_283, g0_284, g0_287, g0_288, g0_289, g0_290, g0_291, g0_292, g0_293, g0_294, g0_295, g0_296, g0_297, g0_298, g0_301, g0_304, g0_305, g0_306, g0_307, g0_308, g0_309, g0_310, g0_311, g0_312, g0_315, g0_316, g0_317, g0_318, g0_319, g0_320, g0_321, g0_324, g0_327, g0_328, g0_329, g0_330, g0_333, g0_334, g0_337, g0_340, g0_341, g0_342, g0_343, g0_344, g0_345, g0_346, g0_347, g0_348, g0_351, g0_352, g0_353, g0_354, g0_355, g0_356, g0_357, g0_360, g0_363, g0_364, g0_365, g0_366, g0_367, g0_368, g0_369, g0_370, g0_371, g0_374, g0_375, g0_376, g0_377, g0_378, g0_379, g0_380, g0_383, g0_386, g0_387, g0_388, g0_389, g0_390, g0_391, g0_392, g0_393, g0_394, g0_395, g0_396, g0_397, g0_398, g0_399, g0_402, g0_403, g0_404, g0_405, g0_406, g0_407, g0_408, g0_409, g0_410, g0_411, g0_412, g0_413, g0_416, g0_419, g0_420, g0_421, g0_424, g0_427, g0_428, mx_isr_ref, mx_wt_nil, mx_wt_1, mx_wt_2, p1_i1.1, p1_i1.2, p1_i2.1, p1_i2.2, p1_i3.1, p1_i3.2, p1_i4.1, p1_i4.2, Nat.reduceLT, Option.bind_some, Option.toList_some, List.cons_append, List.nil_append, if_true, f1, f7, f8, g1, g7, g8, f11, g11, s1, s2, r1, r2, hc, hm, he]
theorem p1_Kpatch : ∀ xs, p1_cl 156 [.ref 63, .int (xs 1), .int (xs 2)] (-404) xs = true := mx_eps (fun xs => p1_cl 156 [.ref 63, .int (xs 1), .int (xs 2)] (-404) xs = true) (by decide +kernel)
theorem p1_Cpatch (xs : Nat → Int32) : ∃ h2, mx_G 31 0 171 p1_l0 [] (p1_h xs) = some (some (.int 1), h2) ∧ h2.length ≤ 1000 ∧ mx_tot h2 ≤ 10000 := by
  obtain ⟨h1, hc, F, k⟩ := p1_cls (p1_Kpatch xs)
  have hc : mx_G 30 156 0 [some (.ref 63), some (.int (xs 1)), some (.int (xs 2)), none, none, none, none, none, none] [] (p1_h xs) = some (some (.int (-404)), h1) := hc
  obtain ⟨f1, -, -, -, -, -, f7, f8, f9, f10, f11, f12⟩ := p1_Fs F
  obtain ⟨g1, -, -, -, -, -, g7, g8, g9, g10, g11, g12⟩ := p1_Fs (p1_hF xs)
  obtain ⟨s0, s1, s2, s3, s4⟩ := p1_sc (p1_hk xs)
  obtain ⟨r0, r1, r2, r3, r4⟩ := p1_sc k
  have hm : mx_G 30 286 0 [some (.ref 76), some (.int (xs 1)), some (.int (xs 2)), none] [] h1 = some (some (.int (-404)), (mx_up h1 76 3 (.int 0))) := p1_patch (d := 28) F (xs 1) (xs 2)
  have he := p1_end (d := 31) (h := (mx_up h1 76 3 (.int 0))) (by rw [mx_tag_up]; exact f7) (by rw [mx_ln_up]; exact f8)
  unfold p1_l0 at he
  refine ⟨(mx_up h1 76 3 (.int 0)), ?_, by rw [mx_len_up]; exact f9, by rw [mx_tot_up]; exact f10⟩
  rw [show (31 : Nat) = 30 + 1 from rfl] at he ⊢
  simp only [p1_l0, g0_0, g0_3, g0_4, g0_7, g0_8, g0_11, g0_12, g0_15, g0_16, g0_17, g0_18, g0_19, g0_20, g0_21, g0_22, g0_23, g0_26, g0_27, g0_28, g0_29, g0_31, g0_32_0, g0_32_1, g0_32_2, g0_32_3, g0_32_4, g0_32_5, g0_32_6, g0_32_7, g0_32_8, g0_32_9, g0_32_10, g0_32d, g0_92, g0_93, g0_94, g0_95, g0_96, g0_97, g0_98, g0_99, g0_100, g0_101, g0_102, g0_103, g0_106, g0_107, g0_108, g0_109, g0_110, g0_111, g0_112, g0_113, g0_114, g0_115, g0_116, g0_117, g0_120, g0_123, g0_124, g0_125, g0_126, g0_129, g0_130, g0_133, g0_136, g0_137, g0_138, g0_139, g0_140, g0_141, g0_142, g0_143, g0_144, g0_145, g0_146, g0_147, g0_148, g0_149, g0_152, g0_153, g0_154, g0_155, g0_156, g0_157, g0_158, g0_159, g0_160, g0_161, g0_162, g0_163, g0_166, g0_169, g0_170, g0_171, g0_172, g0_173, g0_174, g0_175, g0_176, g0_177, g0_178, g0_179, g0_180, g0_181, g0_182, g0_185, g0_186, g0_187, g0_188, g0_189, g0_190, g0_191, g0_192, g0_193, g0_194, g0_195, g0_196, g0_199, g0_202, g0_203, g0_204, g0_205, g0_206, g0_207, g0_208, g0_209, g0_210, g0_211, g0_212, g0_213, g0_214, g0_215, g0_218, g0_219, g0_220, g0_221, g0_222, g0_223, g0_224, g0_225, g0_226, g0_227, g0_228, g0_229, g0_232, g0_235, g0_236, g0_237, g0_238, g0_239, g0_240, g0_241, g0_242, g0_243, g0_244, g0_245, g0_246, g0_247, g0_248, g0_251, g0_252, g0_255, g0_256, g0_257, g0_258, g0_259, g0_260, g0_261, g0_262, g0_263, g0_264, g0_265, g0_266, g0_269, g0_270, g0_271, g0_272, g0_273, g0_274, g0_275, g0_276, g0_277, g0_278, g0_279, g0_280, g0_283, g0_284, g0_287, g0_288, g0_289, g0_290, g0_291, g0_292, g0_293, g0_294, g0_295, g0_296, g0_297, g0_298, g0_301, g0_304, g0_305, g0_306, g0_307, g0_308, g0_309, g0_310, g0_311, g0_312, g0_315, g0_316, g0_317, g0_318, g0_319, g0_320, g0_321, g0_324, g0_327, g0_328, g0_329, g0_330, g0_333, g0_334, g0_337, g0_340, g0_341, g0_342, g0_343, g0_344, g0_345, g0_346, g0_347, g0_348, g0_351, g0_352, g0_353, g0_354, g0_355, g0_356, g0_357, g0_360, g0_363, g0_364, g0_365, g0_366, g0_367, g0_368, g0_369, g0_370, g0_371, g0_374, g0_375, g0_376, g0_377, g0_378, g0_379, g0_380, g0_383, g0_386, g0_387, g0_388, g0_389, g0_390, g0_391, g0_392, g0_393, g0_394, g0_395, g0_396, g0_397, g0_398, g0_399, g0_402, g0_403, g0_404, g0_405, g0_406, g0_407, g0_408, g0_409, g0_410, g0_411, g0_412, g0_413, g0_416, g0_419, g0_420, g0_421, g0_424, g0_427, g0_428, mx_isr_ref, mx_wt_nil, mx_wt_1, mx_wt_2, p1_i1.1, p1_i1.2, p1_i2.1, p1_i2.2, p1_i3.1, p1_i3.2, p1_i4.1, p1_i4.2, Nat.reduceLT, Option.bind_some, Option.toList_some, List.cons_append, List.nil_append, if_true, f1, f7, f8, g1, g7, g8, f11, g11, s1, s2, r1, r2, hc, hm, he]
theorem p1_Kremove : ∀ xs, p1_cl 200 [.ref 63, .int (xs 1), .int (xs 2)] (-404) xs = true := mx_eps (fun xs => p1_cl 200 [.ref 63, .int (xs 1), .int (xs 2)] (-404) xs = true) (by decide +kernel)
theorem p1_Cremove (xs : Nat → Int32) : ∃ h2, mx_G 31 0 204 p1_l0 [] (p1_h xs) = some (some (.int 1), h2) ∧ h2.length ≤ 1000 ∧ mx_tot h2 ≤ 10000 := by
  obtain ⟨h1, hc, F, k⟩ := p1_cls (p1_Kremove xs)
  have hc : mx_G 30 200 0 [some (.ref 63), some (.int (xs 1)), some (.int (xs 2)), none, none] [] (p1_h xs) = some (some (.int (-404)), h1) := hc
  obtain ⟨f1, -, -, -, -, -, f7, f8, f9, f10, f11, f12⟩ := p1_Fs F
  obtain ⟨g1, -, -, -, -, -, g7, g8, g9, g10, g11, g12⟩ := p1_Fs (p1_hF xs)
  obtain ⟨s0, s1, s2, s3, s4⟩ := p1_sc (p1_hk xs)
  obtain ⟨r0, r1, r2, r3, r4⟩ := p1_sc k
  have hm : mx_G 30 285 0 [some (.ref 76), some (.int (xs 1)), some (.int (xs 2)), none, none] [] h1 = some (some (.int (-404)), h1) := p1_remove (d := 28) F (xs 1) (xs 2)
  have he := p1_end (d := 31) (h := h1) f7 f8
  unfold p1_l0 at he
  refine ⟨h1, ?_, f9, f10⟩
  rw [show (31 : Nat) = 30 + 1 from rfl] at he ⊢
  simp only [p1_l0, g0_0, g0_3, g0_4, g0_7, g0_8, g0_11, g0_12, g0_15, g0_16, g0_17, g0_18, g0_19, g0_20, g0_21, g0_22, g0_23, g0_26, g0_27, g0_28, g0_29, g0_31, g0_32_0, g0_32_1, g0_32_2, g0_32_3, g0_32_4, g0_32_5, g0_32_6, g0_32_7, g0_32_8, g0_32_9, g0_32_10, g0_32d, g0_92, g0_93, g0_94, g0_95, g0_96, g0_97, g0_98, g0_99, g0_100, g0_101, g0_102, g0_103, g0_106, g0_107, g0_108, g0_109, g0_110, g0_111, g0_112, g0_113, g0_114, g0_115, g0_116, g0_117, g0_120, g0_123, g0_124, g0_125, g0_126, g0_129, g0_130, g0_133, g0_136, g0_137, g0_138, g0_139, g0_140, g0_141, g0_142, g0_143, g0_144, g0_145, g0_146, g0_147, g0_148, g0_149, g0_152, g0_153, g0_154, g0_155, g0_156, g0_157, g0_158, g0_159, g0_160, g0_161, g0_162, g0_163, g0_166, g0_169, g0_170, g0_171, g0_172, g0_173, g0_174, g0_175, g0_176, g0_177, g0_178, g0_179, g0_180, g0_181, g0_182, g0_185, g0_186, g0_187, g0_188, g0_189, g0_190, g0_191, g0_192, g0_193, g0_194, g0_195, g0_196, g0_199, g0_202, g0_203, g0_204, g0_205, g0_206, g0_207, g0_208, g0_209, g0_210, g0_211, g0_212, g0_213, g0_214, g0_215, g0_218, g0_219, g0_220, g0_221, g0_222, g0_223, g0_224, g0_225, g0_226, g0_227, g0_228, g0_229, g0_232, g0_235, g0_236, g0_237, g0_238, g0_239, g0_240, g0_241, g0_242, g0_243, g0_244, g0_245, g0_246, g0_247, g0_248, g0_251, g0_252, g0_255, g0_256, g0_257, g0_258, g0_259, g0_260, g0_261, g0_262, g0_263, g0_264, g0_265, g0_266, g0_269, g0_270, g0_271, g0_272, g0_273, g0_274, g0_275, g0_276, g0_277, g0_278, g0_279, g0_280, g0_283, g0_284, g0_287, g0_288, g0_289, g0_290, g0_291, g0_292, g0_293, g0_294, g0_295, g0_296, g0_297, g0_298, g0_301, g0_304, g0_305, g0_306, g0_307, g0_308, g0_309, g0_310, g0_311, g0_312, g0_315, g0_316, g0_317, g0_318, g0_319, g0_320, g0_321, g0_324, g0_327, g0_328, g0_329, g0_330, g0_333, g0_334, g0_337, g0_340, g0_341, g0_342, g0_343, g0_344, g0_345, g0_346, g0_347, g0_348, g0_351, g0_352, g0_353, g0_354, g0_355, g0_356, g0_357, g0_360, g0_363, g0_364, g0_365, g0_366, g0_367, g0_368, g0_369, g0_370, g0_371, g0_374, g0_375, g0_376, g0_377, g0_378, g0_379, g0_380, g0_383, g0_386, g0_387, g0_388, g0_389, g0_390, g0_391, g0_392, g0_393, g0_394, g0_395, g0_396, g0_397, g0_398, g0_399, g0_402, g0_403, g0_404, g0_405, g0_406, g0_407, g0_408, g0_409, g0_410, g0_411, g0_412, g0_413, g0_416, g0_419, g0_420, g0_421, g0_424, g0_427, g0_428, mx_isr_ref, mx_wt_nil, mx_wt_1, mx_wt_2, p1_i1.1, p1_i1.2, p1_i2.1, p1_i2.2, p1_i3.1, p1_i3.2, p1_i4.1, p1_i4.2, Nat.reduceLT, Option.bind_some, Option.toList_some, List.cons_append, List.nil_append, if_true, f1, f7, f8, g1, g7, g8, f11, g11, s1, s2, r1, r2, hc, hm, he]
theorem p1_Kversion : ∀ xs, p1_cl 211 [.ref 63, .int (xs 1)] (-404) xs = true := mx_eps (fun xs => p1_cl 211 [.ref 63, .int (xs 1)] (-404) xs = true) (by decide +kernel)
theorem p1_Cversion (xs : Nat → Int32) : ∃ h2, mx_G 31 0 342 p1_l0 [] (p1_h xs) = some (some (.int 1), h2) ∧ h2.length ≤ 1000 ∧ mx_tot h2 ≤ 10000 := by
  obtain ⟨h1, hc, F, k⟩ := p1_cls (p1_Kversion xs)
  have hc : mx_G 30 211 0 [some (.ref 63), some (.int (xs 1)), none] [] (p1_h xs) = some (some (.int (-404)), h1) := hc
  obtain ⟨f1, -, -, -, -, -, f7, f8, f9, f10, f11, f12⟩ := p1_Fs F
  obtain ⟨g1, -, -, -, -, -, g7, g8, g9, g10, g11, g12⟩ := p1_Fs (p1_hF xs)
  obtain ⟨s0, s1, s2, s3, s4⟩ := p1_sc (p1_hk xs)
  obtain ⟨r0, r1, r2, r3, r4⟩ := p1_sc k
  have hm : mx_G 30 329 0 [some (.ref 76), some (.int (xs 1)), none] [] h1 = some (some (.int (-404)), h1) := p1_version (d := 28) F (xs 1)
  have he := p1_end (d := 31) (h := h1) f7 f8
  unfold p1_l0 at he
  refine ⟨h1, ?_, f9, f10⟩
  rw [show (31 : Nat) = 30 + 1 from rfl] at he ⊢
  simp only [p1_l0, g0_0, g0_3, g0_4, g0_7, g0_8, g0_11, g0_12, g0_15, g0_16, g0_17, g0_18, g0_19, g0_20, g0_21, g0_22, g0_23, g0_26, g0_27, g0_28, g0_29, g0_31, g0_32_0, g0_32_1, g0_32_2, g0_32_3, g0_32_4, g0_32_5, g0_32_6, g0_32_7, g0_32_8, g0_32_9, g0_32_10, g0_32d, g0_92, g0_93, g0_94, g0_95, g0_96, g0_97, g0_98, g0_99, g0_100, g0_101, g0_102, g0_103, g0_106, g0_107, g0_108, g0_109, g0_110, g0_111, g0_112, g0_113, g0_114, g0_115, g0_116, g0_117, g0_120, g0_123, g0_124, g0_125, g0_126, g0_129, g0_130, g0_133, g0_136, g0_137, g0_138, g0_139, g0_140, g0_141, g0_142, g0_143, g0_144, g0_145, g0_146, g0_147, g0_148, g0_149, g0_152, g0_153, g0_154, g0_155, g0_156, g0_157, g0_158, g0_159, g0_160, g0_161, g0_162, g0_163, g0_166, g0_169, g0_170, g0_171, g0_172, g0_173, g0_174, g0_175, g0_176, g0_177, g0_178, g0_179, g0_180, g0_181, g0_182, g0_185, g0_186, g0_187, g0_188, g0_189, g0_190, g0_191, g0_192, g0_193, g0_194, g0_195, g0_196, g0_199, g0_202, g0_203, g0_204, g0_205, g0_206, g0_207, g0_208, g0_209, g0_210, g0_211, g0_212, g0_213, g0_214, g0_215, g0_218, g0_219, g0_220, g0_221, g0_222, g0_223, g0_224, g0_225, g0_226, g0_227, g0_228, g0_229, g0_232, g0_235, g0_236, g0_237, g0_238, g0_239, g0_240, g0_241, g0_242, g0_243, g0_244, g0_245, g0_246, g0_247, g0_248, g0_251, g0_252, g0_255, g0_256, g0_257, g0_258, g0_259, g0_260, g0_261, g0_262, g0_263, g0_264, g0_265, g0_266, g0_269, g0_270, g0_271, g0_272, g0_273, g0_274, g0_275, g0_276, g0_277, g0_278, g0_279, g0_280, g0_283, g0_284, g0_287, g0_288, g0_289, g0_290, g0_291, g0_292, g0_293, g0_294, g0_295, g0_296, g0_297, g0_298, g0_301, g0_304, g0_305, g0_306, g0_307, g0_308, g0_309, g0_310, g0_311, g0_312, g0_315, g0_316, g0_317, g0_318, g0_319, g0_320, g0_321, g0_324, g0_327, g0_328, g0_329, g0_330, g0_333, g0_334, g0_337, g0_340, g0_341, g0_342, g0_343, g0_344, g0_345, g0_346, g0_347, g0_348, g0_351, g0_352, g0_353, g0_354, g0_355, g0_356, g0_357, g0_360, g0_363, g0_364, g0_365, g0_366, g0_367, g0_368, g0_369, g0_370, g0_371, g0_374, g0_375, g0_376, g0_377, g0_378, g0_379, g0_380, g0_383, g0_386, g0_387, g0_388, g0_389, g0_390, g0_391, g0_392, g0_393, g0_394, g0_395, g0_396, g0_397, g0_398, g0_399, g0_402, g0_403, g0_404, g0_405, g0_406, g0_407, g0_408, g0_409, g0_410, g0_411, g0_412, g0_413, g0_416, g0_419, g0_420, g0_421, g0_424, g0_427, g0_428, mx_isr_ref, mx_wt_nil, mx_wt_1, mx_wt_2, p1_i1.1, p1_i1.2, p1_i2.1, p1_i2.2, p1_i3.1, p1_i3.2, p1_i4.1, p1_i4.2, Nat.reduceLT, Option.bind_some, Option.toList_some, List.cons_append, List.nil_append, if_true, f1, f7, f8, g1, g7, g8, f11, g11, s1, s2, r1, r2, hc, hm, he]
theorem p1_Klength : ∀ xs, p1_cl 212 [.ref 63, .int (xs 1)] (-404) xs = true := mx_eps (fun xs => p1_cl 212 [.ref 63, .int (xs 1)] (-404) xs = true) (by decide +kernel)
theorem p1_Clength (xs : Nat → Int32) : ∃ h2, mx_G 31 0 365 p1_l0 [] (p1_h xs) = some (some (.int 1), h2) ∧ h2.length ≤ 1000 ∧ mx_tot h2 ≤ 10000 := by
  obtain ⟨h1, hc, F, k⟩ := p1_cls (p1_Klength xs)
  have hc : mx_G 30 212 0 [some (.ref 63), some (.int (xs 1)), none] [] (p1_h xs) = some (some (.int (-404)), h1) := hc
  obtain ⟨f1, -, -, -, -, -, f7, f8, f9, f10, f11, f12⟩ := p1_Fs F
  obtain ⟨g1, -, -, -, -, -, g7, g8, g9, g10, g11, g12⟩ := p1_Fs (p1_hF xs)
  obtain ⟨s0, s1, s2, s3, s4⟩ := p1_sc (p1_hk xs)
  obtain ⟨r0, r1, r2, r3, r4⟩ := p1_sc k
  have hm : mx_G 30 330 0 [some (.ref 76), some (.int (xs 1)), none] [] h1 = some (some (.int (-404)), h1) := p1_length (d := 28) F (xs 1)
  have he := p1_end (d := 31) (h := h1) f7 f8
  unfold p1_l0 at he
  refine ⟨h1, ?_, f9, f10⟩
  rw [show (31 : Nat) = 30 + 1 from rfl] at he ⊢
  simp only [p1_l0, g0_0, g0_3, g0_4, g0_7, g0_8, g0_11, g0_12, g0_15, g0_16, g0_17, g0_18, g0_19, g0_20, g0_21, g0_22, g0_23, g0_26, g0_27, g0_28, g0_29, g0_31, g0_32_0, g0_32_1, g0_32_2, g0_32_3, g0_32_4, g0_32_5, g0_32_6, g0_32_7, g0_32_8, g0_32_9, g0_32_10, g0_32d, g0_92, g0_93, g0_94, g0_95, g0_96, g0_97, g0_98, g0_99, g0_100, g0_101, g0_102, g0_103, g0_106, g0_107, g0_108, g0_109, g0_110, g0_111, g0_112, g0_113, g0_114, g0_115, g0_116, g0_117, g0_120, g0_123, g0_124, g0_125, g0_126, g0_129, g0_130, g0_133, g0_136, g0_137, g0_138, g0_139, g0_140, g0_141, g0_142, g0_143, g0_144, g0_145, g0_146, g0_147, g0_148, g0_149, g0_152, g0_153, g0_154, g0_155, g0_156, g0_157, g0_158, g0_159, g0_160, g0_161, g0_162, g0_163, g0_166, g0_169, g0_170, g0_171, g0_172, g0_173, g0_174, g0_175, g0_176, g0_177, g0_178, g0_179, g0_180, g0_181, g0_182, g0_185, g0_186, g0_187, g0_188, g0_189, g0_190, g0_191, g0_192, g0_193, g0_194, g0_195, g0_196, g0_199, g0_202, g0_203, g0_204, g0_205, g0_206, g0_207, g0_208, g0_209, g0_210, g0_211, g0_212, g0_213, g0_214, g0_215, g0_218, g0_219, g0_220, g0_221, g0_222, g0_223, g0_224, g0_225, g0_226, g0_227, g0_228, g0_229, g0_232, g0_235, g0_236, g0_237, g0_238, g0_239, g0_240, g0_241, g0_242, g0_243, g0_244, g0_245, g0_246, g0_247, g0_248, g0_251, g0_252, g0_255, g0_256, g0_257, g0_258, g0_259, g0_260, g0_261, g0_262, g0_263, g0_264, g0_265, g0_266, g0_269, g0_270, g0_271, g0_272, g0_273, g0_274, g0_275, g0_276, g0_277, g0_278, g0_279, g0_280, g0_283, g0_284, g0_287, g0_288, g0_289, g0_290, g0_291, g0_292, g0_293, g0_294, g0_295, g0_296, g0_297, g0_298, g0_301, g0_304, g0_305, g0_306, g0_307, g0_308, g0_309, g0_310, g0_311, g0_312, g0_315, g0_316, g0_317, g0_318, g0_319, g0_320, g0_321, g0_324, g0_327, g0_328, g0_329, g0_330, g0_333, g0_334, g0_337, g0_340, g0_341, g0_342, g0_343, g0_344, g0_345, g0_346, g0_347, g0_348, g0_351, g0_352, g0_353, g0_354, g0_355, g0_356, g0_357, g0_360, g0_363, g0_364, g0_365, g0_366, g0_367, g0_368, g0_369, g0_370, g0_371, g0_374, g0_375, g0_376, g0_377, g0_378, g0_379, g0_380, g0_383, g0_386, g0_387, g0_388, g0_389, g0_390, g0_391, g0_392, g0_393, g0_394, g0_395, g0_396, g0_397, g0_398, g0_399, g0_402, g0_403, g0_404, g0_405, g0_406, g0_407, g0_408, g0_409, g0_410, g0_411, g0_412, g0_413, g0_416, g0_419, g0_420, g0_421, g0_424, g0_427, g0_428, mx_isr_ref, mx_wt_nil, mx_wt_1, mx_wt_2, p1_i1.1, p1_i1.2, p1_i2.1, p1_i2.2, p1_i3.1, p1_i3.2, p1_i4.1, p1_i4.2, Nat.reduceLT, Option.bind_some, Option.toList_some, List.cons_append, List.nil_append, if_true, f1, f7, f8, g1, g7, g8, f11, g11, s1, s2, r1, r2, hc, hm, he]
theorem p1_Kletter : ∀ xs, p1_cl 233 [.ref 63, .int (xs 1), .int (xs 2)] (0) xs = true := mx_eps (fun xs => p1_cl 233 [.ref 63, .int (xs 1), .int (xs 2)] (0) xs = true) (by decide +kernel)
theorem p1_Cletter (xs : Nat → Int32) : ∃ h2, mx_G 31 0 388 p1_l0 [] (p1_h xs) = some (some (.int 1), h2) ∧ h2.length ≤ 1000 ∧ mx_tot h2 ≤ 10000 := by
  obtain ⟨h1, hc, F, k⟩ := p1_cls (p1_Kletter xs)
  have hc : mx_G 30 233 0 [some (.ref 63), some (.int (xs 1)), some (.int (xs 2)), none] [] (p1_h xs) = some (some (.int (0)), h1) := hc
  obtain ⟨f1, -, -, -, -, -, f7, f8, f9, f10, f11, f12⟩ := p1_Fs F
  obtain ⟨g1, -, -, -, -, -, g7, g8, g9, g10, g11, g12⟩ := p1_Fs (p1_hF xs)
  obtain ⟨s0, s1, s2, s3, s4⟩ := p1_sc (p1_hk xs)
  obtain ⟨r0, r1, r2, r3, r4⟩ := p1_sc k
  have hm : mx_G 30 338 0 [some (.ref 76), some (.int (xs 1)), some (.int (xs 2)), none] [] h1 = some (some (.int (0)), h1) := p1_letter (d := 28) F (xs 1) (xs 2)
  have he := p1_end (d := 31) (h := h1) f7 f8
  unfold p1_l0 at he
  refine ⟨h1, ?_, f9, f10⟩
  rw [show (31 : Nat) = 30 + 1 from rfl] at he ⊢
  simp only [p1_l0, g0_0, g0_3, g0_4, g0_7, g0_8, g0_11, g0_12, g0_15, g0_16, g0_17, g0_18, g0_19, g0_20, g0_21, g0_22, g0_23, g0_26, g0_27, g0_28, g0_29, g0_31, g0_32_0, g0_32_1, g0_32_2, g0_32_3, g0_32_4, g0_32_5, g0_32_6, g0_32_7, g0_32_8, g0_32_9, g0_32_10, g0_32d, g0_92, g0_93, g0_94, g0_95, g0_96, g0_97, g0_98, g0_99, g0_100, g0_101, g0_102, g0_103, g0_106, g0_107, g0_108, g0_109, g0_110, g0_111, g0_112, g0_113, g0_114, g0_115, g0_116, g0_117, g0_120, g0_123, g0_124, g0_125, g0_126, g0_129, g0_130, g0_133, g0_136, g0_137, g0_138, g0_139, g0_140, g0_141, g0_142, g0_143, g0_144, g0_145, g0_146, g0_147, g0_148, g0_149, g0_152, g0_153, g0_154, g0_155, g0_156, g0_157, g0_158, g0_159, g0_160, g0_161, g0_162, g0_163, g0_166, g0_169, g0_170, g0_171, g0_172, g0_173, g0_174, g0_175, g0_176, g0_177, g0_178, g0_179, g0_180, g0_181, g0_182, g0_185, g0_186, g0_187, g0_188, g0_189, g0_190, g0_191, g0_192, g0_193, g0_194, g0_195, g0_196, g0_199, g0_202, g0_203, g0_204, g0_205, g0_206, g0_207, g0_208, g0_209, g0_210, g0_211, g0_212, g0_213, g0_214, g0_215, g0_218, g0_219, g0_220, g0_221, g0_222, g0_223, g0_224, g0_225, g0_226, g0_227, g0_228, g0_229, g0_232, g0_235, g0_236, g0_237, g0_238, g0_239, g0_240, g0_241, g0_242, g0_243, g0_244, g0_245, g0_246, g0_247, g0_248, g0_251, g0_252, g0_255, g0_256, g0_257, g0_258, g0_259, g0_260, g0_261, g0_262, g0_263, g0_264, g0_265, g0_266, g0_269, g0_270, g0_271, g0_272, g0_273, g0_274, g0_275, g0_276, g0_277, g0_278, g0_279, g0_280, g0_283, g0_284, g0_287, g0_288, g0_289, g0_290, g0_291, g0_292, g0_293, g0_294, g0_295, g0_296, g0_297, g0_298, g0_301, g0_304, g0_305, g0_306, g0_307, g0_308, g0_309, g0_310, g0_311, g0_312, g0_315, g0_316, g0_317, g0_318, g0_319, g0_320, g0_321, g0_324, g0_327, g0_328, g0_329, g0_330, g0_333, g0_334, g0_337, g0_340, g0_341, g0_342, g0_343, g0_344, g0_345, g0_346, g0_347, g0_348, g0_351, g0_352, g0_353, g0_354, g0_355, g0_356, g0_357, g0_360, g0_363, g0_364, g0_365, g0_366, g0_367, g0_368, g0_369, g0_370, g0_371, g0_374, g0_375, g0_376, g0_377, g0_378, g0_379, g0_380, g0_383, g0_386, g0_387, g0_388, g0_389, g0_390, g0_391, g0_392, g0_393, g0_394, g0_395, g0_396, g0_397, g0_398, g0_399, g0_402, g0_403, g0_404, g0_405, g0_406, g0_407, g0_408, g0_409, g0_410, g0_411, g0_412, g0_413, g0_416, g0_419, g0_420, g0_421, g0_424, g0_427, g0_428, mx_isr_ref, mx_wt_nil, mx_wt_1, mx_wt_2, p1_i1.1, p1_i1.2, p1_i2.1, p1_i2.2, p1_i3.1, p1_i3.2, p1_i4.1, p1_i4.2, Nat.reduceLT, Option.bind_some, Option.toList_some, List.cons_append, List.nil_append, if_true, f1, f7, f8, g1, g7, g8, f11, g11, s1, s2, r1, r2, hc, hm, he]
def p1_kcreate (xs : Nat → Int32) : Bool := match mx_run 9000 31 0 125 p1_l0 [] (p1_h xs) with
  | some (some (.int v), h1) => decide (v = 1) && (decide (h1.length ≤ 1000) && decide (mx_tot h1 ≤ 10000))
  | _ => false
theorem p1_Kcreate : ∀ xs, p1_kcreate xs = true := mx_eps (fun xs => p1_kcreate xs = true) (by decide +kernel)
theorem p1_Ccreate (xs : Nat → Int32) : ∃ h2, mx_G 31 0 125 p1_l0 [] (p1_h xs) = some (some (.int 1), h2) ∧ h2.length ≤ 1000 ∧ mx_tot h2 ≤ 10000 := by
  have hc := p1_Kcreate xs
  unfold p1_kcreate at hc
  split at hc
  · rename_i v h1 hr
    simp only [Bool.and_eq_true, decide_eq_true_eq] at hc
    exact ⟨h1, by rw [mx_G_of hr, hc.1], hc.2⟩
  · cases hc
def p1_kresources (xs : Nat → Int32) : Bool := match mx_run 9000 31 0 329 p1_l0 [] (p1_h xs) with
  | some (some (.int v), h1) => decide (v = 1) && (decide (h1.length ≤ 1000) && decide (mx_tot h1 ≤ 10000))
  | _ => false
theorem p1_Kresources : ∀ xs, p1_kresources xs = true := mx_eps (fun xs => p1_kresources xs = true) (by decide +kernel)
theorem p1_Cresources (xs : Nat → Int32) : ∃ h2, mx_G 31 0 329 p1_l0 [] (p1_h xs) = some (some (.int 1), h2) ∧ h2.length ≤ 1000 ∧ mx_tot h2 ≤ 10000 := by
  have hc := p1_Kresources xs
  unfold p1_kresources at hc
  split at hc
  · rename_i v h1 hr
    simp only [Bool.and_eq_true, decide_eq_true_eq] at hc
    exact ⟨h1, by rw [mx_G_of hr, hc.1], hc.2⟩
  · cases hc
end
