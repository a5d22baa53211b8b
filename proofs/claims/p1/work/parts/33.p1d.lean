section
variable {d : Nat} {h : mx_H} {xs : Nat → Int32}
def p1_X (h : mx_H) : Bool := p1_F h && (decide (mx_ln h 63 = 7) && (decide (mx_el h 63 0 = .ref 64) && (decide (mx_el h 63 1 = .ref 71) && (decide (mx_el h 63 2 = .ref 72) && (decide (mx_el h 63 5 = .int 0) && (decide (mx_tag h 64 = some (.inl 1)) && (decide (mx_tag h 71 = some (.inl 3)) && (decide (mx_tag h 72 = some (.inl 3)) && (decide (mx_el h 76 4 = .int 0) && (decide (mx_el h 76 34 = .int 0) && (decide (mx_tag h 4 = some (.inr .int)) && decide (mx_ln h 4 = 5))))))))))))
theorem p1_Xs (X : p1_X h = true) : p1_F h = true ∧ mx_ln h 63 = 7 ∧ mx_el h 63 0 = .ref 64 ∧ mx_el h 63 1 = .ref 71 ∧ mx_el h 63 2 = .ref 72 ∧ mx_el h 63 5 = .int 0 ∧ mx_tag h 64 = some (.inl 1) ∧ mx_tag h 71 = some (.inl 3) ∧ mx_tag h 72 = some (.inl 3) ∧ mx_el h 76 4 = .int 0 ∧ mx_el h 76 34 = .int 0 ∧ mx_tag h 4 = some (.inr .int) ∧ mx_ln h 4 = 5 := by
  unfold p1_X at X
  simp only [Bool.and_eq_true, decide_eq_true_eq] at X
  exact X
def p1_nx (d mi : Nat) (as : List Value) (h : mx_H) : mx_H := match mx_run 4000 d mi 0 (mx_ent mi as) [] h with
  | some q => q.2
  | none => []
def p1_ck (d mi : Nat) (as : List Value) (h : mx_H) (rv : Option Value) : Bool := match mx_run 4000 d mi 0 (mx_ent mi as) [] h with
  | some q => decide (q.1 = rv) && p1_X q.2
  | none => false
theorem p1_nxs {d mi : Nat} {as : List Value} {h : mx_H} {rv : Option Value} (hc : p1_ck d mi as h rv = true) : mx_G d mi 0 (mx_ent mi as) [] h = some (rv, p1_nx d mi as h) ∧ p1_X (p1_nx d mi as h) = true ∧ mx_keep h (p1_nx d mi as h) := by
  unfold p1_ck at hc
  unfold p1_nx
  split at hc
  · rename_i q hr
    simp only [Bool.and_eq_true, decide_eq_true_eq] at hc
    obtain ⟨a, b⟩ := q
    dsimp only at hc ⊢
    rw [← hc.1]
    exact ⟨mx_G_of hr, hc.2, mx_run_keep _ _ _ _ _ _ _ _ _ hr⟩
  · cases hc
theorem p1_hX : ∀ xs, p1_X (p1_h xs) = true := mx_eps (fun xs => p1_X (p1_h xs) = true) (by decide +kernel)
-- page
theorem p1_pageC (X : p1_X h = true) (k : Int32) : mx_G d 209 0 [some (.ref 63), some (.int k)] [] h = some (some (.int (-404)), h) := by
  obtain ⟨F, f2, f3, f4, f5, f6, -⟩ := p1_Xs X
  obtain ⟨-, -, -, -, -, -, -, -, -, -, f11, -⟩ := p1_Fs F
  by_cases hk : k < 0
  · simp only [g209_0, g209_1, hk, if_true, g209_21, g209_24]
  · have hk2 : (0 : Int32) ≤ k := by simpa using hk
    simp only [g209_0, g209_1, hk, if_false, g209_4, g209_5, mx_isr_ref, g209_6, f11, f2, f6, mx_kn_int, Nat.reduceLT, g209_9, hk2, if_true, g209_21, g209_24]
theorem p1_pageM (X : p1_X h = true) (k : Int32) : mx_G d 327 0 [some (.ref 76), some (.int k)] [] h = some (some (.int (-404)), h) := by
  obtain ⟨F, -, -, -, -, -, -, -, -, -, f11, -⟩ := p1_Xs X
  obtain ⟨f1, f2, -⟩ := p1_Fs F
  by_cases hk : k < 0
  · simp only [g327_0, g327_1, g327_4, g327_5, g327_6, g327_9, g327_12, g327_13, g327_16, g327_17, g327_18, g327_21, g327_24, hk, if_true]
  · have hk2 : (0 : Int32) ≤ k := by simpa using hk
    simp only [g327_0, g327_1, g327_4, g327_5, g327_6, g327_9, g327_12, g327_13, g327_16, g327_17, g327_18, g327_21, g327_24, hk, if_false, mx_isr_ref, f1, f2, f11, mx_kn_int, Nat.reduceLT, hk2, if_true]
theorem p1_Cpage (xs : Nat → Int32) : ∃ h2, mx_G 31 0 306 p1_l0 [] (p1_h xs) = some (some (.int 1), h2) ∧ h2.length ≤ 1000 ∧ mx_tot h2 ≤ 10000 := by
  have X := p1_hX xs
  obtain ⟨f1, -, -, -, -, -, f7, f8, f9, f10, f11, f12⟩ := p1_Fs (p1_Xs X).1
  obtain ⟨s0, s1, s2, s3, s4⟩ := p1_sc (p1_hk xs)
  have he := p1_end (d := 31) (h := p1_h xs) f7 f8
  unfold p1_l0 at he
  refine ⟨p1_h xs, ?_, f9, f10⟩
  rw [show (31 : Nat) = 30 + 1 from rfl] at he ⊢
  simp only [p1_l0, g0_0, g0_3, g0_4, g0_7, g0_8, g0_11, g0_12, g0_15, g0_16, g0_17, g0_18, g0_19, g0_20, g0_21, g0_22, g0_23, g0_26, g0_27, g0_28, g0_29, g0_31, g0_32_0, g0_32_1, g0_32_2, g0_32_3, g0_32_4, g0_32_5, g0_32_6, g0_32_7, g0_32_8, g0_32_9, g0_32_10, g0_32d, g0_92, g0_93, g0_94, g0_95, g0_96, g0_97, g0_98, g0_99, g0_100, g0_101, g0_102, g0_103, g0_106, g0_107, g0_108, g0_109, g0_110, g0_111, g0_112, g0_113, g0_114, g0_115, g0_116, g0_117, g0_120, g0_123, g0_124, g0_125, g0_126, g0_129, g0_130, g0_133, g0_136, g0_137, g0_138, g0_139, g0_140, g0_141, g0_142, g0_143, g0_144, g0_145, g0_146, g0_147, g0_148, g0_149, g0_152, g0_153, g0_154, g0_155, g0_156, g0_157, g0_158, g0_159, g0_160, g0_161, g0_162, g0_163, g0_166, g0_169, g0_170, g0_171, g0_172, g0_173, g0_174, g0_175, g0_176, g0_177, g0_178, g0_179, g0_180, g0_181, g0_182, g0_185, g0_186, g0_187, g0_188, g0_189, g0_190, g0_191, g0_192, g0_193, g0_194, g0_195, g0_196, g0_199, g0_202, g0_203, g0_204, g0_205, g0_206, g0_207, g0_208, g0_209, g0_210, g0_211, g0_212, g0_213, g0_214, g0_215, g0_218, g0_219, g0_220, g0_221, g0_222, g0_223, g0_224, g0_225, g0_226, g0_227, g0_228, g0_229, g0_232, g0_235, g0_236, g0_237, g0_238, g0_239, g0_240, g0_241, g0_242, g0_243, g0_244, g0_245, g0_246, g0_247, g0_248, g0_251, g0_252, g0_255, g0_256, g0_257, g0_258, g0_259, g0_260, g0_261, g0_262, g0_263, g0_264, g0_265, g0_266, g0_269, g0_270, g0_271, g0_272, g0_273, g0_274, g0_275, g0_276, g0_277, g0_278, g0_279, g0_280, g0_283, g0_284, g0_287, g0_288, g0_289, g0_290, g0_291, g0_292, g0_293, g0_294, g0_295, g0_296, g0_297, g0_298, g0_301, g0_304, g0_305, g0_306, g0_307, g0_308, g0_309, g0_310, g0_311, g0_312, g0_315, g0_316, g0_317, g0_318, g0_319, g0_320, g0_321, g0_324, g0_327, g0_328, g0_329, g0_330, g0_333, g0_334, g0_337, g0_340, g0_341, g0_342, g0_343, g0_344, g0_345, g0_346, g0_347, g0_348, g0_351, g0_352, g0_353, g0_354, g0_355, g0_356, g0_357, g0_360, g0_363, g0_364, g0_365, g0_366, g0_367, g0_368, g0_369, g0_370, g0_371, g0_374, g0_375, g0_376, g0_377, g0_378, g0_379, g0_380, g0_383, g0_386, g0_387, g0_388, g0_389, g0_390, g0_391, g0_392, g0_393, g0_394, g0_395, g0_396, g0_397, g0_398, g0_399, g0_402, g0_403, g0_404, g0_405, g0_406, g0_407, g0_408, g0_409, g0_410, g0_411, g0_412, g0_413, g0_416, g0_419, g0_420, g0_421, g0_424, g0_427, g0_428, mx_isr_ref, mx_wt_nil, mx_wt_1, mx_wt_2, p1_i1.1, p1_i1.2, Nat.reduceLT, Option.bind_some, Option.toList_some, List.cons_append, List.nil_append, if_true, f1, f7, f8, f11, s1, p1_pageC X, p1_pageM X, he]
-- query
def p1_qA (xs : Nat → Int32) : mx_H := p1_nx 29 17 [.ref 64] (p1_h xs)
def p1_qB (xs : Nat → Int32) : mx_H := p1_nx 29 49 [.ref 64, .int 0] (p1_qA xs)
def p1_qC (xs : Nat → Int32) : mx_H := p1_nx 29 49 [.ref 64, .int 0] (p1_qB xs)
def p1_qD (xs : Nat → Int32) : mx_H := p1_nx 29 118 [.ref 64] (p1_qC xs)
def p1_qE (xs : Nat → Int32) : mx_H := p1_nx 29 197 [.ref 72] (p1_qD xs)
def p1_qF (xs : Nat → Int32) : mx_H := p1_nx 29 138 [.ref 71] (p1_qE xs)
def p1_qG (xs : Nat → Int32) : mx_H := p1_nx 28 138 [.ref 72] (mx_up (p1_qF xs) 63 5 (.int 0))
def p1_qH (xs : Nat → Int32) : mx_H := p1_nx 29 138 [.ref 72] (p1_qG xs)
theorem p1_kA : ∀ xs, p1_ck 29 17 [.ref 64] (p1_h xs) none = true := mx_eps (fun xs => p1_ck 29 17 [.ref 64] (p1_h xs) none = true) (by decide +kernel)
theorem p1_kB : ∀ xs, p1_ck 29 49 [.ref 64, .int 0] (p1_qA xs) (some (.int 1)) = true := mx_eps (fun xs => p1_ck 29 49 [.ref 64, .int 0] (p1_qA xs) (some (.int 1)) = true) (by decide +kernel)
theorem p1_kC : ∀ xs, p1_ck 29 49 [.ref 64, .int 0] (p1_qB xs) (some (.int 1)) = true := mx_eps (fun xs => p1_ck 29 49 [.ref 64, .int 0] (p1_qB xs) (some (.int 1)) = true) (by decide +kernel)
theorem p1_kD : ∀ xs, p1_ck 29 118 [.ref 64] (p1_qC xs) none = true := mx_eps (fun xs => p1_ck 29 118 [.ref 64] (p1_qC xs) none = true) (by decide +kernel)
theorem p1_kE : ∀ xs, p1_ck 29 197 [.ref 72] (p1_qD xs) none = true := mx_eps (fun xs => p1_ck 29 197 [.ref 72] (p1_qD xs) none = true) (by decide +kernel)
theorem p1_kF : ∀ xs, p1_ck 29 138 [.ref 71] (p1_qE xs) (some (.int 0)) = true := mx_eps (fun xs => p1_ck 29 138 [.ref 71] (p1_qE xs) (some (.int 0)) = true) (by decide +kernel)
theorem p1_kG : ∀ xs, p1_ck 28 138 [.ref 72] (mx_up (p1_qF xs) 63 5 (.int 0)) (some (.int 0)) = true := mx_eps (fun xs => p1_ck 28 138 [.ref 72] (mx_up (p1_qF xs) 63 5 (.int 0)) (some (.int 0)) = true) (by decide +kernel)
theorem p1_kH : ∀ xs, p1_ck 29 138 [.ref 72] (p1_qG xs) (some (.int 0)) = true := mx_eps (fun xs => p1_ck 29 138 [.ref 72] (p1_qG xs) (some (.int 0)) = true) (by decide +kernel)
def p1_mA (h : mx_H) : mx_H := p1_nx 28 240 [.ref 76] (mx_up h 76 12 (.int 0))
theorem p1_lD : ∀ xs, p1_ck 28 240 [.ref 76] (mx_up (p1_qD xs) 76 12 (.int 0)) (some (.int 1)) = true := mx_eps (fun xs => p1_ck 28 240 [.ref 76] (mx_up (p1_qD xs) 76 12 (.int 0)) (some (.int 1)) = true) (by decide +kernel)
theorem p1_lH : ∀ xs, p1_ck 28 240 [.ref 76] (mx_up (p1_qH xs) 76 12 (.int 0)) (some (.int 1)) = true := mx_eps (fun xs => p1_ck 28 240 [.ref 76] (mx_up (p1_qH xs) 76 12 (.int 0)) (some (.int 1)) = true) (by decide +kernel)
theorem p1_max (x : Int32) : ∃ m : Int32, mx_G d 27 0 [some (.int x), some (.int 1)] [] h = some (some (.int m), h) ∧ (0 : Int32) ≤ m - 1 := by
  by_cases e : x < 1
  · have e2 : ¬ (1 : Int32) ≤ x := by simpa using e
    exact ⟨1, by simp only [g27_0, g27_1, g27_2, g27_5, g27_6, g27_9, g27_10, e, if_true], by decide⟩
  · have e2 : (1 : Int32) ≤ x := by simpa using e
    refine ⟨x, by simp only [g27_0, g27_1, g27_2, g27_5, g27_6, g27_9, g27_10, e, if_false], ?_⟩
    rw [Int32.le_iff_toInt_le] at e2 ⊢
    have h1 := Int32.toInt_lt x
    simp only [Int32.toInt_sub] at *
    have e3 : (1 : Int32).toInt = 1 := by decide
    have e4 : (0 : Int32).toInt = 0 := by decide
    rw [e3] at e2
    rw [e4, e3, Int.bmod_eq_of_le (by omega) (by omega)]
    omega
theorem p1_turn (xs : Nat → Int32) (y z : Int32) : mx_G 29 208 0 [some (.ref 63), some (.int y), some (.int z), none] [] (p1_qF xs) = some (none, p1_qG xs) := by
  obtain ⟨-, XF, -⟩ := p1_nxs (p1_kF xs)
  obtain ⟨cG, XG, -⟩ := p1_nxs (p1_kG xs)
  have cG : mx_G 28 138 0 [some (.ref 72)] [] (mx_up (p1_qF xs) 63 5 (.int 0)) = some (some (.int 0), p1_qG xs) := cG
  obtain ⟨F, f2, f3, f4, f5, f6, f7, f8, f9, f10, -⟩ := p1_Xs (h := p1_qF xs) XF
  obtain ⟨f1, -, -, -, -, -, -, -, -, -, f11, f12⟩ := p1_Fs F
  obtain ⟨m, hm, hm1⟩ := p1_max (d := 28) (h := mx_up (p1_qF xs) 63 5 (.int 0)) y
  have e5 : mx_el (mx_up (p1_qF xs) 63 5 (.int 0)) 63 2 = .ref 72 := by rw [mx_el_up]; simp [f5]
  rw [show (29 : Nat) = 28 + 1 from rfl]
  simp only [g208_0, g208_1, g208_2, g208_5, g208_6, g208_7, hm, g208_10, g208_11, g208_12, g208_13, g208_14, g208_15, g208_18, cG, g208_21, hm1, g208_74, mx_isr_ref, f11, show mt_nO ≤ 63 by decide, mx_wt_nil, mx_wt_1, Option.bind_some, Option.toList_some, List.cons_append, List.nil_append, mx_nl_int, mx_tag_up, mx_ln_up, f2, e5, mx_kn_ref, Nat.reduceLT, f9, if_true]
end
