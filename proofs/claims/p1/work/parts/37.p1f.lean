section
variable {d : Nat} {h : mx_H} {xs : Nat → Int32}
theorem ps_app_keep (w : Int32) : ∀ k u h, (∀ a, mx_tag (ps_app w k u h) a = mx_tag h a) ∧ (∀ a, mx_ln (ps_app w k u h) a = mx_ln h a) ∧ (ps_app w k u h).length = h.length ∧ mx_tot (ps_app w k u h) = mx_tot h ∧ ∀ a j, a ≠ 64 → a ≠ 65 → mx_el (ps_app w k u h) a j = mx_el h a j := by
  intro k
  induction k with
  | zero => intro u h; exact ⟨fun _ => rfl, fun _ => rfl, rfl, rfl, fun _ _ _ _ => rfl⟩
  | succ k ih =>
    intro u h
    obtain ⟨i1, i2, i3, i4, i5⟩ := ih (u + 1) (mx_up (mx_up h 65 u (.int (mb w k))) 64 5 (.int (nI (u + 1))))
    unfold ps_app
    refine ⟨fun a => ?_, fun a => ?_, ?_, ?_, fun a j h1 h2 => ?_⟩
    · rw [i1, mx_tag_up, mx_tag_up]
    · rw [i2, mx_ln_up, mx_ln_up]
    · rw [i3, mx_len_up, mx_len_up]
    · rw [i4, mx_tot_up, mx_tot_up]
    · rw [i5 a j h1 h2, mx_el_up, mx_el_up]
      simp [h1, h2]
theorem rm_app_keep (w : Int32) : ∀ k u h, (∀ a, mx_tag (rm_app w k u h) a = mx_tag h a) ∧ (∀ a, mx_ln (rm_app w k u h) a = mx_ln h a) ∧ (rm_app w k u h).length = h.length ∧ mx_tot (rm_app w k u h) = mx_tot h ∧ ∀ a j, a ≠ 76 → a ≠ 78 → mx_el (rm_app w k u h) a j = mx_el h a j := by
  intro k
  induction k with
  | zero => intro u h; exact ⟨fun _ => rfl, fun _ => rfl, rfl, rfl, fun _ _ _ _ => rfl⟩
  | succ k ih =>
    intro u h
    obtain ⟨i1, i2, i3, i4, i5⟩ := ih (u + 1) (mx_up (mx_up h 78 u (.int (mb w k))) 76 3 (.int (nI (u + 1))))
    unfold rm_app
    refine ⟨fun a => ?_, fun a => ?_, ?_, ?_, fun a j h1 h2 => ?_⟩
    · rw [i1, mx_tag_up, mx_tag_up]
    · rw [i2, mx_ln_up, mx_ln_up]
    · rw [i3, mx_len_up, mx_len_up]
    · rw [i4, mx_tot_up, mx_tot_up]
    · rw [i5 a j h1 h2, mx_el_up, mx_el_up]
      simp [h1, h2]
def p1_BB (h : mx_H) : Bool := decide (mx_tag h 63 = some (.inl 0)) && (decide (mx_ln h 63 = 7) && (decide (mx_el h 63 0 = .ref 64) && (decide (mx_tag h 64 = some (.inl 1)) && (decide (mx_ln h 64 = 8) && (decide (mx_el h 64 0 = .ref 65) && (decide (mx_el h 64 5 = .int (nI 0)) && (decide (mx_tag h 65 = some (.inr .char)) && (decide (mx_ln h 65 = 120) && (decide (mx_tag h 76 = some (.inl 11)) && (decide (mx_ln h 76 = 40) && (decide (mx_el h 76 2 = .ref 78) && (decide (mx_el h 76 3 = .int (nI 0)) && (decide (mx_tag h 78 = some (.inr .char)) && decide (mx_ln h 78 = 120))))))))))))))
theorem p1_hB : ∀ xs, p1_BB (p1_h xs) = true := mx_eps (fun xs => p1_BB (p1_h xs) = true) (by decide +kernel)
theorem p1_Cput (xs : Nat → Int32) : ∃ h2, mx_G 31 0 92 p1_l0 [] (p1_h xs) = some (some (.int 1), h2) ∧ h2.length ≤ 1000 ∧ mx_tot h2 ≤ 10000 := by
  have X := p1_hX xs
  have hb := p1_hB xs
  unfold p1_BB at hb
  simp only [Bool.and_eq_true, decide_eq_true_eq] at hb
  obtain ⟨a1, a2, a3, a4, a5, a6, a7, a8, a9, c1, c2, c3, c4, c5, c6⟩ := hb
  have B : ps_B (p1_h xs) 0 := ⟨a1, a2, a3, a4, a5, a6, a7, a8, a9⟩
  have M : rm_B (p1_h xs) 0 := ⟨c1, c2, c3, c4, c5, c6⟩
  obtain ⟨f1, -, -, -, -, -, f7, f8, f9, f10, f11, f12⟩ := p1_Fs (p1_Xs X).1
  obtain ⟨s0, s1, s2, s3, s4⟩ := p1_sc (p1_hk xs)
  have hc := ps_put (d := 28) B (by omega) (xs 1) (xs 2)
  rw [show (28 + 2 : Nat) = 30 from rfl] at hc
  by_cases e : xs 2 < 1 ∨ 4 < xs 2 ∨ 120 < 0 + (xs 2).toNatClampNeg ∨ (List.range (xs 2).toNatClampNeg).all (fun p => mb_ok (mb (xs 1) p)) = false
  · have hm := rm_put (d := 30) M (by omega) (xs 1) (xs 2)
    rw [if_pos e] at hc hm
    have he := p1_end (d := 31) (h := p1_h xs) f7 f8
    unfold p1_l0 at he
    refine ⟨p1_h xs, ?_, f9, f10⟩
    rw [show (31 : Nat) = 30 + 1 from rfl] at he ⊢
    simp only [p1_l0, g0_0, g0_3, g0_4, g0_7, g0_8, g0_11, g0_12, g0_15, g0_16, g0_17, g0_18, g0_19, g0_20, g0_21, g0_22, g0_23, g0_26, g0_27, g0_28, g0_29, g0_31, g0_32_0, g0_32_1, g0_32_2, g0_32_3, g0_32_4, g0_32_5, g0_32_6, g0_32_7, g0_32_8, g0_32_9, g0_32_10, g0_32d, g0_92, g0_93, g0_94, g0_95, g0_96, g0_97, g0_98, g0_99, g0_100, g0_101, g0_102, g0_103, g0_106, g0_107, g0_108, g0_109, g0_110, g0_111, g0_112, g0_113, g0_114, g0_115, g0_116, g0_117, g0_120, g0_123, g0_124, g0_125, g0_126, g0_129, g0_130, g0_133, g0_136, g0_137, g0_138, g0_139, g0_140, g0_141, g0_142, g0_143, g0_144, g0_145, g0_146, g0_147, g0_148, g0_149, g0_152, g0_153, g0_154, g0_155, g0_156, g0_157, g0_158, g0_159, g0_160, g0_161, g0_162, g0_163, g0_166, g0_169, g0_170, g0_171, g0_172, g0_173, g0_174, g0_175, g0_176, g0_177, g0_178, g0_179, g0_180, g0_181, g0_182, g0_185, g0_186, g0_187, g0_188, g0_189, g0_190, g0_191, g0_192, g0_193, g0_194, g0_195, g0_196, g0_199, g0_202, g0_203, g0_204, g0_205, g0_206, g0_207, g0_208, g0_209, g0_210, g0_211, g0_212, g0_213, g0_214, g0_215, g0_218, g0_219, g0_220, g0_221, g0_222, g0_223, g0_224, g0_225, g0_226, g0_227, g0_228, g0_229, g0_232, g0_235, g0_236, g0_237, g0_238, g0_239, g0_240, g0_241, g0_242, g0_243, g0_244, g0_245, g0_246, g0_247, g0_248, g0_251, g0_252, g0_255, g0_256, g0_257, g0_258, g0_259, g0_260, g0_261, g0_262, g0_263, g0_264, g0_265, g0_266, g0_269, g0_270, g0_271, g0_272, g0_273, g0_274, g0_275, g0_276, g0_277, g0_278, g0_279, g0_280, g0_283, g0_284, g0_287, g0_288, g0_289, g0_290, g0_291, g0_292, g0_293, g0_294, g0_295, g0_296, g0_297, g0_298, g0_301, g0_304, g0_305, g0_306, g0_307, g0_308, g0_309, g0_310, g0_311, g0_312, g0_315, g0_316, g0_317, g0_318, g0_319, g0_320, g0_321, g0_324, g0_327, g0_328, g0_329, g0_330, g0_333, g0_334, g0_337, g0_340, g0_341, g0_342, g0_343, g0_344, g0_345, g0_346, g0_347, g0_348, g0_351, g0_352, g0_353, g0_354, g0_355, g0_356, g0_357, g0_360, g0_363, g0_364, g0_365, g0_366, g0_367, g0_368, g0_369, g0_370, g0_371, g0_374, g0_375, g0_376, g0_377, g0_378, g0_379, g0_380, g0_383, g0_386, g0_387, g0_388, g0_389, g0_390, g0_391, g0_392, g0_393, g0_394, g0_395, g0_396, g0_397, g0_398, g0_399, g0_402, g0_403, g0_404, g0_405, g0_406, g0_407, g0_408, g0_409, g0_410, g0_411, g0_412, g0_413, g0_416, g0_419, g0_420, g0_421, g0_424, g0_427, g0_428, mx_isr_ref, mx_wt_nil, mx_wt_1, mx_wt_2, p1_i1.1, p1_i1.2, p1_i2.1, p1_i2.2, Nat.reduceLT, Option.bind_some, Option.toList_some, List.cons_append, List.nil_append, if_true, f1, f7, f8, f11, s1, s2, hc, hm, he]
  · rw [if_neg e] at hc
    generalize hh : ps_app (xs 1) (xs 2).toNatClampNeg 0 (p1_h xs) = h1 at hc
    obtain ⟨k1, k2, k3, k4, k5⟩ := ps_app_keep (xs 1) (xs 2).toNatClampNeg 0 (p1_h xs)
    rw [hh] at k1 k2 k3 k4 k5
    have M1 : rm_B h1 0 := ⟨by rw [k1]; exact c1, by rw [k2]; exact c2, by rw [k5 _ _ (by decide) (by decide)]; exact c3, by rw [k5 _ _ (by decide) (by decide)]; exact c4, by rw [k1]; exact c5, by rw [k2]; exact c6⟩
    have hm := rm_put (d := 30) M1 (by omega) (xs 1) (xs 2)
    rw [if_neg e] at hm
    generalize hh2 : rm_app (xs 1) (xs 2).toNatClampNeg 0 h1 = h2 at hm
    obtain ⟨m1, m2, m3, m4, m5⟩ := rm_app_keep (xs 1) (xs 2).toNatClampNeg 0 h1
    rw [hh2] at m1 m2 m3 m4 m5
    have t0 : mx_tag h1 0 = some (.inr .int) := by rw [k1]; exact f7
    have l0 : mx_ln h1 0 = 5 := by rw [k2]; exact f8
    have r1 : mx_el h1 0 1 = .int (xs 1) := by rw [k5 _ _ (by decide) (by decide)]; exact s1
    have r2 : mx_el h1 0 2 = .int (xs 2) := by rw [k5 _ _ (by decide) (by decide)]; exact s2
    have t76 : mx_tag h1 76 = some (.inl 11) := M1.1
    have he := p1_end (d := 31) (h := h2) (by rw [m1]; exact t0) (by rw [m2]; exact l0)
    unfold p1_l0 at he
    refine ⟨h2, ?_, by rw [m3, k3]; exact f9, by rw [m4, k4]; exact f10⟩
    rw [show (31 : Nat) = 30 + 1 from rfl] at he ⊢
    simp only [p1_l0, g0_0, g0_3, g0_4, g0_7, g0_8, g0_11, g0_12, g0_15, g0_16, g0_17, g0_18, g0_19, g0_20, g0_21, g0_22, g0_23, g0_26, g0_27, g0_28, g0_29, g0_31, g0_32_0, g0_32_1, g0_32_2, g0_32_3, g0_32_4, g0_32_5, g0_32_6, g0_32_7, g0_32_8, g0_32_9, g0_32_10, g0_32d, g0_92, g0_93, g0_94, g0_95, g0_96, g0_97, g0_98, g0_99, g0_100, g0_101, g0_102, g0_103, g0_106, g0_107, g0_108, g0_109, g0_110, g0_111, g0_112, g0_113, g0_114, g0_115, g0_116, g0_117, g0_120, g0_123, g0_124, g0_125, g0_126, g0_129, g0_130, g0_133, g0_136, g0_137, g0_138, g0_139, g0_140, g0_141, g0_142, g0_143, g0_144, g0_145, g0_146, g0_147, g0_148, g0_149, g0_152, g0_153, g0_154, g0_155, g0_156, g0_157, g0_158, g0_159, g0_160, g0_161, g0_162, g0_163, g0_166, g0_169, g0_170, g0_171, g0_172, g0_173, g0_174, g0_175, g0_176, g0_177, g0_178, g0_179, g0_180, g0_181, g0_182, g0_185, g0_186, g0_187, g0_188, g0_189, g0_190, g0_191, g0_192, g0_193, g0_194, g0_195, g0_196, g0_199, g0_202, g0_203, g0_204, g0_205, g0_206, g0_207, g0_208, g0_209, g0_210, g0_211, g0_212, g0_213, g0_214, g0_215, g0_218, g0_219, g0_220, g0_221, g0_222, g0_223, g0_224, g0_225, g0_226, g0_227, g0_228, g0_229, g0_232, g0_235, g0_236, g0_237, g0_238, g0_239, g0_240, g0_241, g0_242, g0_243, g0_244, g0_245, g0_246, g0_247, g0_248, g0_251, g0_252, g0_255, g0_256, g0_257, g0_258, g0_259, g0_260, g0_261, g0_262, g0_263, g0_264, g0_265, g0_266, g0_269, g0_270, g0_271, g0_272, g0_273, g0_274, g0_275, g0_276, g0_277, g0_278, g0_279, g0_280, g0_283, g0_284, g0_287, g0_288, g0_289, g0_290, g0_291, g0_292, g0_293, g0_294, g0_295, g0_296, g0_297, g0_298, g0_301, g0_304, g0_305, g0_306, g0_307, g0_308, g0_309, g0_310, g0_311, g0_312, g0_315, g0_316, g0_317, g0_318, g0_319, g0_320, g0_321, g0_324, g0_327, g0_328, g0_329, g0_330, g0_333, g0_334, g0_337, g0_340, g0_341, g0_342, g0_343, g0_344, g0_345, g0_346, g0_347, g0_348, g0_351, g0_352, g0_353, g0_354, g0_355, g0_356, g0_357, g0_360, g0_363, g0_364, g0_365, g0_366, g0_367, g0_368, g0_369, g0_370, g0_371, g0_374, g0_375, g0_376, g0_377, g0_378, g0_379, g0_380, g0_383, g0_386, g0_387, g0_388, g0_389, g0_390, g0_391, g0_392, g0_393, g0_394, g0_395, g0_396, g0_397, g0_398, g0_399, g0_402, g0_403, g0_404, g0_405, g0_406, g0_407, g0_408, g0_409, g0_410, g0_411, g0_412, g0_413, g0_416, g0_419, g0_420, g0_421, g0_424, g0_427, g0_428, mx_isr_ref, mx_wt_nil, mx_wt_1, mx_wt_2, p1_i1.1, p1_i1.2, p1_i2.1, p1_i2.2, Nat.reduceLT, Option.bind_some, Option.toList_some, List.cons_append, List.nil_append, if_true, f1, f7, f8, f11, s1, s2, t0, l0, r1, r2, t76, hc, hm, he]
def mx_chk (n d L : Nat) (xs : Nat → Int32) : Bool := match mx_run n d 0 0 (mx_ent 0 [.ref 0]) [] (mx_olds L xs) with
  | some (some (.int v), h1) => decide (v = 1) && (decide (d ≤ 2048) && (decide (h1.length ≤ mt_nO + 600000) && decide (mx_tot h1 ≤ mx_tot (mx_olds L xs) + 7302249)))
  | _ => false
theorem mx_chk_law {n d L : Nat} {xs : Nat → Int32} (hc : mx_chk n d L xs = true) : mx_law L xs := by
  unfold mx_chk at hc
  split at hc
  · rename_i v h1 hr
    simp only [Bool.and_eq_true, decide_eq_true_eq] at hc
    obtain ⟨e1, e2, e3, e4⟩ := hc
    subst e1
    exact ⟨n, d, h1, hr, e2, e3, e4⟩
  · cases hc
theorem p1_L0 : ∀ xs, mx_chk 2000 20 0 xs = true := mx_eps (fun xs => mx_chk 2000 20 0 xs = true) (by decide +kernel)
theorem p1_L1 : ∀ xs, mx_chk 2000 20 1 xs = true := mx_eps (fun xs => mx_chk 2000 20 1 xs = true) (by decide +kernel)
theorem p1_L2 : ∀ xs, mx_chk 2000 20 2 xs = true := mx_eps (fun xs => mx_chk 2000 20 2 xs = true) (by decide +kernel)
theorem p1_L3 : ∀ xs, mx_chk 2000 20 3 xs = true := mx_eps (fun xs => mx_chk 2000 20 3 xs = true) (by decide +kernel)
theorem p1_L4 : ∀ xs, mx_chk 2000 20 4 xs = true := mx_eps (fun xs => mx_chk 2000 20 4 xs = true) (by decide +kernel)
theorem p1_Cdef (xs : Nat → Int32) : ∃ h2, mx_G 31 0 421 p1_l0 [] (p1_h xs) = some (some (.int 1), h2) ∧ h2.length ≤ 1000 ∧ mx_tot h2 ≤ 10000 := by
  obtain ⟨f1, -, -, -, -, -, f7, f8, f9, f10, f11, f12⟩ := p1_Fs (p1_hF xs)
  exact ⟨p1_h xs, p1_end f7 f8, f9, f10⟩
theorem p1_L5 (xs : Nat → Int32) : mx_law 5 xs := by
  obtain ⟨f1, -, -, -, -, -, f7, f8, f9, f10, f11, f12⟩ := p1_Fs (p1_hF xs)
  obtain ⟨s0, s1, s2, s3, s4⟩ := p1_sc (p1_hk xs)
  have sw : mx_G 31 0 26 p1_l0 [] (p1_h xs) = mx_G 31 0 32 p1_l0 [.int (xs 0 &&& 15)] (p1_h xs) := by
    simp only [p1_l0, g0_26, g0_27, g0_28, g0_29, g0_31, mx_isr_ref, f7, f8, Int32.le_refl, show (0 : Int32).toNatClampNeg = 0 by decide, Nat.reduceLT, s0]
  have fin : ∀ pc, mx_G 31 0 32 p1_l0 [.int (xs 0 &&& 15)] (p1_h xs) = mx_G 31 0 pc p1_l0 [] (p1_h xs) → (∃ h2, mx_G 31 0 pc p1_l0 [] (p1_h xs) = some (some (.int 1), h2) ∧ h2.length ≤ 1000 ∧ mx_tot h2 ≤ 10000) → mx_law 5 xs := by
    rintro pc e ⟨h2, e1, e2, e3⟩
    rw [← e, ← sw, ← p1_first] at e1
    obtain ⟨n, hn⟩ := mx_G_iff.mp e1
    exact ⟨n, 31, h2, hn, by decide, by omega, by omega⟩
  by_cases hx : (xs 0 &&& 15).toInt < 0 ∨ 10 < (xs 0 &&& 15).toInt
  · exact fin 421 (g0_32d hx) (p1_Cdef xs)
  · have h0 : ¬ xs 0 &&& 15 < 0 := by
      rw [Int32.lt_iff_toInt_lt]
      have : (0 : Int32).toInt = 0 := by decide
      omega
    obtain ⟨j, hj, ej⟩ := nI_of h0
    rw [ej, nI_toInt hj] at hx
    have hj10 : j ≤ 10 := by omega
    have hs : j = 0 ∨ j = 1 ∨ j = 2 ∨ j = 3 ∨ j = 4 ∨ j = 5 ∨ j = 6 ∨ j = 7 ∨ j = 8 ∨ j = 9 ∨ j = 10 := by omega
    rw [ej] at fin
    rcases hs with rfl | rfl | rfl | rfl | rfl | rfl | rfl | rfl | rfl | rfl | rfl
    · exact fin 92 g0_32_0 (p1_Cput xs)
    · exact fin 125 g0_32_1 (p1_Ccreate xs)
    · exact fin 138 g0_32_2 (p1_Creplace xs)
    · exact fin 171 g0_32_3 (p1_Cpatch xs)
    · exact fin 204 g0_32_4 (p1_Cremove xs)
    · exact fin 237 g0_32_5 (p1_Cquery xs)
    · exact fin 306 g0_32_6 (p1_Cpage xs)
    · exact fin 329 g0_32_7 (p1_Cresources xs)
    · exact fin 342 g0_32_8 (p1_Cversion xs)
    · exact fin 365 g0_32_9 (p1_Clength xs)
    · exact fin 388 g0_32_10 (p1_Cletter xs)
theorem p1_law {L : Nat} (hL : L ≤ 5) (xs : Nat → Int32) : mx_law L xs := by
  have hs : L = 0 ∨ L = 1 ∨ L = 2 ∨ L = 3 ∨ L = 4 ∨ L = 5 := by omega
  rcases hs with rfl | rfl | rfl | rfl | rfl | rfl
  · exact mx_chk_law (p1_L0 xs)
  · exact mx_chk_law (p1_L1 xs)
  · exact mx_chk_law (p1_L2 xs)
  · exact mx_chk_law (p1_L3 xs)
  · exact mx_chk_law (p1_L4 xs)
  · exact p1_L5 xs
end
