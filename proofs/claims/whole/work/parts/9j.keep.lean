section
variable {d : Nat} {h : mx_H} {ts : List tk}
/-- the place of the first marked -/
def fxN (l : List itf) (n : Nat) : Option Nat := (l.drop n).findIdx? fun x => x.2
def fxk (l : List itf) (n : Nat) : Int32 := match fxN l n with | some j => nI (n + j) | none => -1
theorem drop_xG {l : List itf} {k : Nat} (hk : k < l.length) : l.drop k = xG l k :: l.drop (k + 1) := by
  unfold xG
  rw [List.getD_eq_getElem?_getD, List.getElem?_eq_getElem hk]
  exact List.drop_eq_getElem_cons hk
theorem fxk_s (l : List itf) (n : Nat) : fxk l n = if (xG l n).2 = true then nI n else fxk l (n + 1) := by
  unfold fxk fxN
  by_cases c : n < l.length
  · rw [drop_xG c, List.findIdx?_cons]
    by_cases e : (xG l n).2 = true
    · rw [if_pos e, if_pos e]
      rfl
    · rw [if_neg e, if_neg e]
      cases (l.drop (n + 1)).findIdx? fun x => x.2 with
      | none => rfl
      | some j => show nI (n + (j + 1)) = nI (n + 1 + j); rw [show n + (j + 1) = n + 1 + j by omega]
  · rw [xG_out (by omega), List.drop_eq_nil_of_le (by omega), List.drop_eq_nil_of_le (by omega)]
    rfl
theorem nI_prd2 (n : Nat) : nI (n + 1) + (-1) = nI n := by
  rw [← nI_1, Int32.add_assoc]
  show nI n + (1 + -1) = nI n
  rw [show (1 : Int32) + -1 = 0 by decide, Int32.add_zero]
theorem rm_kpA {l : List itf} (D : dI h l) (T : mr_T h) {a b c e f g : Option Value} (hg : mx_nl g = true) : ∀ n, n ≤ 5 →
    mx_G d 302 156 [some (.ref 76), a, b, c, e, f, g, some (.int (fxk l n)), some (.int (nI n + (-1)))] [] h = mx_G d 302 186 [some (.ref 76), a, b, c, e, f, g, some (.int (fxk l 0)), some (.int (-1))] [] h := by
  intro n
  induction n with
  | zero =>
    intro _
    rw [show nI 0 + (-1) = -1 by decide]
    simp only [r302_156, r302_158, mx_isr_ref, mx_isr_null, mx_wt_nil, mx_wt_1, mx_wt_2, mx_wt_3, Option.bind_some, Option.toList_some, Option.toList_none, List.cons_append, List.nil_append, mx_nl_int, mx_nl_ref, mx_nl_null, mx_nl_none, mx_nb0, mx_nb1, mx_fb0, mx_fb1, mx_cat_int, mx_cat_ref, if_true, if_false, not_true_eq_false, not_false_eq_true, show (-1 : Int32) < 0 by decide]
  | succ n ih =>
    intro hn
    have t1 : (nI n).toNatClampNeg = n := nI_clamp (by omega)
    have t2 : (0 : Int32) ≤ nI n := nI_pos' (by omega)
    have t3 : n < 5 := by omega
    have t4 : ¬ nI n < 0 := nI_pos (by omega)
    have mk := D.2.2.2.2 n t3
    rw [nI_prd2, ← ih (by omega), fxk_s l n]
    by_cases z : (xG l n).2 = true
    · rw [if_pos z] at mk ⊢
      rw [r302_156]
      simp only [r302_158, r302_161, r302_162, r302_165, r302_167, r302_168, r302_171, r302_173, r302_176, r302_178, r302_180, r302_183, mx_isr_ref, mx_isr_null, mx_wt_nil, mx_wt_1, mx_wt_2, mx_wt_3, Option.bind_some, Option.toList_some, Option.toList_none, List.cons_append, List.nil_append, mx_nl_int, mx_nl_ref, mx_nl_null, mx_nl_none, mx_nb0, mx_nb1, mx_fb0, mx_fb1, mx_cat_int, mx_cat_ref, if_true, if_false, not_true_eq_false, not_false_eq_true, T, mr_ty_77, mr_n_77, mr_isI_77, mr_ty_78, mr_n_78, mr_isI_78, mr_ty_79, mr_n_79, mr_isI_79, mr_ty_80, mr_n_80, mr_isI_80, mr_ty_81, mr_n_81, mr_isI_81, mr_ty_82, mr_n_82, mr_isJ_82, mr_ty_83, mr_n_83, mr_isI_83, mr_ty_84, mr_n_84, mr_isI_84, mr_ty_85, mr_n_85, mr_isI_85, mr_ty_86, mr_n_86, mr_isI_86, mr_ty_87, mr_n_87, mr_isI_87, mr_ty_88, mr_n_88, mr_isI_88, mr_ty_89, mr_n_89, mr_isJ_89, mr_ty_90, mr_n_90, mr_isI_90, mr_ty_91, mr_n_91, mr_isI_91, mr_ty_92, mr_n_92, mr_isI_92, mr_ty_93, mr_n_93, mr_isI_93, mr_ty_94, mr_n_94, mr_isI_94, mr_ty_95, mr_n_95, mr_isI_95, mr_ty_96, mr_n_96, mr_isI_96, mr_ty_97, mr_n_97, mr_isI_97, mr_ty_98, mr_n_98, mr_isI_98, mr_ty_99, mr_n_99, mr_isI_99, mr_ty_100, mr_n_100, mr_isI_100, mr_ty_101, mr_n_101, mr_isI_101, mr_isF_1, mr_isF_3, mr_isF_4, mr_isF_10, mr_isF_12, mr_isF_18, mr_isF_19, mr_isF_21, mr_isF_22, mr_isF_23, mr_isF_26, mr_isF_34, mr_isF_37, mr_isF_38, mr_isF_39, mr_T_up, mr_T_upJ, mr_T_f, t1, t2, t3, t4, mk, hg, show ¬ (1 : Int32) = 0 by decide]
    · rw [if_neg z] at mk ⊢
      rw [r302_156]
      simp only [r302_158, r302_161, r302_162, r302_165, r302_167, r302_168, r302_171, r302_173, r302_176, r302_178, r302_180, r302_183, mx_isr_ref, mx_isr_null, mx_wt_nil, mx_wt_1, mx_wt_2, mx_wt_3, Option.bind_some, Option.toList_some, Option.toList_none, List.cons_append, List.nil_append, mx_nl_int, mx_nl_ref, mx_nl_null, mx_nl_none, mx_nb0, mx_nb1, mx_fb0, mx_fb1, mx_cat_int, mx_cat_ref, if_true, if_false, not_true_eq_false, not_false_eq_true, T, mr_ty_77, mr_n_77, mr_isI_77, mr_ty_78, mr_n_78, mr_isI_78, mr_ty_79, mr_n_79, mr_isI_79, mr_ty_80, mr_n_80, mr_isI_80, mr_ty_81, mr_n_81, mr_isI_81, mr_ty_82, mr_n_82, mr_isJ_82, mr_ty_83, mr_n_83, mr_isI_83, mr_ty_84, mr_n_84, mr_isI_84, mr_ty_85, mr_n_85, mr_isI_85, mr_ty_86, mr_n_86, mr_isI_86, mr_ty_87, mr_n_87, mr_isI_87, mr_ty_88, mr_n_88, mr_isI_88, mr_ty_89, mr_n_89, mr_isJ_89, mr_ty_90, mr_n_90, mr_isI_90, mr_ty_91, mr_n_91, mr_isI_91, mr_ty_92, mr_n_92, mr_isI_92, mr_ty_93, mr_n_93, mr_isI_93, mr_ty_94, mr_n_94, mr_isI_94, mr_ty_95, mr_n_95, mr_isI_95, mr_ty_96, mr_n_96, mr_isI_96, mr_ty_97, mr_n_97, mr_isI_97, mr_ty_98, mr_n_98, mr_isI_98, mr_ty_99, mr_n_99, mr_isI_99, mr_ty_100, mr_n_100, mr_isI_100, mr_ty_101, mr_n_101, mr_isI_101, mr_isF_1, mr_isF_3, mr_isF_4, mr_isF_10, mr_isF_12, mr_isF_18, mr_isF_19, mr_isF_21, mr_isF_22, mr_isF_23, mr_isF_26, mr_isF_34, mr_isF_37, mr_isF_38, mr_isF_39, mr_T_up, mr_T_upJ, mr_T_f, t1, t2, t3, t4, mk, hg]
/-- all but one give way -/
def kpL : Nat → List itf → List itm
  | _, [] => []
  | 0, x :: l => x.1 :: l.map kpA
  | n + 1, x :: l => kpA x :: kpL n l
theorem kp1_L : ∀ l, kp1 l = (l.findIdx? fun x => x.2).map fun n => kpL n l := by
  intro l
  induction l with
  | nil => rfl
  | cons x l ih =>
    rw [kp1, List.findIdx?_cons, ih]
    by_cases e : x.2 = true
    · rw [if_pos e, if_pos e]
      rfl
    · rw [if_neg e, if_neg e]
      cases l.findIdx? fun x => x.2 <;> rfl
theorem kpL_len : ∀ l n, (kpL n l).length = l.length := by
  intro l
  induction l with
  | nil => intro n; cases n <;> rfl
  | cons x l ih =>
    intro n
    cases n with
    | zero => simp only [kpL, List.length_cons, List.length_map]
    | succ n => simp only [kpL, List.length_cons, ih]
theorem kpL_G : ∀ l n k, k < l.length → iG (kpL n l) k = if k = n then (xG l k).1 else kpA (xG l k) := by
  intro l
  induction l with
  | nil => intro n k hk; exact absurd hk (Nat.not_lt_zero _)
  | cons x l ih =>
    intro n k hk
    have hk : k < l.length + 1 := hk
    cases n with
    | zero =>
      cases k with
      | zero => rfl
      | succ k =>
        rw [if_neg (by omega)]
        show iG (l.map kpA) k = kpA (xG l k)
        unfold iG xG
        rw [List.getD_eq_getElem?_getD, List.getD_eq_getElem?_getD, List.getElem?_map, List.getElem?_eq_getElem (by omega)]
        rfl
    | succ n =>
      cases k with
      | zero => rw [if_neg (by omega)]; rfl
      | succ k =>
        show iG (kpL n l) k = if k + 1 = n + 1 then (xG l k).1 else kpA (xG l k)
        rw [ih n k (by omega)]
        by_cases e : k = n
        · rw [if_pos e, if_pos (by omega)]
        · rw [if_neg e, if_neg (by omega)]
theorem rm_kpB {l : List itf} (h4 : l.length ≤ 4) {I : Nat} (hI : I < 2 ^ 20) {a b c e f g : Option Value} : ∀ n k h1, k + n = l.length → mr_T h1 → mi h1 77 659 = nI l.length → (∀ j, j < l.length → itR h1 8 j (if j < k then iG (kpL I l) j else (xG l j).1)) →
    ∃ h' x, mx_G (d + 1) 302 189 [some (.ref 76), a, b, c, e, f, g, some (.int (nI I)), some (.int (nI k))] [] h1 = mx_G (d + 1) 302 255 [some (.ref 76), a, b, c, e, f, g, some (.int (nI I)), some (.int x)] [] h' ∧ mf P79 h1 h' ∧ (∀ i, i < 660 → mi h' 77 i = mi h1 77 i) ∧ ∀ j, j < l.length → itR h' 8 j (iG (kpL I l) j) := by
  intro n
  induction n with
  | zero =>
    intro k h1 hk T c19 R
    have e1 : nI l.length ≤ nI k := nI_le (by omega) (by omega)
    have f19 := rm_f (d := d) T (s := 8) (o := 19) (by decide)
    rw [show 80 * 8 + 19 = 659 from rfl, c19, show nI 8 = 8 from rfl, show nI 19 = 19 from rfl] at f19
    refine ⟨h1, nI k, ?_, mf_rfl T, fun _ _ => rfl, fun j hj => ?_⟩
    · simp only [r302_189, r302_191, r302_192, r302_194, r302_196, r302_199, mx_isr_ref, mx_isr_null, mx_wt_nil, mx_wt_1, mx_wt_2, mx_wt_3, Option.bind_some, Option.toList_some, Option.toList_none, List.cons_append, List.nil_append, mx_nl_int, mx_nl_ref, mx_nl_null, mx_nl_none, mx_nb0, mx_nb1, mx_fb0, mx_fb1, mx_cat_int, mx_cat_ref, if_true, if_false, not_true_eq_false, not_false_eq_true, T, f19, e1]
    · have := R j hj
      rw [if_pos (by omega)] at this
      exact this
  | succ n ih =>
    intro k h1 hk T c19 R
    have hkl : k < l.length := by omega
    have e1 : ¬ nI l.length ≤ nI k := nI_ge (by omega) (by omega)
    have f19 := rm_f (d := d) T (s := 8) (o := 19) (by decide)
    rw [show 80 * 8 + 19 = 659 from rfl, c19, show nI 8 = 8 from rfl, show nI 19 = 19 from rfl] at f19
    have n0 : ¬ nI I < 0 := nI_pos (by omega)
    have Rk := R k hkl
    rw [if_neg (Nat.lt_irrefl _)] at Rk
    have G := kpL_G l I k hkl
    have step : ∀ h2, mf P79 h1 h2 → (∀ i, (i < 660 + 14 * k ∨ 660 + 14 * k + 14 ≤ i) → mi h2 77 i = mi h1 77 i) → itR h2 8 k (iG (kpL I l) k) → mx_G (d + 1) 302 189 [some (.ref 76), a, b, c, e, f, g, some (.int (nI I)), some (.int (nI k))] [] h1 = mx_G (d + 1) 302 189 [some (.ref 76), a, b, c, e, f, g, some (.int (nI I)), some (.int (nI (k + 1)))] [] h2 →
        ∃ h' x, mx_G (d + 1) 302 189 [some (.ref 76), a, b, c, e, f, g, some (.int (nI I)), some (.int (nI k))] [] h1 = mx_G (d + 1) 302 255 [some (.ref 76), a, b, c, e, f, g, some (.int (nI I)), some (.int x)] [] h' ∧ mf P79 h1 h' ∧ (∀ i, i < 660 → mi h' 77 i = mi h1 77 i) ∧ ∀ j, j < l.length → itR h' 8 j (iG (kpL I l) j) := by
      intro h2 m2 g2 r2 s2
      obtain ⟨h', x, r, m', f', R'⟩ := ih (k + 1) h2 (by omega) m2.1 ((g2 659 (by omega)).trans c19) fun j hj => by
        by_cases q : j = k
        · subst q
          rw [if_pos (by omega)]
          exact r2
        · have Rj := itR_keep (h' := h2) (R j hj) fun i hi => g2 _ (by omega)
          by_cases q2 : j < k
          · rw [if_pos q2] at Rj; rw [if_pos (by omega)]; exact Rj
          · rw [if_neg q2] at Rj; rw [if_neg (by omega)]; exact Rj
      exact ⟨h', x, s2.trans r, mf_trans m2 m', fun i hi => (f' i hi).trans (g2 i (by omega)), R'⟩
    by_cases eI : k = I
    · have e2 : nI k = nI I := by rw [eI]
      rw [if_pos eI] at G
      refine step h1 (mf_rfl T) (fun _ _ => rfl) (by rw [G]; exact Rk) ?_
      rw [r302_189]
      simp only [r302_191, r302_192, r302_194, r302_196, r302_199, r302_202, r302_204, r302_207, r302_209, r302_211, r302_214, r302_215, r302_217, r302_218, r302_220, r302_223, r302_225, r302_226, r302_229, r302_230, r302_233, r302_234, r302_236, r302_237, r302_239, r302_242, r302_244, r302_245, r302_246, r302_249, r302_252, mx_isr_ref, mx_isr_null, mx_wt_nil, mx_wt_1, mx_wt_2, mx_wt_3, Option.bind_some, Option.toList_some, Option.toList_none, List.cons_append, List.nil_append, mx_nl_int, mx_nl_ref, mx_nl_null, mx_nl_none, mx_nb0, mx_nb1, mx_fb0, mx_fb1, mx_cat_int, mx_cat_ref, if_true, if_false, not_true_eq_false, not_false_eq_true, T, f19, e1, n0, eq_true e2, nI_1]
    · have e2 : ¬ nI k = nI I := fun z => eI ((nI_eq (by omega) (by omega)).mp z)
      rw [if_neg eI] at G
      have im := rm_item (d := d) (h := h1) (k := k)
      have e3 : nI (20 + 14 * k) + 13 = nI (20 + 14 * k + 13) := nI_add (20 + 14 * k) 13
      have rf := rm_f (d := d) T (s := 8) (o := 20 + 14 * k + 13) (by omega)
      have v13 : mi h1 77 (80 * 8 + (20 + 14 * k + 13)) = nI (pB (xG l k).1.2) := by
        have := Rk 13 (by decide)
        rw [show 80 * 8 + 20 + 14 * k + 13 = 80 * 8 + (20 + 14 * k + 13) by omega] at this
        exact this
      rw [v13, show nI 8 = 8 from rfl] at rf
      by_cases z : tr1 (xG l k).1.2 = true
      · have zz : (xG l k).1.2 = some true := by unfold tr1 at z; exact beq_iff_eq.1 z
        rw [zz, show nI (pB (some true)) = 1 from rfl] at rf
        have rs := rm_set (d := d) T (s := 8) (o := 20 + 14 * k + 13) (v := 2) (by omega)
        rw [show nI 8 = 8 from rfl] at rs
        have m2 := mf_up (P := P79) (a := 77) (k := 80 * 8 + (20 + 14 * k + 13)) (x := 2) (mf_rfl T) (by decide) (P79_t (by omega))
        have GA : kpA (xG l k) = ((xG l k).1.1, some false) := by unfold kpA; rw [if_pos z]
        refine step _ m2 (fun i hi => by rw [mi_r T (by omega), if_neg (by omega)]) (fun j hj => ?_) ?_
        · rw [G, GA, mi_r T (by omega)]
          have := Rk j hj
          unfold ie at this ⊢
          by_cases j13 : j < 13
          · rw [if_pos j13] at this ⊢
            rw [if_neg (by omega)]
            exact this
          · rw [if_pos (by omega), if_neg j13]
            rfl
        · rw [r302_189]
          simp only [r302_191, r302_192, r302_194, r302_196, r302_199, r302_202, r302_204, r302_207, r302_209, r302_211, r302_214, r302_215, r302_217, r302_218, r302_220, r302_223, r302_225, r302_226, r302_229, r302_230, r302_233, r302_234, r302_236, r302_237, r302_239, r302_242, r302_244, r302_245, r302_246, r302_249, r302_252, mx_isr_ref, mx_isr_null, mx_wt_nil, mx_wt_1, mx_wt_2, mx_wt_3, Option.bind_some, Option.toList_some, Option.toList_none, List.cons_append, List.nil_append, mx_nl_int, mx_nl_ref, mx_nl_null, mx_nl_none, mx_nb0, mx_nb1, mx_fb0, mx_fb1, mx_cat_int, mx_cat_ref, if_true, if_false, not_true_eq_false, not_false_eq_true, T, m2.1, f19, e1, n0, eq_false e2, im, e3, rf, rs, nI_1]
      · have GA : kpA (xG l k) = (xG l k).1 := by unfold kpA; rw [if_neg z]
        have e4 : ¬ nI (pB (xG l k).1.2) = 1 := by
          intro y
          apply z
          cases q : (xG l k).1.2 with
          | none => rw [q] at y; exact absurd y (by decide)
          | some bb =>
            cases bb with
            | true => rfl
            | false => rw [q] at y; exact absurd y (by decide)
        refine step h1 (mf_rfl T) (fun _ _ => rfl) (by rw [G, GA]; exact Rk) ?_
        rw [r302_189]
        simp only [r302_191, r302_192, r302_194, r302_196, r302_199, r302_202, r302_204, r302_207, r302_209, r302_211, r302_214, r302_215, r302_217, r302_218, r302_220, r302_223, r302_225, r302_226, r302_229, r302_230, r302_233, r302_234, r302_236, r302_237, r302_239, r302_242, r302_244, r302_245, r302_246, r302_249, r302_252, mx_isr_ref, mx_isr_null, mx_wt_nil, mx_wt_1, mx_wt_2, mx_wt_3, Option.bind_some, Option.toList_some, Option.toList_none, List.cons_append, List.nil_append, mx_nl_int, mx_nl_ref, mx_nl_null, mx_nl_none, mx_nb0, mx_nb1, mx_fb0, mx_fb1, mx_cat_int, mx_cat_ref, if_true, if_false, not_true_eq_false, not_false_eq_true, T, f19, e1, n0, eq_false e2, im, e3, rf, e4, nI_1]
end
