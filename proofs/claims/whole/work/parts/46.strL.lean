section
variable {d : Nat}
theorem lx_str_34 (r : List Nat) : lx_str (34 :: r) = some ([], r) := by cases r <;> simp [lx_str]
theorem lx_str_lo {c : Nat} (h : c < 32) (r : List Nat) : lx_str (c :: r) = none := by
  cases r with
  | nil => rw [lx_str, if_neg (by omega)]
  | cons e r => rw [lx_str, if_neg (by omega), if_pos h]
theorem lx_str_c {c : Nat} (h1 : ¬ c < 32) (h2 : c ≠ 34) (h3 : c ≠ 92) (r : List Nat) : lx_str (c :: r) = (lx_str r).map fun q => (c :: q.1, q.2) := by
  cases r with
  | nil => simp [lx_str, h2]
  | cons e r => rw [lx_str, if_neg h2, if_neg h1, if_neg h3]
theorem lx_str_92 (e : Nat) (r : List Nat) : lx_str (92 :: e :: r) = if isEsc e = true then (lx_str r).map fun q => (e :: q.1, q.2) else none := by
  rw [lx_str, if_neg (by decide), if_neg (by decide), if_pos rfl]
theorem rm_strL {bs : List Nat} {tn p f0 : Nat} (htn : tn < 130) : ∀ (n : Nat) (suf : List Nat), suf.length ≤ n → ∀ (q w : Nat) (h : mx_H) (v3 v4 : Option Value), rm_buf h bs → bs.drop q = suf → q ≤ bs.length → mi h 76 10 = nI w → w ≤ q → mi h 76 4 = nI tn → mi h 80 tn = nI f0 →
    (∀ t r, lx_str suf = some (t, r) → w + t.length ≤ 120 ∧ q + 1 + t.length + r.length ≤ bs.length ∧ mx_G (d + 1) 247 17 [some (.ref 76), some (.int (nI p)), some (.int (nI q)), v3, v4] [] h = some (some (.int (nI (bs.length - r.length))), mx_up (rm_txt t w h) 81 tn (.int (nI (w + t.length) - nI f0)))) ∧
    (lx_str suf = none → ∃ t : List Nat, w + t.length ≤ 120 ∧ mx_G (d + 1) 247 17 [some (.ref 76), some (.int (nI p)), some (.int (nI q)), v3, v4] [] h = some (some (.int (-1)), rm_txt t w h)) := by
  intro n
  induction n with
  | zero =>
    intro suf hn q w h v3 v4 B hs hq hw hwq ht hf
    have hnil : suf = [] := List.eq_nil_of_length_eq_zero (by omega)
    subst hnil
    have hT := B.1
    have hb := B.2.1
    refine ⟨fun t r h => (by cases h), fun _ => ⟨[], by simp; omega, ?_⟩⟩
    have e0 : bs.getD q 0 = 0 := by
      have := getD_drop (l := bs) (p := q) 0
      rw [Nat.add_zero, hs] at this
      exact this
    simp only [r247_17, r247_18, r247_19, r247_22, r247_24, r247_27, r247_28, r247_29, r247_32, r247_34, r247_37, r247_38, r247_41, r247_42, r247_43, r247_44, r247_47, r247_48, r247_49, r247_50, r247_51, r247_54, r247_57, r247_58, r247_59, r247_62, r247_64, r247_66, r247_68, r247_71, r247_72, r247_75, r247_77, r247_79, r247_82, r247_84, r247_86, r247_89, r247_91, r247_93, r247_96, r247_97, mx_isr_ref, mx_isr_null, mx_wt_nil, mx_wt_1, mx_wt_2, mx_wt_3, Option.bind_some, Option.toList_some, Option.toList_none, List.cons_append, List.nil_append, mx_nl_int, mx_nl_ref, mx_nl_null, mx_nl_none, mx_nb0, mx_nb1, mx_cat_int, mx_cat_ref, if_true, if_false, not_true_eq_false, not_false_eq_true, hT, rm_look B (show q < 2 ^ 30 by omega), e0, nI_0, show ¬ (0 : Int32) = 34 by decide, show ¬ (0 : Int32) = 92 by decide, show (0 : Int32) < 32 by decide, rm_txt]
  | succ n ih =>
    intro suf hn q w h v3 v4 B hs hq hw hwq ht hf
    cases suf with
    | nil => exact ih [] (by simp) q w h v3 v4 B hs hq hw hwq ht hf
    | cons c r =>
      have hT := B.1
      have hb := B.2.1
      obtain ⟨d1, d2, d3⟩ := drop_cons hs
      have e0 : bs.getD q 0 = c := by rw [List.getD_eq_getElem?_getD, d3]; rfl
      have hc : c < 128 := by rw [← e0]; exact rm_buf_lt B _
      obtain ⟨-, -, c1, c2, c3, c4⟩ := nar_char c hc
      have hlen : r.length + 1 = bs.length - q := by
        have := congrArg List.length hs
        simp at this
        omega
      simp only [List.length_cons] at hn
      by_cases h34 : c = 34
      · subst h34
        rw [lx_str_34]
        refine ⟨fun t r' he => ?_, fun he => (by cases he)⟩
        cases he
        have t1 : (nI tn).toNatClampNeg = tn := nI_clamp (by omega)
        have t2 : (0 : Int32) ≤ nI tn := nI_pos' (by omega)
        refine ⟨by simp; omega, by simp; omega, ?_⟩
        have e3 : nI (bs.length - r.length) = nI (q + 1) := by congr 1; omega
        rw [e3]
        simp only [r247_17, r247_18, r247_19, r247_22, r247_24, r247_137, r247_138, r247_141, r247_142, r247_145, r247_146, r247_149, r247_150, r247_153, r247_154, r247_157, r247_158, r247_159, r247_160, r247_161, r247_162, r247_163, mx_isr_ref, mx_isr_null, mx_wt_nil, mx_wt_1, mx_wt_2, mx_wt_3, Option.bind_some, Option.toList_some, Option.toList_none, List.cons_append, List.nil_append, mx_nl_int, mx_nl_ref, mx_nl_null, mx_nl_none, mx_nb0, mx_nb1, mx_cat_int, mx_cat_ref, if_true, if_false, not_true_eq_false, not_false_eq_true, hT, rm_look B (show q < 2 ^ 30 by omega), e0, show nI 34 = 34 from rfl, mr_ty_77, mr_n_77, mr_isI_77, mr_ty_78, mr_n_78, mr_isI_78, mr_ty_79, mr_n_79, mr_isI_79, mr_ty_80, mr_n_80, mr_isI_80, mr_ty_81, mr_n_81, mr_isI_81, mr_ty_82, mr_n_82, mr_isJ_82, mr_ty_83, mr_n_83, mr_isI_83, mr_ty_84, mr_n_84, mr_isI_84, mr_ty_85, mr_n_85, mr_isI_85, mr_ty_86, mr_n_86, mr_isI_86, mr_ty_87, mr_n_87, mr_isI_87, mr_ty_88, mr_n_88, mr_isI_88, mr_ty_89, mr_n_89, mr_isJ_89, mr_ty_90, mr_n_90, mr_isI_90, mr_ty_91, mr_n_91, mr_isI_91, mr_ty_92, mr_n_92, mr_isI_92, mr_ty_93, mr_n_93, mr_isI_93, mr_ty_94, mr_n_94, mr_isI_94, mr_ty_95, mr_n_95, mr_isI_95, mr_ty_96, mr_n_96, mr_isI_96, mr_ty_97, mr_n_97, mr_isI_97, mr_ty_98, mr_n_98, mr_isI_98, mr_ty_99, mr_n_99, mr_isI_99, mr_ty_100, mr_n_100, mr_isI_100, mr_ty_101, mr_n_101, mr_isI_101, mr_isF_1, mr_isF_3, mr_isF_4, mr_isF_10, mr_isF_12, mr_isF_18, mr_isF_19, mr_isF_21, mr_isF_22, mr_isF_23, mr_isF_26, mr_isF_34, mr_isF_37, mr_isF_38, mr_isF_39, mr_T_up, mr_T_upJ, mr_T_f, ht, hw, hf, t1, t2, htn, nI_1, rm_txt, List.length_nil, Nat.add_zero]
      · have n34 : ¬ nI c = 34 := fun z => h34 (c2.mp z)
        by_cases h92 : c = 92
        · subst h92
          have e92 : nI 92 = 92 := rfl
          have hd1 : bs.getD (q + 1) 0 = r.getD 0 0 := by rw [getD_drop 1, hs]; rfl
          have hc' := rm_buf_lt B (q + 1)
          rw [hd1] at hc'
          obtain ⟨-, -, g1, g2, g3, g4⟩ := nar_char (r.getD 0 0) hc'
          have pre : mx_G (d + 1) 247 17 [some (.ref 76), some (.int (nI p)), some (.int (nI q)), v3, v4] [] h = mx_G (d + 1) 247 64 [some (.ref 76), some (.int (nI p)), some (.int (nI q)), some (.int 1), some (.int (nI (r.getD 0 0)))] [] h := by
            simp only [r247_17, r247_18, r247_19, r247_22, r247_24, r247_27, r247_28, r247_29, r247_32, r247_34, r247_37, r247_38, r247_41, r247_42, r247_43, r247_44, r247_47, r247_48, r247_49, r247_50, r247_51, r247_54, r247_57, r247_58, r247_59, r247_62, mx_isr_ref, mx_isr_null, mx_wt_nil, mx_wt_1, mx_wt_2, mx_wt_3, Option.bind_some, Option.toList_some, Option.toList_none, List.cons_append, List.nil_append, mx_nl_int, mx_nl_ref, mx_nl_null, mx_nl_none, mx_nb0, mx_nb1, mx_cat_int, mx_cat_ref, if_true, if_false, not_true_eq_false, not_false_eq_true, hT, rm_look B (show q < 2 ^ 30 by omega), rm_look B (show q + 1 < 2 ^ 30 by omega), e0, hd1, e92, show ¬ (92 : Int32) = 34 by decide, show ¬ (1 : Int32) = 0 by decide, nI_1]
          rw [pre]
          cases r with
          | nil =>
            refine ⟨fun t r h => (by simp [lx_str] at h), fun _ => ⟨[], by simp; omega, ?_⟩⟩
            simp only [r247_64, r247_66, r247_68, r247_71, r247_72, r247_75, r247_77, r247_79, r247_82, r247_84, r247_86, r247_89, r247_91, r247_93, r247_96, r247_97, mx_isr_ref, mx_isr_null, mx_wt_nil, mx_wt_1, mx_wt_2, mx_wt_3, Option.bind_some, Option.toList_some, Option.toList_none, List.cons_append, List.nil_append, mx_nl_int, mx_nl_ref, mx_nl_null, mx_nl_none, mx_nb0, mx_nb1, mx_cat_int, mx_cat_ref, if_true, if_false, not_true_eq_false, not_false_eq_true, List.getD_nil, nI_0, show (0 : Int32) < 32 by decide, rm_txt]
          | cons e r =>
            rw [lx_str_92]
            obtain ⟨d4, d5, d6⟩ := drop_cons d1
            have eg : (e :: r).getD 0 0 = e := rfl
            rw [eg] at hc' g1 g2 g3 g4 ⊢
            by_cases hesc : isEsc e = true
            · rw [if_pos hesc]
              have he : e = 34 ∨ e = 92 ∨ e = 47 := by simpa [isEsc] using hesc
              have step : mx_G (d + 1) 247 64 [some (.ref 76), some (.int (nI p)), some (.int (nI q)), some (.int 1), some (.int (nI e))] [] h = mx_G (d + 1) 247 98 [some (.ref 76), some (.int (nI p)), some (.int (nI q)), some (.int 1), some (.int (nI e))] [] h := by
                have g1' : ¬ nI e < 32 := fun z => by have := g1.mp z; omega
                rcases he with rfl | rfl | rfl
                · simp only [r247_64, r247_66, r247_68, r247_71, r247_72, r247_75, r247_77, r247_79, r247_82, r247_84, r247_86, r247_89, r247_91, r247_93, r247_96, r247_97, mx_isr_ref, mx_isr_null, mx_wt_nil, mx_wt_1, mx_wt_2, mx_wt_3, Option.bind_some, Option.toList_some, Option.toList_none, List.cons_append, List.nil_append, mx_nl_int, mx_nl_ref, mx_nl_null, mx_nl_none, mx_nb0, mx_nb1, mx_cat_int, mx_cat_ref, if_true, if_false, not_true_eq_false, not_false_eq_true, g1', g2, show ¬ (1 : Int32) = 0 by decide]
                · simp only [r247_64, r247_66, r247_68, r247_71, r247_72, r247_75, r247_77, r247_79, r247_82, r247_84, r247_86, r247_89, r247_91, r247_93, r247_96, r247_97, mx_isr_ref, mx_isr_null, mx_wt_nil, mx_wt_1, mx_wt_2, mx_wt_3, Option.bind_some, Option.toList_some, Option.toList_none, List.cons_append, List.nil_append, mx_nl_int, mx_nl_ref, mx_nl_null, mx_nl_none, mx_nb0, mx_nb1, mx_cat_int, mx_cat_ref, if_true, if_false, not_true_eq_false, not_false_eq_true, g1', g2, g3, show ¬ (1 : Int32) = 0 by decide, show ¬ (92 : Nat) = 34 by decide]
                · simp only [r247_64, r247_66, r247_68, r247_71, r247_72, r247_75, r247_77, r247_79, r247_82, r247_84, r247_86, r247_89, r247_91, r247_93, r247_96, r247_97, mx_isr_ref, mx_isr_null, mx_wt_nil, mx_wt_1, mx_wt_2, mx_wt_3, Option.bind_some, Option.toList_some, Option.toList_none, List.cons_append, List.nil_append, mx_nl_int, mx_nl_ref, mx_nl_null, mx_nl_none, mx_nb0, mx_nb1, mx_cat_int, mx_cat_ref, if_true, if_false, not_true_eq_false, not_false_eq_true, g1', g2, g3, g4, show ¬ (1 : Int32) = 0 by decide, show ¬ (47 : Nat) = 34 by decide, show ¬ (47 : Nat) = 92 by decide]
              have st := rm_strS (d := d + 1) (p := p) (n := 2) (v3 := none) (v4 := none) B (show q ≤ 122 by omega) hw (show w < 130 by omega) hc' (Or.inr rfl) rfl
              simp only [if_true] at st
              rw [step, st]
              have hlen2 : r.length + 1 = bs.length - (q + 1) := by
                have := congrArg List.length d1
                simp at this
                omega
              have B' : rm_buf (mx_up (mx_up h 83 w (.int (nI e))) 76 10 (.int (nI (w + 1)))) bs := rm_buf_f (rm_buf_up B _ (by decide) (by decide)) _ (by decide) (by decide)
              have w' : mi (mx_up (mx_up h 83 w (.int (nI e))) 76 10 (.int (nI (w + 1)))) 76 10 = nI (w + 1) := by
                rw [mi_up, if_pos ⟨rfl, rfl, by rw [mx_ln_up, hT.2.1]; decide⟩]
              have t' : mi (mx_up (mx_up h 83 w (.int (nI e))) 76 10 (.int (nI (w + 1)))) 76 4 = nI tn := by
                rw [mi_up, if_neg (fun z => absurd z.2.1 (by decide)), mi_up, if_neg (fun z => absurd z.1 (by decide))]
                exact ht
              have f' : mi (mx_up (mx_up h 83 w (.int (nI e))) 76 10 (.int (nI (w + 1)))) 80 tn = nI f0 := by
                rw [mi_up, if_neg (fun z => absurd z.1 (by decide)), mi_up, if_neg (fun z => absurd z.1 (by decide))]
                exact hf
              obtain ⟨i1, i2⟩ := ih r (by simp at hn; omega) (q + 2) (w + 1) _ (some (.int 1)) (some (.int (nI e))) B' d4 (by omega) w' (by omega) t' f'
              refine ⟨fun t r' he' => ?_, fun he' => ?_⟩
              · obtain ⟨⟨t0, r0⟩, hq0, hq1⟩ := Option.map_eq_some_iff.mp he'
                cases hq1
                obtain ⟨j1, j2, j3⟩ := i1 t0 r0 hq0
                refine ⟨by simp; omega, by simp; omega, ?_⟩
                rw [j3]
                simp only [rm_txt, List.length_cons]
                rw [show w + 1 + t0.length = w + (t0.length + 1) by omega]
              · have hq0 : lx_str r = none := by
                  cases hx : lx_str r with
                  | none => rfl
                  | some z => rw [hx] at he'; cases he'
                obtain ⟨t0, j1, j2⟩ := i2 hq0
                exact ⟨e :: t0, by simp; omega, j2⟩
            · rw [if_neg hesc]
              have he : ¬ e = 34 ∧ ¬ e = 92 ∧ ¬ e = 47 := by simpa [isEsc] using hesc
              refine ⟨fun t r h => (by cases h), fun _ => ⟨[], by simp; omega, ?_⟩⟩
              by_cases h32 : e < 32
              · simp only [r247_64, r247_66, r247_68, r247_71, r247_72, r247_75, r247_77, r247_79, r247_82, r247_84, r247_86, r247_89, r247_91, r247_93, r247_96, r247_97, mx_isr_ref, mx_isr_null, mx_wt_nil, mx_wt_1, mx_wt_2, mx_wt_3, Option.bind_some, Option.toList_some, Option.toList_none, List.cons_append, List.nil_append, mx_nl_int, mx_nl_ref, mx_nl_null, mx_nl_none, mx_nb0, mx_nb1, mx_cat_int, mx_cat_ref, if_true, if_false, not_true_eq_false, not_false_eq_true, g1, h32, rm_txt]
              · simp only [r247_64, r247_66, r247_68, r247_71, r247_72, r247_75, r247_77, r247_79, r247_82, r247_84, r247_86, r247_89, r247_91, r247_93, r247_96, r247_97, mx_isr_ref, mx_isr_null, mx_wt_nil, mx_wt_1, mx_wt_2, mx_wt_3, Option.bind_some, Option.toList_some, Option.toList_none, List.cons_append, List.nil_append, mx_nl_int, mx_nl_ref, mx_nl_null, mx_nl_none, mx_nb0, mx_nb1, mx_cat_int, mx_cat_ref, if_true, if_false, not_true_eq_false, not_false_eq_true, g1, h32, g2, g3, g4, he.1, he.2.1, he.2.2, show ¬ (1 : Int32) = 0 by decide, rm_txt]
        · have n92 : ¬ nI c = 92 := fun z => h92 (c3.mp z)
          have pre : mx_G (d + 1) 247 17 [some (.ref 76), some (.int (nI p)), some (.int (nI q)), v3, v4] [] h = mx_G (d + 1) 247 64 [some (.ref 76), some (.int (nI p)), some (.int (nI q)), some (.int 0), some (.int (nI c))] [] h := by
            simp only [r247_17, r247_18, r247_19, r247_22, r247_24, r247_27, r247_28, r247_29, r247_32, r247_34, r247_37, r247_38, r247_41, r247_42, r247_43, r247_44, r247_47, r247_48, r247_49, r247_50, r247_51, r247_54, r247_57, r247_58, r247_59, r247_62, mx_isr_ref, mx_isr_null, mx_wt_nil, mx_wt_1, mx_wt_2, mx_wt_3, Option.bind_some, Option.toList_some, Option.toList_none, List.cons_append, List.nil_append, mx_nl_int, mx_nl_ref, mx_nl_null, mx_nl_none, mx_nb0, mx_nb1, mx_cat_int, mx_cat_ref, if_true, if_false, not_true_eq_false, not_false_eq_true, hT, rm_look B (show q < 2 ^ 30 by omega), e0, n34, n92]
          rw [pre]
          by_cases h32 : c < 32
          · rw [lx_str_lo h32]
            refine ⟨fun t r h => (by cases h), fun _ => ⟨[], by simp; omega, ?_⟩⟩
            simp only [r247_64, r247_66, r247_68, r247_71, r247_72, r247_75, r247_77, r247_79, r247_82, r247_84, r247_86, r247_89, r247_91, r247_93, r247_96, r247_97, mx_isr_ref, mx_isr_null, mx_wt_nil, mx_wt_1, mx_wt_2, mx_wt_3, Option.bind_some, Option.toList_some, Option.toList_none, List.cons_append, List.nil_append, mx_nl_int, mx_nl_ref, mx_nl_null, mx_nl_none, mx_nb0, mx_nb1, mx_cat_int, mx_cat_ref, if_true, if_false, not_true_eq_false, not_false_eq_true, c1, h32, rm_txt]
          · rw [lx_str_c h32 h34 h92]
            have step : mx_G (d + 1) 247 64 [some (.ref 76), some (.int (nI p)), some (.int (nI q)), some (.int 0), some (.int (nI c))] [] h = mx_G (d + 1) 247 98 [some (.ref 76), some (.int (nI p)), some (.int (nI q)), some (.int 0), some (.int (nI c))] [] h := by
              simp only [r247_64, r247_66, r247_68, r247_71, r247_72, r247_75, r247_77, r247_79, r247_82, r247_84, r247_86, r247_89, r247_91, r247_93, r247_96, r247_97, mx_isr_ref, mx_isr_null, mx_wt_nil, mx_wt_1, mx_wt_2, mx_wt_3, Option.bind_some, Option.toList_some, Option.toList_none, List.cons_append, List.nil_append, mx_nl_int, mx_nl_ref, mx_nl_null, mx_nl_none, mx_nb0, mx_nb1, mx_cat_int, mx_cat_ref, if_true, if_false, not_true_eq_false, not_false_eq_true, c1, h32]
            have st := rm_strS (d := d + 1) (p := p) (n := 1) (v3 := none) (v4 := none) B (show q ≤ 122 by omega) hw (show w < 130 by omega) hc (Or.inl rfl) rfl
            simp only [show ¬ (1 : Nat) = 2 by decide, if_false] at st
            rw [step, st]
            have B' : rm_buf (mx_up (mx_up h 83 w (.int (nI c))) 76 10 (.int (nI (w + 1)))) bs := rm_buf_f (rm_buf_up B _ (by decide) (by decide)) _ (by decide) (by decide)
            have w' : mi (mx_up (mx_up h 83 w (.int (nI c))) 76 10 (.int (nI (w + 1)))) 76 10 = nI (w + 1) := by
              rw [mi_up, if_pos ⟨rfl, rfl, by rw [mx_ln_up, hT.2.1]; decide⟩]
            have t' : mi (mx_up (mx_up h 83 w (.int (nI c))) 76 10 (.int (nI (w + 1)))) 76 4 = nI tn := by
              rw [mi_up, if_neg (fun z => absurd z.2.1 (by decide)), mi_up, if_neg (fun z => absurd z.1 (by decide))]
              exact ht
            have f' : mi (mx_up (mx_up h 83 w (.int (nI c))) 76 10 (.int (nI (w + 1)))) 80 tn = nI f0 := by
              rw [mi_up, if_neg (fun z => absurd z.1 (by decide)), mi_up, if_neg (fun z => absurd z.1 (by decide))]
              exact hf
            obtain ⟨i1, i2⟩ := ih r (by omega) (q + 1) (w + 1) _ (some (.int 0)) (some (.int (nI c))) B' d1 (by omega) w' (by omega) t' f'
            refine ⟨fun t r' he' => ?_, fun he' => ?_⟩
            · obtain ⟨⟨t0, r0⟩, hq0, hq1⟩ := Option.map_eq_some_iff.mp he'
              cases hq1
              obtain ⟨j1, j2, j3⟩ := i1 t0 r0 hq0
              refine ⟨by simp; omega, by simp; omega, ?_⟩
              rw [j3]
              simp only [rm_txt, List.length_cons]
              rw [show w + 1 + t0.length = w + (t0.length + 1) by omega]
            · have hq0 : lx_str r = none := by
                cases hx : lx_str r with
                | none => rfl
                | some z => rw [hx] at he'; cases he'
              obtain ⟨t0, j1, j2⟩ := i2 hq0
              exact ⟨c :: t0, by simp; omega, j2⟩
end
