section
variable {d : Nat} {h : mx_H} {ts : List tk}
theorem rm_paX {a b l5 l6 l7 : Option Value} {e x : Int32} (he : ¬ e = 0) : mx_G d 301 23 [some (.ref 76), a, b, some (.int e), some (.int x), l5, l6, l7] [] h = some (some (.int e), h) := by
  by_cases q : x < 0
  · simp only [r301_23, r301_25, r301_28, r301_29, r301_152, r301_153, mx_isr_ref, mx_isr_null, mx_wt_nil, mx_wt_1, mx_wt_2, mx_wt_3, Option.bind_some, Option.toList_some, Option.toList_none, List.cons_append, List.nil_append, mx_nl_int, mx_nl_ref, mx_nl_null, mx_nl_none, mx_nb0, mx_nb1, mx_fb0, mx_fb1, mx_cat_int, mx_cat_ref, if_true, if_false, not_true_eq_false, not_false_eq_true, q]
  · simp only [r301_23, r301_25, r301_28, r301_29, r301_152, r301_153, mx_isr_ref, mx_isr_null, mx_wt_nil, mx_wt_1, mx_wt_2, mx_wt_3, Option.bind_some, Option.toList_some, Option.toList_none, List.cons_append, List.nil_append, mx_nl_int, mx_nl_ref, mx_nl_null, mx_nl_none, mx_nb0, mx_nb1, mx_fb0, mx_fb1, mx_cat_int, mx_cat_ref, if_true, if_false, not_true_eq_false, not_false_eq_true, q, he]
theorem aTg_e (c way : Nat) (g : prs → Option Nat → Bool) (v : Nat) (p : prs) (hp : way ≤ 6) : (aTg ts c way g v p).1 = 0 ∨ (aTg ts c way g v p).1 = -401 ∨ (aTg ts c way g v p).1 = -402 ∨ (aTg ts c way g v p).1 = -413 := by
  unfold aTg
  split
  · rcases aPl_e (ts := ts) c way v p with q | q | q
    · exact Or.inl q
    · exact Or.inr (Or.inl q)
    · exact Or.inr (Or.inr (Or.inl q))
  · rw [if_pos (by omega), aMl_R]
    unfold fnR fin
    by_cases z : (mlR ts c v (pit p)).1 = 0
    · rw [if_pos z]
      split
      · exact Or.inr (Or.inl rfl)
      · exact Or.inl rfl
    · rw [if_neg z]
      rcases mlR_e (ts := ts) c v (pit p) with q | q | q
      · exact Or.inl q
      · exact Or.inr (Or.inl q)
      · exact Or.inr (Or.inr (Or.inr q))
theorem rm_paL (S : rm_TK h ts) (K : tkOK ts) {c v : Nat} (hc : c < 128) : ∀ l p h1 l5 l6 l7, chn ts 3 true l → (∀ m ∈ l, vOk ts (m + 2)) → rcP h1 8 p → wfP p → p.1 < 2 ^ 20 → p.2.1 < 2 ^ 20 → mf Ppf h h1 →
    ∃ h', mx_G (d + 8) 301 23 [some (.ref 76), some (.int (nI c)), some (.int (nI v)), some (.int 0), some (.int (nx l)), l5, l6, l7] [] h1 = some (some (.int (Int32.ofInt (aAl ts c l p).1)), h') ∧ mf Ppf h h' ∧ ((aAl ts c l p).1 = 0 → rcP h' 8 (aAl ts c l p).2) := by
  have hl := S.1.2.1
  intro l
  induction l with
  | nil =>
    intro p h1 l5 l6 l7 _ _ R _ _ _ m
    refine ⟨h1, ?_, m, fun _ => R⟩
    rw [r301_23, r301_25, if_pos nx_n]
    simp only [r301_152, r301_153, mx_isr_ref, mx_isr_null, mx_wt_nil, mx_wt_1, mx_wt_2, mx_wt_3, Option.bind_some, Option.toList_some, Option.toList_none, List.cons_append, List.nil_append, mx_nl_int, mx_nl_ref, mx_nl_null, mx_nl_none, mx_nb0, mx_nb1, mx_fb0, mx_fb1, mx_cat_int, mx_cat_ref, if_true, if_false, not_true_eq_false, not_false_eq_true]
    rfl
  | cons x l ih =>
    intro p h1 l5 l6 l7 hch hv R W b1 b2 m
    have T := m.1
    have S1 := TK_mf S m tkpf
    have hm := isMem_1 (hch.1 rfl)
    have xl := tI_lt (by decide) hm.2
    have hvx := hv x (List.mem_cons_self ..)
    have hv' : ∀ m ∈ l, vOk ts (m + 2) := fun y hy => hv y (List.mem_cons_of_mem _ hy)
    have n1 : ¬ nx (x :: l) < 0 := nx_nn (by omega) l
    have nm := rm_nameOf (d := d + 5) S1 hm.1
    have e2 : nI x + 2 = nI (x + 2) := nI_add x 2
    have af : ∀ h2, mf Ppf h h2 → mx_G (d + 7) 257 0 [some (.ref 76), some (.int (nI x)), some (.int 1), none] [] h2 = some (some (.int (nx l)), h2) := fun h2 m2 => rm_after (d := d + 5) (TS_mf S.1 m2 tkpf) hch
    have s1 : mx_G (d + 8) 301 23 [some (.ref 76), some (.int (nI c)), some (.int (nI v)), some (.int 0), some (.int (nx (x :: l))), l5, l6, l7] [] h1 = mx_G (d + 8) 301 96 [some (.ref 76), some (.int (nI c)), some (.int (nI v)), some (.int 0), some (.int (nI x)), some (.long (nmV ts x)), none, some (.int (nI (wyN (nmf ts x))))] [] h1 := by
      rw [r301_23, r301_25, if_neg n1]
      rw [show nx (x :: l) = nI x from rfl]
      unfold wyN
      by_cases q1 : nmf ts x = w_name
      · rw [if_pos q1]
        simp only [r301_28, r301_29, r301_32, r301_33, r301_35, r301_38, r301_40, r301_42, r301_45, r301_46, r301_49, r301_50, r301_53, r301_55, r301_58, r301_59, r301_62, r301_63, r301_66, r301_68, r301_71, r301_72, r301_75, r301_76, r301_79, r301_81, r301_84, r301_85, r301_88, r301_90, r301_93, r301_94, mx_isr_ref, mx_isr_null, mx_wt_nil, mx_wt_1, mx_wt_2, mx_wt_3, Option.bind_some, Option.toList_some, Option.toList_none, List.cons_append, List.nil_append, mx_nl_int, mx_nl_ref, mx_nl_null, mx_nl_none, mx_nb0, mx_nb1, mx_fb0, mx_fb1, mx_cat_int, mx_cat_ref, if_true, if_false, not_true_eq_false, not_false_eq_true, T, nm, lg_cmp0, nmV_name, eq_true q1]
        rfl
      · rw [if_neg q1]
        by_cases q2 : nmf ts x = w_age
        · rw [if_pos q2]
          simp only [r301_28, r301_29, r301_32, r301_33, r301_35, r301_38, r301_40, r301_42, r301_45, r301_46, r301_49, r301_50, r301_53, r301_55, r301_58, r301_59, r301_62, r301_63, r301_66, r301_68, r301_71, r301_72, r301_75, r301_76, r301_79, r301_81, r301_84, r301_85, r301_88, r301_90, r301_93, r301_94, mx_isr_ref, mx_isr_null, mx_wt_nil, mx_wt_1, mx_wt_2, mx_wt_3, Option.bind_some, Option.toList_some, Option.toList_none, List.cons_append, List.nil_append, mx_nl_int, mx_nl_ref, mx_nl_null, mx_nl_none, mx_nb0, mx_nb1, mx_fb0, mx_fb1, mx_cat_int, mx_cat_ref, if_true, if_false, not_true_eq_false, not_false_eq_true, T, nm, lg_cmp0, nmV_name, nmV_age, eq_false q1, eq_true q2]
          rfl
        · rw [if_neg q2]
          by_cases q3 : nmf ts x = w_on
          · rw [if_pos q3]
            simp only [r301_28, r301_29, r301_32, r301_33, r301_35, r301_38, r301_40, r301_42, r301_45, r301_46, r301_49, r301_50, r301_53, r301_55, r301_58, r301_59, r301_62, r301_63, r301_66, r301_68, r301_71, r301_72, r301_75, r301_76, r301_79, r301_81, r301_84, r301_85, r301_88, r301_90, r301_93, r301_94, mx_isr_ref, mx_isr_null, mx_wt_nil, mx_wt_1, mx_wt_2, mx_wt_3, Option.bind_some, Option.toList_some, Option.toList_none, List.cons_append, List.nil_append, mx_nl_int, mx_nl_ref, mx_nl_null, mx_nl_none, mx_nb0, mx_nb1, mx_fb0, mx_fb1, mx_cat_int, mx_cat_ref, if_true, if_false, not_true_eq_false, not_false_eq_true, T, nm, lg_cmp0, nmV_name, nmV_age, nmV_on, eq_false q1, eq_false q2, eq_true q3]
            rfl
          · rw [if_neg q3]
            by_cases q4 : nmf ts x = w_mail
            · rw [if_pos q4]
              simp only [r301_28, r301_29, r301_32, r301_33, r301_35, r301_38, r301_40, r301_42, r301_45, r301_46, r301_49, r301_50, r301_53, r301_55, r301_58, r301_59, r301_62, r301_63, r301_66, r301_68, r301_71, r301_72, r301_75, r301_76, r301_79, r301_81, r301_84, r301_85, r301_88, r301_90, r301_93, r301_94, mx_isr_ref, mx_isr_null, mx_wt_nil, mx_wt_1, mx_wt_2, mx_wt_3, Option.bind_some, Option.toList_some, Option.toList_none, List.cons_append, List.nil_append, mx_nl_int, mx_nl_ref, mx_nl_null, mx_nl_none, mx_nb0, mx_nb1, mx_fb0, mx_fb1, mx_cat_int, mx_cat_ref, if_true, if_false, not_true_eq_false, not_false_eq_true, T, nm, lg_cmp0, nmV_name, nmV_age, nmV_on, nmV_mail, eq_false q1, eq_false q2, eq_false q3, eq_true q4]
              rfl
            · rw [if_neg q4]
              simp only [r301_28, r301_29, r301_32, r301_33, r301_35, r301_38, r301_40, r301_42, r301_45, r301_46, r301_49, r301_50, r301_53, r301_55, r301_58, r301_59, r301_62, r301_63, r301_66, r301_68, r301_71, r301_72, r301_75, r301_76, r301_79, r301_81, r301_84, r301_85, r301_88, r301_90, r301_93, r301_94, mx_isr_ref, mx_isr_null, mx_wt_nil, mx_wt_1, mx_wt_2, mx_wt_3, Option.bind_some, Option.toList_some, Option.toList_none, List.cons_append, List.nil_append, mx_nl_int, mx_nl_ref, mx_nl_null, mx_nl_none, mx_nb0, mx_nb1, mx_fb0, mx_fb1, mx_cat_int, mx_cat_ref, if_true, if_false, not_true_eq_false, not_false_eq_true, T, nm, lg_cmp0, nmV_name, nmV_age, nmV_on, nmV_mail, eq_false q1, eq_false q2, eq_false q3, eq_false q4]
              rfl
    rw [s1, aAl]
    by_cases w0 : wyN (nmf ts x) = 0
    · rw [w0, show nI 0 = 0 from rfl]
      by_cases q1 : nmf ts x = w_id ∨ nmf ts x = w_version
      · rw [if_pos q1]
        obtain ⟨h', r, m', G⟩ := ih p h1 (some (.long (nmV ts x))) none (some (.int 0)) hch.2.2 hv' R W b1 b2 m
        refine ⟨h', ?_, m', G⟩
        rw [← r]
        by_cases q2 : nmf ts x = w_id
        · simp only [r301_96, r301_98, r301_101, r301_102, r301_103, r301_105, r301_106, r301_107, r301_109, r301_110, r301_111, r301_114, r301_115, r301_118, r301_120, r301_123, r301_124, r301_127, r301_129, r301_132, r301_133, r301_136, r301_139, r301_140, r301_141, r301_143, r301_144, r301_147, r301_149, mx_isr_ref, mx_isr_null, mx_wt_nil, mx_wt_1, mx_wt_2, mx_wt_3, Option.bind_some, Option.toList_some, Option.toList_none, List.cons_append, List.nil_append, mx_nl_int, mx_nl_ref, mx_nl_null, mx_nl_none, mx_nb0, mx_nb1, mx_fb0, mx_fb1, mx_cat_int, mx_cat_ref, if_true, if_false, not_true_eq_false, not_false_eq_true, T, lg_cmp0, nmV_id, eq_true q2, af h1 m, show (0 : Int32) ≤ 0 by decide]
        · have q3 : nmf ts x = w_version := q1.resolve_left q2
          simp only [r301_96, r301_98, r301_101, r301_102, r301_103, r301_105, r301_106, r301_107, r301_109, r301_110, r301_111, r301_114, r301_115, r301_118, r301_120, r301_123, r301_124, r301_127, r301_129, r301_132, r301_133, r301_136, r301_139, r301_140, r301_141, r301_143, r301_144, r301_147, r301_149, mx_isr_ref, mx_isr_null, mx_wt_nil, mx_wt_1, mx_wt_2, mx_wt_3, Option.bind_some, Option.toList_some, Option.toList_none, List.cons_append, List.nil_append, mx_nl_int, mx_nl_ref, mx_nl_null, mx_nl_none, mx_nb0, mx_nb1, mx_fb0, mx_fb1, mx_cat_int, mx_cat_ref, if_true, if_false, not_true_eq_false, not_false_eq_true, T, lg_cmp0, nmV_id, nmV_ver, eq_false q2, eq_true q3, af h1 m, show (0 : Int32) ≤ 0 by decide]
      · rw [if_neg q1, if_pos rfl]
        refine ⟨h1, ?_, m, fun z => absurd (show (-401 : Int) = 0 from z) (by decide)⟩
        have X := rm_paX (d := d + 8) (h := h1) (a := some (.int (nI c))) (b := some (.int (nI v))) (l5 := some (.long (nmV ts x))) (l6 := none) (l7 := some (.int 0)) (e := -401) (x := nx l) (by decide)
        show _ = some (some (Value.int (-401)), h1)
        rw [← X]
        simp only [r301_96, r301_98, r301_101, r301_102, r301_103, r301_105, r301_106, r301_107, r301_109, r301_110, r301_111, r301_114, r301_115, r301_118, r301_120, r301_123, r301_124, r301_127, r301_129, r301_132, r301_133, r301_136, r301_139, r301_140, r301_141, r301_143, r301_144, r301_147, r301_149, mx_isr_ref, mx_isr_null, mx_wt_nil, mx_wt_1, mx_wt_2, mx_wt_3, Option.bind_some, Option.toList_some, Option.toList_none, List.cons_append, List.nil_append, mx_nl_int, mx_nl_ref, mx_nl_null, mx_nl_none, mx_nb0, mx_nb1, mx_fb0, mx_fb1, mx_cat_int, mx_cat_ref, if_true, if_false, not_true_eq_false, not_false_eq_true, T, lg_cmp0, nmV_id, nmV_ver, eq_false (fun z => q1 (Or.inl z)), eq_false (fun z => q1 (Or.inr z)), af h1 m, show (0 : Int32) ≤ 0 by decide]
    · have q1 : ¬ (nmf ts x = w_id ∨ nmf ts x = w_version) := by
        intro q
        apply w0
        rcases q with q | q <;> rw [q] <;> decide
      rw [if_neg q1, if_neg w0]
      have wb : wyN (nmf ts x) ≤ 6 := by unfold wyN; repeat' split <;> try decide
      obtain ⟨h2, r2, m2, G2⟩ := rm_perform (d := d) S1 K R W b1 b2 (c := c) (way := wyN (nmf ts x)) (low := 0) (v := x + 2) (q := nof) hc (by omega) (by omega) (lo := 0) (hi := 0) (fun z => by omega) (fun _ => hvx) (fun _ => by omega)
      have M := mf_trans m m2
      have wp : ¬ nI (wyN (nmf ts x)) ≤ 0 := nI_nle (by omega) (by omega)
      have ee := aTg_e (ts := ts) c (wyN (nmf ts x)) nof.2 (x + 2) p wb
      have wq := aTg_wf K c (wyN (nmf ts x)) nof.2 (x + 2) W
      rw [show (fun _ _ => true : prs → Option Nat → Bool) = nof.2 from rfl]
      generalize aTg ts c (wyN (nmf ts x)) nof.2 (x + 2) p = u at *
      obtain ⟨ec, p'⟩ := u
      show ∃ h', _ = some (some (Value.int (Int32.ofInt (if ec = 0 then aAl ts c l p' else (ec, p)).1)), h') ∧ mf Ppf h h' ∧ ((if ec = 0 then aAl ts c l p' else (ec, p)).1 = 0 → rcP h' 8 (if ec = 0 then aAl ts c l p' else (ec, p)).2)
      by_cases z : ec = 0
      · simp only [if_pos z]
        obtain ⟨h', r, m', G⟩ := ih p' h2 (some (.long (nmV ts x))) none (some (.int (nI (wyN (nmf ts x))))) hch.2.2 hv' (G2 z) wq.1 (by have := wq.2.1; rw [show p'.1 = p.1 from this]; exact b1) (by have := wq.2.2; rw [show p'.2.1 = p.2.1 from this]; exact b2) M
        refine ⟨h', ?_, m', G⟩
        rw [← r]
        subst z
        have r2 : mx_G (d + 7) 302 0 [some (.ref 76), some (.int (nI c)), some (.int (nI (wyN (nmf ts x)))), some (.int 0), some (.int 0), some (.int (nI (x + 2))), none, none, none] [] h1 = some (some (.int 0), h2) := r2
        simp only [r301_96, r301_98, r301_101, r301_102, r301_103, r301_105, r301_106, r301_107, r301_109, r301_110, r301_111, r301_114, r301_115, r301_118, r301_120, r301_123, r301_124, r301_127, r301_129, r301_132, r301_133, r301_136, r301_139, r301_140, r301_141, r301_143, r301_144, r301_147, r301_149, mx_isr_ref, mx_isr_null, mx_wt_nil, mx_wt_1, mx_wt_2, mx_wt_3, Option.bind_some, Option.toList_some, Option.toList_none, List.cons_append, List.nil_append, mx_nl_int, mx_nl_ref, mx_nl_null, mx_nl_none, mx_nb0, mx_nb1, mx_fb0, mx_fb1, mx_cat_int, mx_cat_ref, if_true, if_false, not_true_eq_false, not_false_eq_true, T, M.1, wp, e2, r2, af h2 M]
      · simp only [if_neg z]
        refine ⟨h2, ?_, M, fun y => absurd y z⟩
        have ne : ¬ Int32.ofInt ec = 0 := by rcases ee with q | q | q | q <;> first | exact absurd q z | (have q : ec = _ := q; rw [q]; decide)
        have X := rm_paX (d := d + 8) (h := h2) (a := some (.int (nI c))) (b := some (.int (nI v))) (l5 := some (.long (nmV ts x))) (l6 := none) (l7 := some (.int (nI (wyN (nmf ts x))))) (x := nx l) ne
        rw [← X]
        simp only [r301_96, r301_98, r301_101, r301_102, r301_103, r301_105, r301_106, r301_107, r301_109, r301_110, r301_111, r301_114, r301_115, r301_118, r301_120, r301_123, r301_124, r301_127, r301_129, r301_132, r301_133, r301_136, r301_139, r301_140, r301_141, r301_143, r301_144, r301_147, r301_149, mx_isr_ref, mx_isr_null, mx_wt_nil, mx_wt_1, mx_wt_2, mx_wt_3, Option.bind_some, Option.toList_some, Option.toList_none, List.cons_append, List.nil_append, mx_nl_int, mx_nl_ref, mx_nl_null, mx_nl_none, mx_nb0, mx_nb1, mx_fb0, mx_fb1, mx_cat_int, mx_cat_ref, if_true, if_false, not_true_eq_false, not_false_eq_true, T, M.1, wp, e2, r2, af h2 M]
theorem rm_performAll (S : rm_TK h ts) (K : tkOK ts) {c v : Nat} (hc : c < 128) (hv : vOk ts v) {p : prs} (R : rcP h 8 p) (W : wfP p) (b1 : p.1 < 2 ^ 20) (b2 : p.2.1 < 2 ^ 20) :
    ∃ h', mx_G (d + 8) 301 0 [some (.ref 76), some (.int (nI c)), some (.int (nI v)), none, none, none, none, none] [] h = some (some (.int (Int32.ofInt (if tI ts v 123 = true then aAl ts c (kd ts v) p else (-401, p)).1)), h') ∧ mf Ppf h h' ∧ ((if tI ts v 123 = true then aAl ts c (kd ts v) p else (-401, p)).1 = 0 → rcP h' 8 (if tI ts v 123 = true then aAl ts c (kd ts v) p else (-401, p)).2) := by
  have T := S.1.1
  have hl := S.1.2.1
  have vl := vOk_lt hv
  have i := rm_isF (d := d + 7) S.1 (t := v) (by omega)
  by_cases z : tI ts v 123 = true
  · simp only [if_pos z]
    obtain ⟨e0, hE, -⟩ := id hv
    have fi := rm_first (d := d + 6) S.1 (by omega) hE (Or.inl z)
    obtain ⟨h', r, m, G⟩ := rm_paL (d := d) S K (v := v) hc _ p h none none none (kd_chn.1 z) (fun m hm => ((vOk_obj hv z).2 m hm).2) R W b1 b2 (mf_rfl T)
    refine ⟨h', ?_, m, G⟩
    rw [← r]
    simp only [r301_0, r301_1, r301_2, r301_4, r301_7, r301_10, r301_13, r301_14, r301_15, r301_16, r301_17, r301_18, r301_21, mx_isr_ref, mx_isr_null, mx_wt_nil, mx_wt_1, mx_wt_2, mx_wt_3, Option.bind_some, Option.toList_some, Option.toList_none, List.cons_append, List.nil_append, mx_nl_int, mx_nl_ref, mx_nl_null, mx_nl_none, mx_nb0, mx_nb1, mx_fb0, mx_fb1, mx_cat_int, mx_cat_ref, if_true, if_false, not_true_eq_false, not_false_eq_true, T, i, z, fi, show ¬ (1 : Int32) = 0 by decide]
  · simp only [if_neg z]
    have z' : tI ts v 123 = false := Bool.eq_false_iff.2 z
    refine ⟨h, ?_, mf_rfl T, fun q => absurd q (by decide)⟩
    simp only [r301_0, r301_1, r301_2, r301_4, r301_7, r301_10, r301_13, mx_isr_ref, mx_isr_null, mx_wt_nil, mx_wt_1, mx_wt_2, mx_wt_3, Option.bind_some, Option.toList_some, Option.toList_none, List.cons_append, List.nil_append, mx_nl_int, mx_nl_ref, mx_nl_null, mx_nl_none, mx_nb0, mx_nb1, mx_fb0, mx_fb1, mx_cat_int, mx_cat_ref, if_true, if_false, not_true_eq_false, not_false_eq_true, T, i, z', Bool.false_eq_true]
    rfl
end
