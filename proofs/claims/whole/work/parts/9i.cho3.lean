section
variable {d : Nat} {h : mx_H} {ts : List tk}
theorem mrk_1 (l : List itm) : ((mrk l).map fun x => x.1) = l := by
  unfold mrk
  rw [List.map_map]
  exact List.map_id l
theorem nI3 {part : Nat} (hp : part < 3) : (nI part = 1 ↔ part = 1) ∧ (nI part = 2 ↔ part = 2) ∧ (nI part = 0 ↔ part = 0) := ⟨nI_eq (b := 1) (by omega) (by decide), nI_eq (b := 2) (by omega) (by decide), nI_eq (b := 0) (by omega) (by decide)⟩
theorem rm_doChosen (S : rm_TK h ts) (K : tkOK ts) {l : List itm} (D : dI h (mrk l)) {bs : List Bool} (hb : bs.length = l.length) (C : cS h bs) {c part v : Nat} (hc : c < 128) (hp : part < 3) (hv : c ≠ 45 → vOk ts v) (hv' : c ≠ 45 → v < 2 ^ 30) :
    ∃ h', mx_G (d + 6) 317 0 [some (.ref 76), some (.int (nI c)), some (.int (nI part)), some (.int (nI v)), none, none, none] [] h = some (some (.int (Int32.ofInt (chR ts c part v bs l).1)), h') ∧ mf P79 h h' ∧ (∀ i, i < 659 → mi h' 77 i = mi h 77 i) ∧ ((chR ts c part v bs l).1 = 0 → dI h' (chR ts c part v bs l).2) := by
  have T := S.1.1
  have hl := S.1.2.1
  have W := dI_w D
  rw [mrk_1] at W
  have A := rm_chA (d := d) hb T C W (c := nI c) (part := nI part) (v := nI v) (l6 := none) l.length 0 true (Nat.zero_add _)
  rw [Bool.true_and, List.drop_zero, show nI 0 = 0 from rfl] at A
  have st : mx_G (d + 6) 317 0 [some (.ref 76), some (.int (nI c)), some (.int (nI part)), some (.int (nI v)), none, none, none] [] h = mx_G (d + 6) 317 47 [some (.ref 76), some (.int (nI c)), some (.int (nI part)), some (.int (nI v)), some (.int (if (bs.all fun x => !x) = true then 1 else 0)), some (.int (nI l.length)), none] [] h := by
    rw [← A]
    simp only [r317_0, r317_1, r317_3, r317_4, mx_isr_ref, mx_isr_null, mx_wt_nil, mx_wt_1, mx_wt_2, mx_wt_3, Option.bind_some, Option.toList_some, Option.toList_none, List.cons_append, List.nil_append, mx_nl_int, mx_nl_ref, mx_nl_null, mx_nl_none, mx_nb0, mx_nb1, mx_fb0, mx_fb1, mx_cat_int, mx_cat_ref, if_true, if_false, not_true_eq_false, not_false_eq_true]
  rw [st]
  obtain ⟨q1, q2, q0⟩ := nI3 hp
  have L := fun V => rm_chL (d := d) S K hb C (c := c) (part := part) (v := v) (l4 := if (bs.all fun x => !x) = true then 1 else 0) (l5 := 1) hc hp V l.length 0 [] h (Nat.zero_add _) rfl D (mf_rfl T) fun _ _ => rfl
  simp only [List.nil_append, List.drop_zero, show nI 0 = 0 from rfl] at L
  unfold chR
  by_cases c45 : c = 45
  · have e : nI c = 45 := by rw [c45]; rfl
    rcases (show part = 0 ∨ part = 1 ∨ part = 2 by omega) with p | p | p
    · have n1 : ¬ (c = 45 ∧ part = 1) := fun z => by omega
      simp only [if_neg n1, if_pos (show c = 45 ∧ part = 0 from ⟨c45, p⟩)]
      obtain ⟨h', r, m, f, D'⟩ := rm_drop (d := d + 4) T hb D C
      refine ⟨h', ?_, m, f, fun _ => D'⟩
      have e0 := q0.2 p
      rw [e0]
      simp only [r317_47, r317_48, r317_50, r317_53, r317_54, r317_55, r317_58, r317_61, r317_62, r317_63, r317_65, r317_68, r317_69, r317_72, r317_73, r317_76, r317_77, r317_79, r317_82, r317_83, r317_86, r317_87, mx_isr_ref, mx_isr_null, mx_wt_nil, mx_wt_1, mx_wt_2, mx_wt_3, Option.bind_some, Option.toList_some, Option.toList_none, List.cons_append, List.nil_append, mx_nl_int, mx_nl_ref, mx_nl_null, mx_nl_none, mx_nb0, mx_nb1, mx_fb0, mx_fb1, mx_cat_int, mx_cat_ref, if_true, if_false, not_true_eq_false, not_false_eq_true, T, m.1, eq_true e, r, show ¬ (0 : Int32) = 1 by decide]
      rfl
    · simp only [if_pos (show c = 45 ∧ part = 1 from ⟨c45, p⟩)]
      have e0 := q1.2 p
      rw [e0]
      refine ⟨h, ?_, mf_rfl T, fun _ _ => rfl, fun z => absurd z (by decide)⟩
      simp only [r317_47, r317_48, r317_50, r317_53, r317_54, r317_55, r317_58, r317_61, mx_isr_ref, mx_isr_null, mx_wt_nil, mx_wt_1, mx_wt_2, mx_wt_3, Option.bind_some, Option.toList_some, Option.toList_none, List.cons_append, List.nil_append, mx_nl_int, mx_nl_ref, mx_nl_null, mx_nl_none, mx_nb0, mx_nb1, mx_fb0, mx_fb1, mx_cat_int, mx_cat_ref, if_true, if_false, not_true_eq_false, not_false_eq_true, eq_true e]
      rfl
    · have n1 : ¬ (c = 45 ∧ part = 1) := fun z => by omega
      have n2 : ¬ (c = 45 ∧ part = 0) := fun z => by omega
      have n3 : ¬ (c ≠ 45 ∧ (bs.all fun b => !b) = true) := fun z => z.1 c45
      simp only [if_neg n1, if_neg n2, if_neg n3, if_pos (show c = 45 ∨ chO ts c part v = true from Or.inl c45)]
      obtain ⟨h', r, m, f, D'⟩ := L ⟨hv', fun z => by omega, fun z => by omega⟩
      refine ⟨h', ?_, m, f, fun _ => D'⟩
      show _ = some (some (Value.int 0), h')
      rw [← r]
      have e0 := q2.2 p
      rw [e0]
      simp only [r317_47, r317_48, r317_50, r317_53, r317_54, r317_55, r317_58, r317_61, r317_62, r317_63, r317_65, r317_68, r317_69, r317_72, r317_73, r317_76, r317_77, r317_79, r317_82, r317_83, r317_86, r317_87, r317_88, r317_89, r317_91, r317_94, r317_96, r317_99, r317_102, r317_103, r317_104, r317_106, r317_109, r317_110, r317_111, r317_114, r317_115, r317_116, r317_119, r317_122, r317_125, r317_126, r317_127, r317_130, r317_131, r317_132, r317_135, r317_136, r317_139, r317_142, r317_143, r317_144, r317_145, r317_147, r317_150, r317_151, r317_154, r317_155, r317_158, r317_161, r317_162, r317_165, r317_166, r317_168, r317_170, r317_173, r317_176, r317_177, r317_178, mx_isr_ref, mx_isr_null, mx_wt_nil, mx_wt_1, mx_wt_2, mx_wt_3, Option.bind_some, Option.toList_some, Option.toList_none, List.cons_append, List.nil_append, mx_nl_int, mx_nl_ref, mx_nl_null, mx_nl_none, mx_nb0, mx_nb1, mx_fb0, mx_fb1, mx_cat_int, mx_cat_ref, if_true, if_false, not_true_eq_false, not_false_eq_true, T, eq_true e, show ¬ (2 : Int32) = 1 by decide, show ¬ (2 : Int32) = 0 by decide, show ¬ (1 : Int32) = 0 by decide]
  · have e : ¬ nI c = 45 := fun z => c45 ((nI_eq (b := 45) (by omega) (by decide)).mp z)
    have n1 : ¬ (c = 45 ∧ part = 1) := fun z => c45 z.1
    have n2 : ¬ (c = 45 ∧ part = 0) := fun z => c45 z.1
    simp only [if_neg n1, if_neg n2]
    have hv := hv c45
    have hv' := hv' c45
    cases a : (bs.all fun b => !b) with
    | true =>
      simp only [show (c ≠ 45 ∧ True) = True from eq_true ⟨c45, trivial⟩, if_true]
      refine ⟨h, ?_, mf_rfl T, fun _ _ => rfl, fun z => absurd z (by decide)⟩
      simp only [r317_47, r317_48, r317_50, r317_53, r317_54, r317_55, r317_58, r317_61, r317_62, r317_63, r317_65, r317_68, r317_69, r317_72, r317_73, r317_76, r317_77, r317_79, r317_82, r317_83, r317_86, r317_87, r317_88, r317_89, r317_91, r317_94, r317_96, r317_99, r317_102, mx_isr_ref, mx_isr_null, mx_wt_nil, mx_wt_1, mx_wt_2, mx_wt_3, Option.bind_some, Option.toList_some, Option.toList_none, List.cons_append, List.nil_append, mx_nl_int, mx_nl_ref, mx_nl_null, mx_nl_none, mx_nb0, mx_nb1, mx_fb0, mx_fb1, mx_cat_int, mx_cat_ref, if_true, if_false, not_true_eq_false, not_false_eq_true, eq_false e, show ¬ (1 : Int32) = 0 by decide]
      rfl
    | false =>
      simp only [a] at L
      have n3 : ¬ (c ≠ 45 ∧ false = true) := fun z => by cases z.2
      simp only [if_neg n3]
      have s2 : mx_G (d + 6) 317 47 [some (.ref 76), some (.int (nI c)), some (.int (nI part)), some (.int (nI v)), some (.int (if false = true then 1 else 0)), some (.int (nI l.length)), none] [] h = mx_G (d + 6) 317 168 [some (.ref 76), some (.int (nI c)), some (.int (nI part)), some (.int (nI v)), some (.int (if false = true then 1 else 0)), some (.int (if chO ts c part v = true then 1 else 0)), none] [] h := by
        unfold chO
        by_cases p1 : part = 1
        · have e1 := q1.2 p1
          have ft := rm_fits (d := d + 3) S (t := v) hv'
          rw [if_pos p1, e1]
          cases z : ftx ts v with
          | true => rw [z] at ft; simp only [r317_47, r317_48, r317_50, r317_53, r317_54, r317_55, r317_58, r317_61, r317_62, r317_63, r317_65, r317_68, r317_69, r317_72, r317_73, r317_76, r317_77, r317_79, r317_82, r317_83, r317_86, r317_87, r317_88, r317_89, r317_91, r317_94, r317_96, r317_99, r317_102, r317_103, r317_104, r317_106, r317_109, r317_110, r317_111, r317_114, r317_115, r317_116, r317_119, r317_122, r317_125, r317_126, r317_127, r317_130, r317_131, r317_132, r317_135, r317_136, r317_139, r317_142, r317_143, r317_144, r317_145, r317_147, r317_150, r317_151, r317_154, r317_155, r317_158, r317_161, r317_162, r317_165, r317_166, mx_isr_ref, mx_isr_null, mx_wt_nil, mx_wt_1, mx_wt_2, mx_wt_3, Option.bind_some, Option.toList_some, Option.toList_none, List.cons_append, List.nil_append, mx_nl_int, mx_nl_ref, mx_nl_null, mx_nl_none, mx_nb0, mx_nb1, mx_fb0, mx_fb1, mx_cat_int, mx_cat_ref, if_true, if_false, not_true_eq_false, not_false_eq_true, T, eq_false e, ft, Bool.false_eq_true, show ¬ (1 : Int32) = 0 by decide]
          | false => rw [z] at ft; simp only [r317_47, r317_48, r317_50, r317_53, r317_54, r317_55, r317_58, r317_61, r317_62, r317_63, r317_65, r317_68, r317_69, r317_72, r317_73, r317_76, r317_77, r317_79, r317_82, r317_83, r317_86, r317_87, r317_88, r317_89, r317_91, r317_94, r317_96, r317_99, r317_102, r317_103, r317_104, r317_106, r317_109, r317_110, r317_111, r317_114, r317_115, r317_116, r317_119, r317_122, r317_125, r317_126, r317_127, r317_130, r317_131, r317_132, r317_135, r317_136, r317_139, r317_142, r317_143, r317_144, r317_145, r317_147, r317_150, r317_151, r317_154, r317_155, r317_158, r317_161, r317_162, r317_165, r317_166, mx_isr_ref, mx_isr_null, mx_wt_nil, mx_wt_1, mx_wt_2, mx_wt_3, Option.bind_some, Option.toList_some, Option.toList_none, List.cons_append, List.nil_append, mx_nl_int, mx_nl_ref, mx_nl_null, mx_nl_none, mx_nb0, mx_nb1, mx_fb0, mx_fb1, mx_cat_int, mx_cat_ref, if_true, if_false, not_true_eq_false, not_false_eq_true, T, eq_false e, ft, Bool.false_eq_true]
        · have e1 : ¬ nI part = 1 := fun z => p1 (q1.1 z)
          rw [if_neg p1]
          by_cases p2 : part = 2
          · have e2 := q2.2 p2
            rw [if_pos p2, e2]
            have sca := rm_scalar (d := d + 4) S (t := v) hv'
            have sc4 := sc_lt4 (ts := ts) v
            by_cases z : sc ts v = 3
            · rw [z, show nI 3 = 3 from rfl] at sca
              simp only [r317_47, r317_48, r317_50, r317_53, r317_54, r317_55, r317_58, r317_61, r317_62, r317_63, r317_65, r317_68, r317_69, r317_72, r317_73, r317_76, r317_77, r317_79, r317_82, r317_83, r317_86, r317_87, r317_88, r317_89, r317_91, r317_94, r317_96, r317_99, r317_102, r317_103, r317_104, r317_106, r317_109, r317_110, r317_111, r317_114, r317_115, r317_116, r317_119, r317_122, r317_125, r317_126, r317_127, r317_130, r317_131, r317_132, r317_135, r317_136, r317_139, r317_142, r317_143, r317_144, r317_145, r317_147, r317_150, r317_151, r317_154, r317_155, r317_158, r317_161, r317_162, r317_165, r317_166, mx_isr_ref, mx_isr_null, mx_wt_nil, mx_wt_1, mx_wt_2, mx_wt_3, Option.bind_some, Option.toList_some, Option.toList_none, List.cons_append, List.nil_append, mx_nl_int, mx_nl_ref, mx_nl_null, mx_nl_none, mx_nb0, mx_nb1, mx_fb0, mx_fb1, mx_cat_int, mx_cat_ref, if_true, if_false, not_true_eq_false, not_false_eq_true, T, eq_false e, sca, Bool.false_eq_true, show ¬ (2 : Int32) = 1 by decide, z, decide_true]
            · have e3 : ¬ nI (sc ts v) = 3 := fun y => z ((nI_eq (b := 3) (by omega) (by decide)).mp y)
              simp only [r317_47, r317_48, r317_50, r317_53, r317_54, r317_55, r317_58, r317_61, r317_62, r317_63, r317_65, r317_68, r317_69, r317_72, r317_73, r317_76, r317_77, r317_79, r317_82, r317_83, r317_86, r317_87, r317_88, r317_89, r317_91, r317_94, r317_96, r317_99, r317_102, r317_103, r317_104, r317_106, r317_109, r317_110, r317_111, r317_114, r317_115, r317_116, r317_119, r317_122, r317_125, r317_126, r317_127, r317_130, r317_131, r317_132, r317_135, r317_136, r317_139, r317_142, r317_143, r317_144, r317_145, r317_147, r317_150, r317_151, r317_154, r317_155, r317_158, r317_161, r317_162, r317_165, r317_166, mx_isr_ref, mx_isr_null, mx_wt_nil, mx_wt_1, mx_wt_2, mx_wt_3, Option.bind_some, Option.toList_some, Option.toList_none, List.cons_append, List.nil_append, mx_nl_int, mx_nl_ref, mx_nl_null, mx_nl_none, mx_nb0, mx_nb1, mx_fb0, mx_fb1, mx_cat_int, mx_cat_ref, if_true, if_false, not_true_eq_false, not_false_eq_true, T, eq_false e, sca, e3, Bool.false_eq_true, show ¬ (2 : Int32) = 1 by decide, eq_false z, decide_false]
          · have e2 : ¬ nI part = 2 := fun z => p2 (q2.1 z)
            rw [if_neg p2]
            by_cases c61 : c = 61
            · have e6 : nI c = 61 := by rw [c61]; rfl
              have cb : (c == 61) = true := by rw [c61]; rfl
              rw [cb]
              have ii : mx_G (d + 5) 266 0 [some (.ref 76), some (.int (nI v)), some (.int 1), none, none] [] h = some (some (.int (if iiB ts v true = true then 1 else 0)), h) := rm_isItem (d := d + 1) S hv true
              cases z : iiB ts v true with
              | true => rw [z] at ii; simp only [r317_47, r317_48, r317_50, r317_53, r317_54, r317_55, r317_58, r317_61, r317_62, r317_63, r317_65, r317_68, r317_69, r317_72, r317_73, r317_76, r317_77, r317_79, r317_82, r317_83, r317_86, r317_87, r317_88, r317_89, r317_91, r317_94, r317_96, r317_99, r317_102, r317_103, r317_104, r317_106, r317_109, r317_110, r317_111, r317_114, r317_115, r317_116, r317_119, r317_122, r317_125, r317_126, r317_127, r317_130, r317_131, r317_132, r317_135, r317_136, r317_139, r317_142, r317_143, r317_144, r317_145, r317_147, r317_150, r317_151, r317_154, r317_155, r317_158, r317_161, r317_162, r317_165, r317_166, mx_isr_ref, mx_isr_null, mx_wt_nil, mx_wt_1, mx_wt_2, mx_wt_3, Option.bind_some, Option.toList_some, Option.toList_none, List.cons_append, List.nil_append, mx_nl_int, mx_nl_ref, mx_nl_null, mx_nl_none, mx_nb0, mx_nb1, mx_fb0, mx_fb1, mx_cat_int, mx_cat_ref, if_true, if_false, not_true_eq_false, not_false_eq_true, T, eq_false e, eq_true e6, e1, e2, ii, Bool.false_eq_true, show ¬ (1 : Int32) = 0 by decide]
              | false => rw [z] at ii; simp only [r317_47, r317_48, r317_50, r317_53, r317_54, r317_55, r317_58, r317_61, r317_62, r317_63, r317_65, r317_68, r317_69, r317_72, r317_73, r317_76, r317_77, r317_79, r317_82, r317_83, r317_86, r317_87, r317_88, r317_89, r317_91, r317_94, r317_96, r317_99, r317_102, r317_103, r317_104, r317_106, r317_109, r317_110, r317_111, r317_114, r317_115, r317_116, r317_119, r317_122, r317_125, r317_126, r317_127, r317_130, r317_131, r317_132, r317_135, r317_136, r317_139, r317_142, r317_143, r317_144, r317_145, r317_147, r317_150, r317_151, r317_154, r317_155, r317_158, r317_161, r317_162, r317_165, r317_166, mx_isr_ref, mx_isr_null, mx_wt_nil, mx_wt_1, mx_wt_2, mx_wt_3, Option.bind_some, Option.toList_some, Option.toList_none, List.cons_append, List.nil_append, mx_nl_int, mx_nl_ref, mx_nl_null, mx_nl_none, mx_nb0, mx_nb1, mx_fb0, mx_fb1, mx_cat_int, mx_cat_ref, if_true, if_false, not_true_eq_false, not_false_eq_true, T, eq_false e, eq_true e6, e1, e2, ii, Bool.false_eq_true]
            · have e6 : ¬ nI c = 61 := fun z => c61 ((nI_eq (b := 61) (by omega) (by decide)).mp z)
              have cb : (c == 61) = false := beq_eq_false_iff_ne.2 c61
              rw [cb]
              have ii : mx_G (d + 5) 266 0 [some (.ref 76), some (.int (nI v)), some (.int 0), none, none] [] h = some (some (.int (if iiB ts v false = true then 1 else 0)), h) := rm_isItem (d := d + 1) S hv false
              cases z : iiB ts v false with
              | true => rw [z] at ii; simp only [r317_47, r317_48, r317_50, r317_53, r317_54, r317_55, r317_58, r317_61, r317_62, r317_63, r317_65, r317_68, r317_69, r317_72, r317_73, r317_76, r317_77, r317_79, r317_82, r317_83, r317_86, r317_87, r317_88, r317_89, r317_91, r317_94, r317_96, r317_99, r317_102, r317_103, r317_104, r317_106, r317_109, r317_110, r317_111, r317_114, r317_115, r317_116, r317_119, r317_122, r317_125, r317_126, r317_127, r317_130, r317_131, r317_132, r317_135, r317_136, r317_139, r317_142, r317_143, r317_144, r317_145, r317_147, r317_150, r317_151, r317_154, r317_155, r317_158, r317_161, r317_162, r317_165, r317_166, mx_isr_ref, mx_isr_null, mx_wt_nil, mx_wt_1, mx_wt_2, mx_wt_3, Option.bind_some, Option.toList_some, Option.toList_none, List.cons_append, List.nil_append, mx_nl_int, mx_nl_ref, mx_nl_null, mx_nl_none, mx_nb0, mx_nb1, mx_fb0, mx_fb1, mx_cat_int, mx_cat_ref, if_true, if_false, not_true_eq_false, not_false_eq_true, T, eq_false e, eq_false e6, e1, e2, ii, Bool.false_eq_true, show ¬ (1 : Int32) = 0 by decide]
              | false => rw [z] at ii; simp only [r317_47, r317_48, r317_50, r317_53, r317_54, r317_55, r317_58, r317_61, r317_62, r317_63, r317_65, r317_68, r317_69, r317_72, r317_73, r317_76, r317_77, r317_79, r317_82, r317_83, r317_86, r317_87, r317_88, r317_89, r317_91, r317_94, r317_96, r317_99, r317_102, r317_103, r317_104, r317_106, r317_109, r317_110, r317_111, r317_114, r317_115, r317_116, r317_119, r317_122, r317_125, r317_126, r317_127, r317_130, r317_131, r317_132, r317_135, r317_136, r317_139, r317_142, r317_143, r317_144, r317_145, r317_147, r317_150, r317_151, r317_154, r317_155, r317_158, r317_161, r317_162, r317_165, r317_166, mx_isr_ref, mx_isr_null, mx_wt_nil, mx_wt_1, mx_wt_2, mx_wt_3, Option.bind_some, Option.toList_some, Option.toList_none, List.cons_append, List.nil_append, mx_nl_int, mx_nl_ref, mx_nl_null, mx_nl_none, mx_nb0, mx_nb1, mx_fb0, mx_fb1, mx_cat_int, mx_cat_ref, if_true, if_false, not_true_eq_false, not_false_eq_true, T, eq_false e, eq_false e6, e1, e2, ii, Bool.false_eq_true]
      rw [s2]
      cases o : chO ts c part v with
      | false =>
        have n4 : ¬ (c = 45 ∨ false = true) := fun q => q.elim c45 (by decide)
        simp only [if_neg n4]
        refine ⟨h, ?_, mf_rfl T, fun _ _ => rfl, fun z => absurd z (by decide)⟩
        simp only [r317_168, r317_170, r317_173, r317_176, mx_isr_ref, mx_isr_null, mx_wt_nil, mx_wt_1, mx_wt_2, mx_wt_3, Option.bind_some, Option.toList_some, Option.toList_none, List.cons_append, List.nil_append, mx_nl_int, mx_nl_ref, mx_nl_null, mx_nl_none, mx_nb0, mx_nb1, mx_fb0, mx_fb1, mx_cat_int, mx_cat_ref, if_true, if_false, not_true_eq_false, not_false_eq_true, Bool.false_eq_true]
        rfl
      | true =>
        simp only [show (c = 45 ∨ True) = True from eq_true (Or.inr trivial), if_true]
        have V : chV ts c part v := by
          refine ⟨fun _ => hv', fun p1 => ⟨c45, ?_⟩, fun p0 => ?_⟩
          · unfold chO at o
            rw [if_pos p1] at o
            exact o
          · subst p0
            have o : iiB ts v (c == 61) = true := o
            unfold iiB at o
            simp only [Bool.and_eq_true] at o
            exact ⟨c45, hv, o.1, o.2.2⟩
        obtain ⟨h', r, m, f, D'⟩ := L V
        refine ⟨h', ?_, m, f, fun _ => D'⟩
        show _ = some (some (Value.int 0), h')
        rw [← r]
        simp only [r317_168, r317_170, r317_173, r317_176, r317_177, r317_178, mx_isr_ref, mx_isr_null, mx_wt_nil, mx_wt_1, mx_wt_2, mx_wt_3, Option.bind_some, Option.toList_some, Option.toList_none, List.cons_append, List.nil_append, mx_nl_int, mx_nl_ref, mx_nl_null, mx_nl_none, mx_nb0, mx_nb1, mx_fb0, mx_fb1, mx_cat_int, mx_cat_ref, if_true, if_false, not_true_eq_false, not_false_eq_true, show ¬ (1 : Int32) = 0 by decide]
end
