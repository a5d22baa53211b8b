section
variable {d : Nat} {h : mx_H}
theorem srt_eq {sl : slt} {ps : List prs} (H : hld sl ps) (g : prs → Bool) (k : Nat) (dn : Bool) : srt k dn ((ppl sl).filter g) = srt k dn (ps.filter g) := by
  refine srt_perm (H.2.1.filter g) ?_
  have hn : (ids (ppl sl)).Nodup := (H.2.1.symm.map _).nodup H.2.2.1
  exact List.Nodup.sublist (List.Sublist.map _ List.filter_sublist) hn
theorem spR_rev {l : spl} (S : spR h l) : spR h l.reverse := fun x hx => S x (List.mem_reverse.1 hx)
theorem rm_qT {ts : List tk} {sl : slt} {s : sto} (M : mSt h sl s) (S : rm_TK h ts) (K : tkOK ts) {c : List stp} (h12 : mi h 76 12 = nI c.length) (V : rowR h ts 0 c) {g : prs → Option Nat → Bool} (hg : ∀ p, (c = [] → g p none = true) ∧ (c ≠ [] → vW (hd ts) itn false p none c (g p none))) (sort start count : Int32) (dn : Bool) :
    ∃ h', mx_G (d + 8) 321 40 [some (.ref 76), some (.int sort), some (.int (if dn = true then 1 else 0)), some (.int start), some (.int count), none, none, none] [] h = some (some (.int (Int32.ofInt (if sort.toInt < 0 ∨ 4 < sort.toInt then (-401, s) else (((srt sort.toInt.toNat dn (s.1.filter fun p => g p none)).length : Nat), (s.1, s.2.1, (((srt sort.toInt.toNat dn (s.1.filter fun p => g p none)).drop (start.toInt - 1).toNat).take count.toInt.toNat).map fun p => p.1)) : Int × sto).1)), h') ∧
      mSt h' sl (if sort.toInt < 0 ∨ 4 < sort.toInt then (-401, s) else (((srt sort.toInt.toNat dn (s.1.filter fun p => g p none)).length : Nat), (s.1, s.2.1, (((srt sort.toInt.toNat dn (s.1.filter fun p => g p none)).drop (start.toInt - 1).toNat).take count.toInt.toNat).map fun p => p.1)) : Int × sto).2 := by
  have T := M.1
  by_cases cs : sort.toInt < 0 ∨ 4 < sort.toInt
  · rw [if_pos cs]
    refine ⟨h, ?_, M⟩
    by_cases c1 : sort < 0
    · simp only [r321_40, r321_41, r321_44, r321_45, r321_46, r321_49, r321_52, mx_isr_ref, mx_isr_null, mx_wt_nil, mx_wt_1, mx_wt_2, mx_wt_3, Option.bind_some, Option.toList_some, Option.toList_none, List.cons_append, List.nil_append, mx_nl_int, mx_nl_ref, mx_nl_null, mx_nl_none, mx_nb0, mx_nb1, mx_fb0, mx_fb1, mx_cat_int, mx_cat_ref, if_true, if_false, not_true_eq_false, not_false_eq_true, c1]
      rfl
    · have c2 : ¬ sort ≤ 4 := by
        rw [Int32.le_iff_toInt_le]
        have : ¬ sort.toInt < 0 := fun z => c1 (Int32.lt_iff_toInt_lt.2 z)
        have : (4 : Int32).toInt = 4 := by decide
        omega
      simp only [r321_40, r321_41, r321_44, r321_45, r321_46, r321_49, r321_52, mx_isr_ref, mx_isr_null, mx_wt_nil, mx_wt_1, mx_wt_2, mx_wt_3, Option.bind_some, Option.toList_some, Option.toList_none, List.cons_append, List.nil_append, mx_nl_int, mx_nl_ref, mx_nl_null, mx_nl_none, mx_nb0, mx_nb1, mx_fb0, mx_fb1, mx_cat_int, mx_cat_ref, if_true, if_false, not_true_eq_false, not_false_eq_true, c1, c2]
      rfl
  · rw [if_neg cs]
    have c1 : ¬ sort < 0 := fun z => cs (Or.inl (Int32.lt_iff_toInt_lt.1 z))
    obtain ⟨k, kb, e⟩ := nI_of c1
    subst e
    rw [nI_toInt kb] at cs ⊢
    have k4 : k ≤ 4 := by omega
    have c2 : nI k ≤ 4 := nI_le (b := 4) k4 (by decide)
    rw [Int.toNat_natCast]
    obtain ⟨h1, l7, acc, r1, m1, SP1, al8, A1, eq1⟩ := rm_qL (d := d) (dn := dn) (c1 := start) (c2 := count) M S K k4 h12 V (g := fun p => g p none) hg 8 0 [] h none rfl (Nat.le_refl _) (mf_rfl T) (fun x hx => by cases hx) True.intro
    rw [List.drop_zero] at eq1
    have T1 := m1.1
    have M1 := mSt_mf M m1 stq
    have m2 : mf Ppg h1 (mx_up h1 76 34 (.int 0)) := mf_f (mf_rfl T1) (by decide) rfl
    have T2 := m2.1
    have AA : ∀ j (hj : j < acc.reverse.length), mi (mx_up h1 76 34 (.int 0)) 101 j = nI (acc.reverse[j]).1 := by
      intro j hj
      rw [mi_o (by decide), pA_get _ A1 j (by rw [List.length_map]; rw [List.length_reverse] at hj; exact hj), ← List.map_reverse, List.getD_eq_getElem?_getD, List.getElem?_map, List.getElem?_eq_getElem hj]
      rfl
    obtain ⟨h3, r3, m3, p3⟩ := rm_pgL (d := d + 7) (k := k) (dn := dn) (c1 := start) (c2 := count) (R := acc.reverse) (by rw [List.length_reverse]; exact al8) T2 (spR_rev (spR_mf SP1 m2 fun _ => rfl)) AA (l7 := l7) acc.reverse.length 0 _ (Nat.zero_add _) (mf_rfl T2) ⟨by rw [mi_f T1 (by decide), if_pos rfl]; simp; rfl, fun i hi => by simp at hi⟩
    have er : acc.reverse.map (fun y => y.2) = srt k dn (s.1.filter fun p => g p none) := by
      rw [List.map_reverse, eq1, ← srt_eq M.2.1]
      rfl
    have el : acc.length = (srt k dn (s.1.filter fun p => g p none)).length := by rw [← er, List.length_map, List.length_reverse]
    have ep : (((acc.reverse.drop (start.toInt - 1).toNat).take count.toInt.toNat).map fun x : Nat × prs => x.2.1) = ((((srt k dn (s.1.filter fun p => g p none)).drop (start.toInt - 1).toNat).take count.toInt.toNat).map fun p : prs => p.1) := by
      rw [← er, ← List.map_drop, ← List.map_take, List.map_map]
      rfl
    refine ⟨h3, ?_, ?_⟩
    · have s1 : mx_G (d + 8) 321 40 [some (.ref 76), some (.int (nI k)), some (.int (if dn = true then 1 else 0)), some (.int start), some (.int count), none, none, none] [] h = mx_G (d + 8) 321 59 [some (.ref 76), some (.int (nI k)), some (.int (if dn = true then 1 else 0)), some (.int start), some (.int count), some (.int (nI 0)), some (.int (nI 0)), none] [] h := by
        simp only [r321_40, r321_41, r321_44, r321_45, r321_46, r321_49, r321_52, r321_53, r321_54, r321_56, r321_57, mx_isr_ref, mx_isr_null, mx_wt_nil, mx_wt_1, mx_wt_2, mx_wt_3, Option.bind_some, Option.toList_some, Option.toList_none, List.cons_append, List.nil_append, mx_nl_int, mx_nl_ref, mx_nl_null, mx_nl_none, mx_nb0, mx_nb1, mx_fb0, mx_fb1, mx_cat_int, mx_cat_ref, if_true, if_false, not_true_eq_false, not_false_eq_true, c1, c2]
        rfl
      have s2 : mx_G (d + 8) 321 158 [some (.ref 76), some (.int (nI k)), some (.int (if dn = true then 1 else 0)), some (.int start), some (.int count), some (.int (nI acc.length)), some (.int (nI 8)), l7] [] h1 = mx_G (d + 8) 321 166 [some (.ref 76), some (.int (nI k)), some (.int (if dn = true then 1 else 0)), some (.int start), some (.int count), some (.int (nI acc.length)), some (.int (nI 0)), l7] [] (mx_up h1 76 34 (.int 0)) := by
        simp only [r321_158, r321_159, r321_160, r321_163, r321_164, mx_isr_ref, mx_isr_null, mx_wt_nil, mx_wt_1, mx_wt_2, mx_wt_3, Option.bind_some, Option.toList_some, Option.toList_none, List.cons_append, List.nil_append, mx_nl_int, mx_nl_ref, mx_nl_null, mx_nl_none, mx_nb0, mx_nb1, mx_fb0, mx_fb1, mx_cat_int, mx_cat_ref, if_true, if_false, not_true_eq_false, not_false_eq_true, T1, mr_ty_77, mr_n_77, mr_isI_77, mr_ty_78, mr_n_78, mr_isI_78, mr_ty_79, mr_n_79, mr_isI_79, mr_ty_80, mr_n_80, mr_isI_80, mr_ty_81, mr_n_81, mr_isI_81, mr_ty_82, mr_n_82, mr_isJ_82, mr_ty_83, mr_n_83, mr_isI_83, mr_ty_84, mr_n_84, mr_isI_84, mr_ty_85, mr_n_85, mr_isI_85, mr_ty_86, mr_n_86, mr_isI_86, mr_ty_87, mr_n_87, mr_isI_87, mr_ty_88, mr_n_88, mr_isI_88, mr_ty_89, mr_n_89, mr_isJ_89, mr_ty_90, mr_n_90, mr_isI_90, mr_ty_91, mr_n_91, mr_isI_91, mr_ty_92, mr_n_92, mr_isI_92, mr_ty_93, mr_n_93, mr_isI_93, mr_ty_94, mr_n_94, mr_isI_94, mr_ty_95, mr_n_95, mr_isI_95, mr_ty_96, mr_n_96, mr_isI_96, mr_ty_97, mr_n_97, mr_isI_97, mr_ty_98, mr_n_98, mr_isI_98, mr_ty_99, mr_n_99, mr_isI_99, mr_ty_100, mr_n_100, mr_isI_100, mr_ty_101, mr_n_101, mr_isI_101, mr_isF_1, mr_isF_3, mr_isF_4, mr_isF_10, mr_isF_12, mr_isF_18, mr_isF_19, mr_isF_21, mr_isF_22, mr_isF_23, mr_isF_26, mr_isF_34, mr_isF_37, mr_isF_38, mr_isF_39, mr_T_up, mr_T_upJ, mr_T_f]
        rfl
      rw [List.length_reverse] at r3
      rw [s1]
      refine r1.trans ?_
      rw [s2, r3, el, oI_nat]
    · obtain ⟨q1, q2⟩ := p3
      rw [← List.length_map (f := fun x : Nat × prs => x.2.1), ep] at q1
      have m13 := mf_trans m2 m3
      refine ⟨m3.1, M1.2.1, sls_keep M1.2.2.1 fun i _ => m13.2.1 77 i rfl, ⟨(m13.2.1 76 1 rfl).trans M1.2.2.2.1.1, M1.2.2.2.1.2⟩, q1, ?_, fun i hi => ?_⟩
      · rw [← ep, List.length_map, List.length_take, List.length_drop, List.length_reverse]; omega
      · rw [← ep] at hi ⊢
        rw [List.length_map] at hi
        exact q2 i hi
theorem rm_queried {bs : List Nat} {sl : slt} {s : sto} (M : mSt h sl s) (B : rm_buf h bs) (sort start count : Int32) (dn : Bool) :
    ∃ h', mx_G (d + 8) 321 0 [some (.ref 76), some (.int sort), some (.int (if dn = true then 1 else 0)), some (.int start), some (.int count), none, none, none] [] h = some (some (.int (Int32.ofInt (s_query (lx bs.length bs) (lx_good (lx bs.length bs)) s sort.toInt dn start.toInt count.toInt).1)), h') ∧ mSt h' sl (s_query (lx bs.length bs) (lx_good (lx bs.length bs)) s sort.toInt dn start.toInt count.toInt).2 := by
  have T := M.1
  have m0 : mf (fun a k => a == 76 && k == 12) h (mx_up h 76 12 (.int 0)) := mf_f (mf_rfl T) (by decide) rfl
  have T0 := m0.1
  have M0 := mSt_mf M m0 ⟨fun _ _ => rfl, rfl, rfl, fun _ => rfl⟩
  obtain ⟨h1, r1, T1, -, F, S⟩ := rm_cut (d := d + 4) (rm_buf_f B 0 (k := 12) (by decide) (by decide))
  have m1 := fr_mf T1 F
  have M1 := mSt_mf M0 m1 stct
  have h12 : mi h1 76 12 = 0 := by rw [m1.2.1 76 12 rfl, mi_f T (by decide), if_pos rfl]
  unfold s_query
  cases g : lx_good (lx bs.length bs) with
  | false =>
    rw [g] at r1
    refine ⟨h1, ?_, M1⟩
    simp only [r321_0, r321_1, r321_2, r321_5, r321_6, r321_9, r321_12, r321_15, mx_isr_ref, mx_isr_null, mx_wt_nil, mx_wt_1, mx_wt_2, mx_wt_3, Option.bind_some, Option.toList_some, Option.toList_none, List.cons_append, List.nil_append, mx_nl_int, mx_nl_ref, mx_nl_null, mx_nl_none, mx_nb0, mx_nb1, mx_fb0, mx_fb1, mx_cat_int, mx_cat_ref, if_true, if_false, not_true_eq_false, not_false_eq_true, T, T0, mr_ty_77, mr_n_77, mr_isI_77, mr_ty_78, mr_n_78, mr_isI_78, mr_ty_79, mr_n_79, mr_isI_79, mr_ty_80, mr_n_80, mr_isI_80, mr_ty_81, mr_n_81, mr_isI_81, mr_ty_82, mr_n_82, mr_isJ_82, mr_ty_83, mr_n_83, mr_isI_83, mr_ty_84, mr_n_84, mr_isI_84, mr_ty_85, mr_n_85, mr_isI_85, mr_ty_86, mr_n_86, mr_isI_86, mr_ty_87, mr_n_87, mr_isI_87, mr_ty_88, mr_n_88, mr_isI_88, mr_ty_89, mr_n_89, mr_isJ_89, mr_ty_90, mr_n_90, mr_isI_90, mr_ty_91, mr_n_91, mr_isI_91, mr_ty_92, mr_n_92, mr_isI_92, mr_ty_93, mr_n_93, mr_isI_93, mr_ty_94, mr_n_94, mr_isI_94, mr_ty_95, mr_n_95, mr_isI_95, mr_ty_96, mr_n_96, mr_isI_96, mr_ty_97, mr_n_97, mr_isI_97, mr_ty_98, mr_n_98, mr_isI_98, mr_ty_99, mr_n_99, mr_isI_99, mr_ty_100, mr_n_100, mr_isI_100, mr_ty_101, mr_n_101, mr_isI_101, mr_isF_1, mr_isF_3, mr_isF_4, mr_isF_10, mr_isF_12, mr_isF_18, mr_isF_19, mr_isF_21, mr_isF_22, mr_isF_23, mr_isF_26, mr_isF_34, mr_isF_37, mr_isF_38, mr_isF_39, mr_T_up, mr_T_upJ, mr_T_f, r1, Bool.false_eq_true]
    rfl
  | true =>
    rw [g] at r1
    obtain ⟨S1, K⟩ := TK_of (buf_128 B) S g
    rw [if_neg (show ¬ true = false by decide)]
    generalize lx bs.length bs = ts at S1 K
    have hl := S1.1.2.1
    have tk := S1.1.2.2.1
    have pre : mx_G (d + 8) 321 0 [some (.ref 76), some (.int sort), some (.int (if dn = true then 1 else 0)), some (.int start), some (.int count), none, none, none] [] h = mx_G (d + 8) 321 16 [some (.ref 76), some (.int sort), some (.int (if dn = true then 1 else 0)), some (.int start), some (.int count), none, none, none] [] h1 := by
      simp only [r321_0, r321_1, r321_2, r321_5, r321_6, r321_9, mx_isr_ref, mx_isr_null, mx_wt_nil, mx_wt_1, mx_wt_2, mx_wt_3, Option.bind_some, Option.toList_some, Option.toList_none, List.cons_append, List.nil_append, mx_nl_int, mx_nl_ref, mx_nl_null, mx_nl_none, mx_nb0, mx_nb1, mx_fb0, mx_fb1, mx_cat_int, mx_cat_ref, if_true, if_false, not_true_eq_false, not_false_eq_true, T, T0, mr_ty_77, mr_n_77, mr_isI_77, mr_ty_78, mr_n_78, mr_isI_78, mr_ty_79, mr_n_79, mr_isI_79, mr_ty_80, mr_n_80, mr_isI_80, mr_ty_81, mr_n_81, mr_isI_81, mr_ty_82, mr_n_82, mr_isJ_82, mr_ty_83, mr_n_83, mr_isI_83, mr_ty_84, mr_n_84, mr_isI_84, mr_ty_85, mr_n_85, mr_isI_85, mr_ty_86, mr_n_86, mr_isI_86, mr_ty_87, mr_n_87, mr_isI_87, mr_ty_88, mr_n_88, mr_isI_88, mr_ty_89, mr_n_89, mr_isJ_89, mr_ty_90, mr_n_90, mr_isI_90, mr_ty_91, mr_n_91, mr_isI_91, mr_ty_92, mr_n_92, mr_isI_92, mr_ty_93, mr_n_93, mr_isI_93, mr_ty_94, mr_n_94, mr_isI_94, mr_ty_95, mr_n_95, mr_isI_95, mr_ty_96, mr_n_96, mr_isI_96, mr_ty_97, mr_n_97, mr_isI_97, mr_ty_98, mr_n_98, mr_isI_98, mr_ty_99, mr_n_99, mr_isI_99, mr_ty_100, mr_n_100, mr_isI_100, mr_ty_101, mr_n_101, mr_isI_101, mr_isF_1, mr_isF_3, mr_isF_4, mr_isF_10, mr_isF_12, mr_isF_18, mr_isF_19, mr_isF_21, mr_isF_22, mr_isF_23, mr_isF_26, mr_isF_34, mr_isF_37, mr_isF_38, mr_isF_39, mr_T_up, mr_T_upJ, mr_T_f, r1, show ¬ (1 : Int32) = 0 by decide]
    by_cases ce : ts = []
    · rw [if_pos ce]
      have e0 : nI ts.length ≤ 0 := by rw [ce]; decide
      obtain ⟨h', r, M'⟩ := rm_qT (d := d) M1 S1 K (c := []) (by rw [h12]; rfl) ⟨by decide, fun j hj => by cases hj⟩ (g := fun _ _ => true) (fun p => ⟨fun _ => rfl, fun z => absurd rfl z⟩) sort start count dn
      refine ⟨h', ?_, M'⟩
      rw [pre]
      refine Eq.trans ?_ r
      simp only [r321_16, r321_17, r321_20, mx_isr_ref, mx_isr_null, mx_wt_nil, mx_wt_1, mx_wt_2, mx_wt_3, Option.bind_some, Option.toList_some, Option.toList_none, List.cons_append, List.nil_append, mx_nl_int, mx_nl_ref, mx_nl_null, mx_nl_none, mx_nb0, mx_nb1, mx_fb0, mx_fb1, mx_cat_int, mx_cat_ref, if_true, if_false, not_true_eq_false, not_false_eq_true, T1, tk, e0]
    · rw [if_neg ce]
      have e0 : ¬ nI ts.length ≤ 0 := nI_nle (List.length_pos_iff.2 ce) (by omega)
      obtain ⟨h2, r2, m2, o2⟩ := rm_compile (d := d + 3) S1 (t := 0) false (out0 := []) ⟨by rw [h12]; rfl, fun j hj => by cases hj⟩ (Nat.le_refl _) (Nat.zero_le _)
      have r2 : mx_G (d + 7) 292 0 [some (.ref 76), some (.int 0), some (.int 0), none, none, none, none] [] h1 = some (some (.int (match cF ts 6 false 0 with | some q => nI q.2 | none => -1)), h2) := r2
      have T2 := m2.1
      have M2 := mSt_mf M1 m2 stcp
      have S2 := TK_mf S1 m2 tkcp
      have tk2 := S2.1.2.2.1
      cases zc : cF ts 6 false 0 with
      | none =>
        rw [zc] at r2
        have ne : ¬ (-1 : Int32) = nI ts.length := fun z => by
          have := congrArg Int32.toInt z
          rw [nI_toInt (by omega)] at this
          have : (-1 : Int32).toInt = -1 := by decide
          omega
        refine ⟨h2, ?_, M2⟩
        rw [pre]
        simp only [r321_16, r321_17, r321_20, r321_23, r321_24, r321_25, r321_26, r321_29, r321_30, r321_33, r321_36, r321_39, mx_isr_ref, mx_isr_null, mx_wt_nil, mx_wt_1, mx_wt_2, mx_wt_3, Option.bind_some, Option.toList_some, Option.toList_none, List.cons_append, List.nil_append, mx_nl_int, mx_nl_ref, mx_nl_null, mx_nl_none, mx_nb0, mx_nb1, mx_fb0, mx_fb1, mx_cat_int, mx_cat_ref, if_true, if_false, not_true_eq_false, not_false_eq_true, T1, T2, tk, e0, r2, tk2, ne]
        rfl
      | some q =>
        rw [zc] at r2
        have bd := cO_bd _ _ _ _ zc
        have A := cF_A S1.2 hl _ _ _ _ zc
        have O := o2 q zc
        rw [List.nil_append] at O
        by_cases cq : q.2 = ts.length
        · have eq : nI q.2 = nI ts.length := by rw [cq]
          have val := cO_val (hd := hd ts) (its := itn) _ _ _ _ zc
          obtain ⟨h', r, M'⟩ := rm_qT (d := d) M2 S2 K (c := q.1.1) O.1 (row_of O A.2 (by omega)) (g := q.1.2) (fun p => ⟨fun z => absurd z A.2.1, fun _ => val p none⟩) sort start count dn
          simp only [Option.bind_some, if_pos cq]
          refine ⟨h', ?_, M'⟩
          rw [pre]
          refine Eq.trans ?_ r
          simp only [r321_16, r321_17, r321_20, r321_23, r321_24, r321_25, r321_26, r321_29, r321_30, r321_33, mx_isr_ref, mx_isr_null, mx_wt_nil, mx_wt_1, mx_wt_2, mx_wt_3, Option.bind_some, Option.toList_some, Option.toList_none, List.cons_append, List.nil_append, mx_nl_int, mx_nl_ref, mx_nl_null, mx_nl_none, mx_nb0, mx_nb1, mx_fb0, mx_fb1, mx_cat_int, mx_cat_ref, if_true, if_false, not_true_eq_false, not_false_eq_true, T1, T2, tk, e0, r2, tk2, eq_true eq]
        · have ne : ¬ nI q.2 = nI ts.length := fun z => cq ((nI_eq (by omega) (by omega)).mp z)
          simp only [Option.bind_some, if_neg cq]
          refine ⟨h2, ?_, M2⟩
          rw [pre]
          simp only [r321_16, r321_17, r321_20, r321_23, r321_24, r321_25, r321_26, r321_29, r321_30, r321_33, r321_36, r321_39, mx_isr_ref, mx_isr_null, mx_wt_nil, mx_wt_1, mx_wt_2, mx_wt_3, Option.bind_some, Option.toList_some, Option.toList_none, List.cons_append, List.nil_append, mx_nl_int, mx_nl_ref, mx_nl_null, mx_nl_none, mx_nb0, mx_nb1, mx_fb0, mx_fb1, mx_cat_int, mx_cat_ref, if_true, if_false, not_true_eq_false, not_false_eq_true, T1, T2, tk, e0, r2, tk2, ne]
          rfl
theorem rm_query {bs : List Nat} {sl : slt} {s : sto} (M : mSt h sl s) (B : rm_buf h bs) (sort start count : Int32) (dn : Bool) :
    ∃ h', mx_G (d + 9) 320 0 [some (.ref 76), some (.int sort), some (.int (if dn = true then 1 else 0)), some (.int start), some (.int count), none] [] h = some (some (.int (Int32.ofInt (s_query (lx bs.length bs) (lx_good (lx bs.length bs)) s sort.toInt dn start.toInt count.toInt).1)), h') ∧ mSt h' sl (s_query (lx bs.length bs) (lx_good (lx bs.length bs)) s sort.toInt dn start.toInt count.toInt).2 ∧ rm_buf h' [] := by
  have T := M.1
  obtain ⟨h1, r, M1⟩ := rm_queried (d := d) M B sort start count dn
  have T1 := M1.1
  refine ⟨mx_up h1 76 3 (.int 0), ?_, mSt_mf M1 (mf_f (P := P3) (mf_rfl T1) (by decide) rfl) st3, buf_nil T1⟩
  simp only [r320_0, r320_1, r320_2, r320_3, r320_4, r320_6, r320_9, r320_11, r320_12, r320_13, r320_16, r320_18, mx_isr_ref, mx_isr_null, mx_wt_nil, mx_wt_1, mx_wt_2, mx_wt_3, Option.bind_some, Option.toList_some, Option.toList_none, List.cons_append, List.nil_append, mx_nl_int, mx_nl_ref, mx_nl_null, mx_nl_none, mx_nb0, mx_nb1, mx_fb0, mx_fb1, mx_cat_int, mx_cat_ref, if_true, if_false, not_true_eq_false, not_false_eq_true, T, T1, r]
end
