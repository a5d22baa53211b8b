/-! applyToPlain, applyToTarget. -/
section
variable {d : Nat} {h : mx_H} {R : List Nat} {N p l A cp : Nat} {es : List Nat} {q : prs} {m : List itf} {b : List Bool}
/-- the person's own cell changes -/
theorem DR.own {h' : mx_H} (D : DR R N h p l A cp es q m b) (f : Fr [p] h h') {q' : prs} (C' : PC (dM p l A es R) h' p l q') : DR R N h' p l A cp es q' m b ∧ SX N (dM p l A es R) h (dM p l A es R) h' := by
  have hpl := D.pl
  have hne := fun e (he : e ∈ es) => D.ne he
  obtain ⟨C, L, I, nd, ⟨n1, n2, n3, n4, n5, n6⟩, hR, K⟩ := D
  have S : SX N (dM p l A es R) h (dM p l A es R) h' := SX.of f n6 (fun a ha => by
    rw [List.mem_singleton] at ha
    rw [ha]; exact Or.inl ⟨n2, dM_p⟩) (fun a ha => Or.inl ha)
  exact ⟨⟨C', AL_fr L f (by rw [List.mem_singleton]; exact Ne.symm hpl.1) (by rw [List.mem_singleton]; exact Ne.symm hpl.2.1), I.ex S.2 (fun e he => f.2 e (hne e he).2.2.2.1 (by rw [List.mem_singleton]; exact (hne e he).1)), nd, ⟨n1, n2, n3, n4, n5, Nat.le_trans n6 f.1⟩, hR, K.fr f (fun a ha => by rw [List.mem_singleton] at ha; omega)⟩, S⟩
theorem jo_plain {ts : List tk} {n t c o way : Nat} {at_ : Int32} {fv vv nx gv : Value} (NBt : NB ts) (D : DR R N h p l A cp es q (mrk (pit q)) b) (O : OC (dM p l A es R) h o (nI c) at_ fv vv nx) (hc : c < 128) (h1 : 1 ≤ way) (h5 : way ≤ 5) (hvn : c = 45 → gv = .null) (hv : c ≠ 45 → ∃ v, gv = .ref v ∧ cVl ts n (dM p l A es R) h v t) :
    PO R N h p l A cp es (aPl ts c way t q) 100 (mx_G (d + 10) 199 0 [some (.ref o), some (.ref p), some (.int (nI (way - 1))), some gv, none] [] h) := by
  obtain ⟨to, lo, o0, o1, o2, o3, o4⟩ := OC_f O
  have hcp := D.2.1.2.2.2.1
  have tp := (PC_f D.1).1
  have hN := D.2.2.2.2.1
  have hgv : mx_isr gv = true := by
    by_cases c45 : c = 45
    · rw [hvn c45]; rfl
    · obtain ⟨v, rfl, -⟩ := hv c45; rfl
  have RO := ja_ro (d := d + 9) (h := h) (k := nI (way - 1))
  have own : ∀ (h' : mx_H) (q' : prs) (k : Nat), k ≤ 100 → pit q' = pit q → PC (dM p l A es R) h' p l q' → Fr [p] h h' → mw h' ≤ mw h + k → mx_G (d + 10) 199 0 [some (.ref o), some (.ref p), some (.int (nI (way - 1))), some gv, none] [] h = some (some (.int 0), h') → PO R N h p l A cp es (0, q') 100 (mx_G (d + 10) 199 0 [some (.ref o), some (.ref p), some (.int (nI (way - 1))), some gv, none] [] h) := by
    intro h' q' k hk hq C' f hw hG
    obtain ⟨D1, S1⟩ := D.own f C'
    rw [← hq] at D1
    exact PO.ok (res := (0, q')) hG D1 S1 (by omega)
  have err : ∀ (e : Int), e ≠ 0 → mx_G (d + 10) 199 0 [some (.ref o), some (.ref p), some (.int (nI (way - 1))), some gv, none] [] h = some (some (.int (Int32.ofInt e)), h) → PO R N h p l A cp es (e, q) 100 (mx_G (d + 10) 199 0 [some (.ref o), some (.ref p), some (.int (nI (way - 1))), some gv, none] [] h) := fun e he hG => PO.err (res := (e, q)) hG he (FrN.rfl _ _) (by omega)
  unfold aPl
  by_cases c45 : c = 45
  · have gn := hvn c45
    subst gn
    subst c45
    rw [show nI 45 = 45 from rfl] at o0
    have hw : way = 1 ∨ way = 2 ∨ way = 3 ∨ way = 4 ∨ way = 5 := by omega
    rcases hw with rfl | rfl | rfl | rfl | rfl
    · rw [if_pos (by decide)]
      refine err _ (by decide) ?_
      rw [show nI (1 - 1) = 0 from rfl] at RO ⊢
      rw [if_pos (by decide)] at RO
      simp only [g199_0, g199_1, g199_4, g199_6, g199_9, g199_10, g199_13, g199_14, g199_16, g199_17, g199_20, g199_33, g199_36, mx_isr_ref, mx_isr_null, mx_wt_nil, mx_wt_1, mx_wt_2, mx_wt_3, Option.bind_some, Option.toList_some, Option.toList_none, List.cons_append, List.nil_append, mx_nl_int, mx_nl_ref, mx_nl_null, mx_nl_none, mx_nb0, mx_nb1, mx_fb0, mx_fb1, mx_cat_int, mx_cat_ref, if_true, if_false, not_true_eq_false, not_false_eq_true, mx_wt_4, mx_w4_0, mx_w9_0, mx_w9_1, mx_kn_int, mx_kn_ref, mx_kn_null, Nat.reduceLT, ofn, n10, to, lo, o0, RO, show ¬ ¬ (45 : Int32) = 45 by decide, show ¬ (1 : Int32) = 0 by decide]
      rfl
    · rw [if_pos (by decide)]
      refine err _ (by decide) ?_
      rw [show nI (2 - 1) = 1 from rfl] at RO ⊢
      rw [if_pos (by decide)] at RO
      simp only [g199_0, g199_1, g199_4, g199_6, g199_9, g199_10, g199_13, g199_14, g199_16, g199_17, g199_20, g199_33, g199_36, mx_isr_ref, mx_isr_null, mx_wt_nil, mx_wt_1, mx_wt_2, mx_wt_3, Option.bind_some, Option.toList_some, Option.toList_none, List.cons_append, List.nil_append, mx_nl_int, mx_nl_ref, mx_nl_null, mx_nl_none, mx_nb0, mx_nb1, mx_fb0, mx_fb1, mx_cat_int, mx_cat_ref, if_true, if_false, not_true_eq_false, not_false_eq_true, mx_wt_4, mx_w4_0, mx_w9_0, mx_w9_1, mx_kn_int, mx_kn_ref, mx_kn_null, Nat.reduceLT, ofn, n10, to, lo, o0, RO, show ¬ ¬ (45 : Int32) = 45 by decide, show ¬ (1 : Int32) = 0 by decide]
      rfl
    · rw [if_pos (by decide)]
      refine err _ (by decide) ?_
      rw [show nI (3 - 1) = 2 from rfl] at RO ⊢
      rw [if_neg (by decide)] at RO
      simp only [g199_0, g199_1, g199_4, g199_6, g199_9, g199_10, g199_13, g199_14, g199_16, g199_17, g199_20, g199_23, g199_25, g199_28, g199_29, g199_30, g199_33, g199_36, mx_isr_ref, mx_isr_null, mx_wt_nil, mx_wt_1, mx_wt_2, mx_wt_3, Option.bind_some, Option.toList_some, Option.toList_none, List.cons_append, List.nil_append, mx_nl_int, mx_nl_ref, mx_nl_null, mx_nl_none, mx_nb0, mx_nb1, mx_fb0, mx_fb1, mx_cat_int, mx_cat_ref, if_true, if_false, not_true_eq_false, not_false_eq_true, mx_wt_4, mx_w4_0, mx_w9_0, mx_w9_1, mx_kn_int, mx_kn_ref, mx_kn_null, Nat.reduceLT, ofn, n10, to, lo, o0, RO, show ¬ ¬ (45 : Int32) = 45 by decide, show ¬ (1 : Int32) = 0 by decide, show ¬ ¬ (0 : Int32) = 0 by decide, show ¬ ¬ (2 : Int32) = 2 by decide]
      rfl
    · rw [if_neg (by decide), if_pos rfl, if_pos rfl]
      rw [show nI (4 - 1) = 3 from rfl] at RO err own ⊢
      rw [if_neg (by decide)] at RO
      have ST := jp_setA (d := d + 9) (by omega) (dM_p (l := l) (A := A) (es := es) (R := R)) D.1 (a := .null) (x := none) rfl
      refine own _ (sAg q none) 0 (by decide) rfl ST.2 (Fr.up (by simp)) (by rw [mw_up]; omega) ?_
      simp only [g199_0, g199_1, g199_4, g199_6, g199_9, g199_10, g199_13, g199_14, g199_16, g199_17, g199_20, g199_23, g199_25, g199_28, g199_29, g199_30, g199_37, g199_39, g199_54, g199_55, g199_56, g199_57, g199_60, g199_61, mx_isr_ref, mx_isr_null, mx_wt_nil, mx_wt_1, mx_wt_2, mx_wt_3, Option.bind_some, Option.toList_some, Option.toList_none, List.cons_append, List.nil_append, mx_nl_int, mx_nl_ref, mx_nl_null, mx_nl_none, mx_nb0, mx_nb1, mx_fb0, mx_fb1, mx_cat_int, mx_cat_ref, if_true, if_false, not_true_eq_false, not_false_eq_true, mx_wt_4, mx_w4_0, mx_w9_0, mx_w9_1, mx_kn_int, mx_kn_ref, mx_kn_null, Nat.reduceLT, ofn, n10, to, lo, o0, RO, tp, ST.1, show ¬ ¬ (45 : Int32) = 45 by decide, show ¬ (1 : Int32) = 0 by decide, show ¬ ¬ (0 : Int32) = 0 by decide, show ¬ (3 : Int32) = 2 by decide]
    · rw [if_neg (by decide), if_pos rfl, if_neg (by decide)]
      rw [show nI (5 - 1) = 4 from rfl] at RO err own ⊢
      rw [if_neg (by decide)] at RO
      have ST := jp_setO (d := d + 9) (by omega) (dM_p (l := l) (A := A) (es := es) (R := R)) D.1 (a := .null) (x := none) rfl
      refine own _ (sOn q none) 0 (by decide) rfl ST.2 (Fr.up (by simp)) (by rw [mw_up]; omega) ?_
      simp only [g199_0, g199_1, g199_4, g199_6, g199_9, g199_10, g199_13, g199_14, g199_16, g199_17, g199_20, g199_23, g199_25, g199_28, g199_29, g199_30, g199_37, g199_39, g199_54, g199_55, g199_56, g199_57, g199_60, g199_61, mx_isr_ref, mx_isr_null, mx_wt_nil, mx_wt_1, mx_wt_2, mx_wt_3, Option.bind_some, Option.toList_some, Option.toList_none, List.cons_append, List.nil_append, mx_nl_int, mx_nl_ref, mx_nl_null, mx_nl_none, mx_nb0, mx_nb1, mx_fb0, mx_fb1, mx_cat_int, mx_cat_ref, if_true, if_false, not_true_eq_false, not_false_eq_true, mx_wt_4, mx_w4_0, mx_w9_0, mx_w9_1, mx_kn_int, mx_kn_ref, mx_kn_null, Nat.reduceLT, ofn, n10, to, lo, o0, RO, tp, ST.1, show ¬ ¬ (45 : Int32) = 45 by decide, show ¬ (1 : Int32) = 0 by decide, show ¬ ¬ (0 : Int32) = 0 by decide, show ¬ (4 : Int32) = 2 by decide]
  · have n45 : ¬ nI c = 45 := fun z => c45 ((nI_eq (b := 45) (by omega) (by decide)).mp z)
    obtain ⟨v, rfl, V⟩ := hv c45
    obtain ⟨num, VC1, hk5⟩ := cVl_vc V
    have FI := ja_fits (d := d + 7) D.2.2.2.2.2.2 VC1 hk5 (at_ := way - 1) (by omega)
    have hw : way = 1 ∨ way = 2 ∨ way = 3 ∨ way = 4 ∨ way = 5 := by omega
    rcases hw with rfl | rfl | rfl | rfl | rfl
    · rw [if_pos (by omega)]
      refine err _ (by decide) ?_
      rw [show nI (1 - 1) = 0 from rfl] at RO ⊢
      rw [if_pos (by decide)] at RO
      simp only [g199_0, g199_1, g199_4, g199_6, g199_13, g199_14, g199_16, g199_17, g199_20, g199_33, g199_36, mx_isr_ref, mx_isr_null, mx_wt_nil, mx_wt_1, mx_wt_2, mx_wt_3, Option.bind_some, Option.toList_some, Option.toList_none, List.cons_append, List.nil_append, mx_nl_int, mx_nl_ref, mx_nl_null, mx_nl_none, mx_nb0, mx_nb1, mx_fb0, mx_fb1, mx_cat_int, mx_cat_ref, if_true, if_false, not_true_eq_false, not_false_eq_true, mx_wt_4, mx_w4_0, mx_w9_0, mx_w9_1, mx_kn_int, mx_kn_ref, mx_kn_null, Nat.reduceLT, ofn, n10, to, lo, o0, n45, RO, show ¬ (1 : Int32) = 0 by decide]
      rfl
    · rw [if_pos (by omega)]
      refine err _ (by decide) ?_
      rw [show nI (2 - 1) = 1 from rfl] at RO ⊢
      rw [if_pos (by decide)] at RO
      simp only [g199_0, g199_1, g199_4, g199_6, g199_13, g199_14, g199_16, g199_17, g199_20, g199_33, g199_36, mx_isr_ref, mx_isr_null, mx_wt_nil, mx_wt_1, mx_wt_2, mx_wt_3, Option.bind_some, Option.toList_some, Option.toList_none, List.cons_append, List.nil_append, mx_nl_int, mx_nl_ref, mx_nl_null, mx_nl_none, mx_nb0, mx_nb1, mx_fb0, mx_fb1, mx_cat_int, mx_cat_ref, if_true, if_false, not_true_eq_false, not_false_eq_true, mx_wt_4, mx_w4_0, mx_w9_0, mx_w9_1, mx_kn_int, mx_kn_ref, mx_kn_null, Nat.reduceLT, ofn, n10, to, lo, o0, n45, RO, show ¬ (1 : Int32) = 0 by decide]
      rfl
    · rw [if_neg (by omega), if_neg c45, if_pos rfl]
      rw [show nI (3 - 1) = 2 from rfl] at RO err own FI ⊢
      rw [if_neg (by decide)] at RO
      rw [show kdA (3 - 1) = 2 from rfl] at FI
      have iff := vk_2 V
      by_cases hf : ftx ts t = true
      · rw [if_pos (iff.mpr hf)] at FI
        rw [if_pos hf]
        have hf' := hf
        unfold ftx at hf'
        rw [decide_eq_true_eq] at hf'
        have OVv := cVl_ov V (NBt t) (by omega)
        rw [pk_ty.2.1 hf'.1] at OVv
        obtain ⟨w, ew, VPv, -⟩ := OVv
        cases ew
        obtain ⟨h', j1, j2, j3, j4⟩ := jp_setN (d := d + 3) D.2.2.2.2.2.2 (by omega) D.rb (by omega) dM_p D.1 (cs := tx ts t) (fun z => by rw [z] at hf'; simp at hf') VPv
        refine own h' (sNm q (tx ts t)) 80 (by decide) rfl j2 j3 (by omega) ?_
        simp only [g199_0, g199_1, g199_4, g199_6, g199_13, g199_14, g199_16, g199_17, g199_20, g199_23, g199_25, g199_37, g199_39, g199_42, g199_43, g199_44, g199_47, g199_54, g199_55, g199_56, g199_57, g199_60, g199_61, mx_isr_ref, mx_isr_null, mx_wt_nil, mx_wt_1, mx_wt_2, mx_wt_3, Option.bind_some, Option.toList_some, Option.toList_none, List.cons_append, List.nil_append, mx_nl_int, mx_nl_ref, mx_nl_null, mx_nl_none, mx_nb0, mx_nb1, mx_fb0, mx_fb1, mx_cat_int, mx_cat_ref, if_true, if_false, not_true_eq_false, not_false_eq_true, mx_wt_4, mx_w4_0, mx_w9_0, mx_w9_1, mx_kn_int, mx_kn_ref, mx_kn_null, Nat.reduceLT, ofn, n10, to, lo, o0, n45, RO, FI, tp, j1, show ¬ (1 : Int32) = 0 by decide, show ¬ ¬ (0 : Int32) = 0 by decide]
      · rw [if_neg (fun z => hf (iff.mp z))] at FI
        rw [if_neg hf]
        refine err _ (by decide) ?_
        simp only [g199_0, g199_1, g199_4, g199_6, g199_13, g199_14, g199_16, g199_17, g199_20, g199_23, g199_25, g199_37, g199_39, g199_42, g199_43, g199_44, g199_47, g199_50, g199_53, mx_isr_ref, mx_isr_null, mx_wt_nil, mx_wt_1, mx_wt_2, mx_wt_3, Option.bind_some, Option.toList_some, Option.toList_none, List.cons_append, List.nil_append, mx_nl_int, mx_nl_ref, mx_nl_null, mx_nl_none, mx_nb0, mx_nb1, mx_fb0, mx_fb1, mx_cat_int, mx_cat_ref, if_true, if_false, not_true_eq_false, not_false_eq_true, mx_wt_4, mx_w4_0, mx_w9_0, mx_w9_1, mx_kn_int, mx_kn_ref, mx_kn_null, Nat.reduceLT, ofn, n10, to, lo, o0, n45, RO, FI, show ¬ (1 : Int32) = 0 by decide, show ¬ ¬ (0 : Int32) = 0 by decide]
        rfl
    · rw [if_neg (by omega), if_neg c45, if_neg (by decide), if_pos rfl]
      rw [show nI (4 - 1) = 3 from rfl] at RO err own FI ⊢
      rw [if_neg (by decide)] at RO
      rw [show kdA (4 - 1) = 1 from rfl] at FI
      have iff := vk_1 V
      by_cases hf : sc ts t = 1
      · rw [if_pos (iff.mpr hf)] at FI
        rw [if_pos hf]
        have OVv := cVl_ov V (NBt t) (by omega)
        rw [pk_ty.1 hf] at OVv
        have ST := jp_setA (d := d + 9) (by omega) (dM_p (l := l) (A := A) (es := es) (R := R)) D.1 (a := .ref v) (x := some (tv ts t)) OVv
        refine own _ (sAg q (some (tv ts t))) 0 (by decide) rfl ST.2 (Fr.up (by simp)) (by rw [mw_up]; omega) ?_
        simp only [g199_0, g199_1, g199_4, g199_6, g199_13, g199_14, g199_16, g199_17, g199_20, g199_23, g199_25, g199_37, g199_39, g199_42, g199_43, g199_44, g199_47, g199_54, g199_55, g199_56, g199_57, g199_60, g199_61, mx_isr_ref, mx_isr_null, mx_wt_nil, mx_wt_1, mx_wt_2, mx_wt_3, Option.bind_some, Option.toList_some, Option.toList_none, List.cons_append, List.nil_append, mx_nl_int, mx_nl_ref, mx_nl_null, mx_nl_none, mx_nb0, mx_nb1, mx_fb0, mx_fb1, mx_cat_int, mx_cat_ref, if_true, if_false, not_true_eq_false, not_false_eq_true, mx_wt_4, mx_w4_0, mx_w9_0, mx_w9_1, mx_kn_int, mx_kn_ref, mx_kn_null, Nat.reduceLT, ofn, n10, to, lo, o0, n45, RO, FI, tp, ST.1, show ¬ (1 : Int32) = 0 by decide, show ¬ ¬ (0 : Int32) = 0 by decide]
      · rw [if_neg (fun z => hf (iff.mp z))] at FI
        rw [if_neg hf]
        refine err _ (by decide) ?_
        simp only [g199_0, g199_1, g199_4, g199_6, g199_13, g199_14, g199_16, g199_17, g199_20, g199_23, g199_25, g199_37, g199_39, g199_42, g199_43, g199_44, g199_47, g199_50, g199_53, mx_isr_ref, mx_isr_null, mx_wt_nil, mx_wt_1, mx_wt_2, mx_wt_3, Option.bind_some, Option.toList_some, Option.toList_none, List.cons_append, List.nil_append, mx_nl_int, mx_nl_ref, mx_nl_null, mx_nl_none, mx_nb0, mx_nb1, mx_fb0, mx_fb1, mx_cat_int, mx_cat_ref, if_true, if_false, not_true_eq_false, not_false_eq_true, mx_wt_4, mx_w4_0, mx_w9_0, mx_w9_1, mx_kn_int, mx_kn_ref, mx_kn_null, Nat.reduceLT, ofn, n10, to, lo, o0, n45, RO, FI, show ¬ (1 : Int32) = 0 by decide, show ¬ ¬ (0 : Int32) = 0 by decide]
        rfl
    · rw [if_neg (by omega), if_neg c45, if_neg (by decide), if_neg (by decide)]
      rw [show nI (5 - 1) = 4 from rfl] at RO err own FI ⊢
      rw [if_neg (by decide)] at RO
      rw [show kdA (5 - 1) = 0 from rfl] at FI
      have iff := vk_0 V
      by_cases hf : sc ts t = 3
      · rw [if_pos (iff.mpr hf)] at FI
        rw [if_pos hf]
        have OVv := cVl_ov V (NBt t) (by omega)
        rw [pk_ty.2.2 hf] at OVv
        have ST := jp_setO (d := d + 9) (by omega) (dM_p (l := l) (A := A) (es := es) (R := R)) D.1 (a := .ref v) (x := some (tb ts t)) OVv
        refine own _ (sOn q (some (tb ts t))) 0 (by decide) rfl ST.2 (Fr.up (by simp)) (by rw [mw_up]; omega) ?_
        simp only [g199_0, g199_1, g199_4, g199_6, g199_13, g199_14, g199_16, g199_17, g199_20, g199_23, g199_25, g199_37, g199_39, g199_42, g199_43, g199_44, g199_47, g199_54, g199_55, g199_56, g199_57, g199_60, g199_61, mx_isr_ref, mx_isr_null, mx_wt_nil, mx_wt_1, mx_wt_2, mx_wt_3, Option.bind_some, Option.toList_some, Option.toList_none, List.cons_append, List.nil_append, mx_nl_int, mx_nl_ref, mx_nl_null, mx_nl_none, mx_nb0, mx_nb1, mx_fb0, mx_fb1, mx_cat_int, mx_cat_ref, if_true, if_false, not_true_eq_false, not_false_eq_true, mx_wt_4, mx_w4_0, mx_w9_0, mx_w9_1, mx_kn_int, mx_kn_ref, mx_kn_null, Nat.reduceLT, ofn, n10, to, lo, o0, n45, RO, FI, tp, ST.1, show ¬ (1 : Int32) = 0 by decide, show ¬ ¬ (0 : Int32) = 0 by decide]
      · rw [if_neg (fun z => hf (iff.mp z))] at FI
        rw [if_neg hf]
        refine err _ (by decide) ?_
        simp only [g199_0, g199_1, g199_4, g199_6, g199_13, g199_14, g199_16, g199_17, g199_20, g199_23, g199_25, g199_37, g199_39, g199_42, g199_43, g199_44, g199_47, g199_50, g199_53, mx_isr_ref, mx_isr_null, mx_wt_nil, mx_wt_1, mx_wt_2, mx_wt_3, Option.bind_some, Option.toList_some, Option.toList_none, List.cons_append, List.nil_append, mx_nl_int, mx_nl_ref, mx_nl_null, mx_nl_none, mx_nb0, mx_nb1, mx_fb0, mx_fb1, mx_cat_int, mx_cat_ref, if_true, if_false, not_true_eq_false, not_false_eq_true, mx_wt_4, mx_w4_0, mx_w9_0, mx_w9_1, mx_kn_int, mx_kn_ref, mx_kn_null, Nat.reduceLT, ofn, n10, to, lo, o0, n45, RO, FI, show ¬ (1 : Int32) = 0 by decide, show ¬ ¬ (0 : Int32) = 0 by decide]
        rfl
end
