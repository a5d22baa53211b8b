/-! One operation of the class is aOp; the row of them. -/
def OPR (M : List Nat) (h : mx_H) (ts : List tk) (o : Nat) (r : opr) (nx : Value) : Prop := ∃ fv vv, OC M h o (nI r.1) (atE r.2.1) fv vv nx ∧ OFv M h r.2.1 fv r.2.2.1.2 ∧ r.1 < 128 ∧ r.2.1 ≤ 11 ∧ (r.1 = 45 → vv = .null ∧ r.2.1 ≠ 0) ∧ (r.1 ≠ 45 → ∃ v, vv = .ref v ∧ cVl ts 3 M h v r.2.2.2)
theorem OPR.ex {M M' : List Nat} {h h' : mx_H} {ts : List tk} {o : Nat} {r : opr} {nx : Value} (O : OPR M h ts o r nx) (x : Ex M h M' h') : OPR M' h' ts o r nx := by
  obtain ⟨fv, vv, a1, a2, a3, a4, a5, a6⟩ := O
  exact ⟨fv, vv, a1.ex x, a2.ex x, a3, a4, a5, fun z => by obtain ⟨v, e, V⟩ := a6 z; exact ⟨v, e, cVl.ex x _ _ _ V⟩⟩
def OPs (M : List Nat) (h : mx_H) (ts : List tk) : Value → List opr → Prop
  | v, [] => v = .null
  | v, r :: l => ∃ (o : Nat) (nx : Value), v = .ref o ∧ OPR M h ts o r nx ∧ OPs M h ts nx l
theorem OPs.ex {M M' : List Nat} {h h' : mx_H} {ts : List tk} (x : Ex M h M' h') : ∀ (l : List opr) (v : Value), OPs M h ts v l → OPs M' h' ts v l := by
  intro l
  induction l with
  | nil => intro v z; exact z
  | cons r l ih =>
    rintro v ⟨o, nx, e, O, S⟩
    exact ⟨o, nx, e, O.ex x, ih nx S⟩
theorem OPs.isr {M : List Nat} {h : mx_H} {ts : List tk} {v : Value} {l : List opr} (S : OPs M h ts v l) : mx_isr v = true := by
  cases l with
  | nil => rw [show v = .null from S]; rfl
  | cons r l => obtain ⟨o, nx, rfl, -⟩ := S; rfl
section
variable {d : Nat} {h : mx_H} {R : List Nat} {N p l A cp : Nat} {es : List Nat} {q : prs} {m : List itf} {b : List Bool}
theorem jo_apply {ts : List tk} {o : Nat} {r : opr} {nx : Value} (K : tkOK ts) (NBt : NB ts) (hq : okP q) (D : DR R N h p l A cp es q (mrk (pit q)) b) (O : OPR (dM p l A es R) h ts o r nx) :
    PO R N h p l A cp es (aOp ts r q) (opC ts r) (mx_G (d + 27) 175 0 [some (.ref o), some (.ref p), none, none, none] [] h) := by
  obtain ⟨c, way, fl, t⟩ := r
  obtain ⟨fv, vv, O, F, hc, w11, hm, hv⟩ := O
  simp only at O F hc w11 hm hv
  obtain ⟨to, lo, o0, o1, o2, o3, o4⟩ := OC_f O
  have tp := (PC_f D.1).1
  have hcp := D.2.1.2.2.2.1
  have hvv : mx_isr vv = true := by
    by_cases c45 : c = 45
    · rw [(hm c45).1]; rfl
    · obtain ⟨v, rfl, -⟩ := hv c45; rfl
  show PO R N h p l A cp es (if way = 0 then (if tI ts t 123 = true then aAl ts c (kd ts t) q else (-401, q)) else aTg ts c way fl.2 t q) (if c = 45 then 100 else if way = 0 then (if tI ts t 123 = true then 10200 * (kd ts t).length else 0) + 100 else 10200) _
  by_cases w0 : way = 0
  · subst w0
    have c45 : c ≠ 45 := fun z => (hm z).2 rfl
    rw [if_pos rfl, if_neg c45, if_pos rfl]
    obtain ⟨v, rfl, V⟩ := hv c45
    rw [show atE 0 = -1 from rfl] at o1 O
    unfold OFv at F
    rw [if_pos (by decide)] at F
    subst F
    rcases cVl_c V with ⟨hI, n', -, f, s, ev, fv', Sv, G⟩ | ⟨hI, -, n', -, f, s, ev, -⟩ | ⟨-, hI, -, V1⟩
    · rw [if_pos hI, if_pos hI]
      have tv_ := ce_t ev
      have lv : mx_ln h v = 4 := by rw [ce_n ev]; rfl
      have v0 : mx_el h v 0 = .int 3 := by rw [ce_e ev]; rfl
      have v3 : mx_el h v 3 = f := by rw [ce_e ev]; rfl
      have hf : mx_isr f = true := pG_isr G rfl
      have P := jo_allL (d := d) K NBt hc c45 (kd ts t) f h A cp es q b none none D hq O G
      refine (PO.pre P (SX.rfl _ _ _) (k1 := 0) (by omega) (fun v' h' z => ?_)).mono (by omega)
      simp only [g175_0, g175_1, g175_4, g175_5, g175_22, g175_23, g175_26, g175_26n, g175_29, g175_30, g175_33, g175_36, g175_37, g175_40, g175_43, g175_44, g175_45, g175_48, g175_51, mx_isr_ref, mx_isr_null, mx_wt_nil, mx_wt_1, mx_wt_2, mx_wt_3, Option.bind_some, Option.toList_some, Option.toList_none, List.cons_append, List.nil_append, mx_nl_int, mx_nl_ref, mx_nl_null, mx_nl_none, mx_nb0, mx_nb1, mx_fb0, mx_fb1, mx_cat_int, mx_cat_ref, if_true, if_false, not_true_eq_false, not_false_eq_true, mx_wt_4, mx_w4_0, mx_w9_0, mx_w9_1, mx_kn_int, mx_kn_ref, mx_kn_null, Nat.reduceLT, ofn, n10, to, lo, o1, o3, tv_, lv, v0, v3, isr_kn hf, hf, show ¬ ¬ (-1 : Int32) = -1 by decide]
      exact z
    · rw [if_neg (by rw [hI]; decide), if_neg (by rw [hI]; decide)]
      have tv_ := ce_t ev
      have lv : mx_ln h v = 4 := by rw [ce_n ev]; rfl
      have v0 : mx_el h v 0 = .int 4 := by rw [ce_e ev]; rfl
      refine PO.err (h' := h) ?_ (show (-401 : Int) ≠ 0 by decide) (FrN.rfl _ _) (by omega)
      simp only [g175_0, g175_1, g175_4, g175_5, g175_22, g175_23, g175_26, g175_26n, g175_29, g175_30, g175_33, g175_36, g175_37, g175_40, g175_43, mx_isr_ref, mx_isr_null, mx_wt_nil, mx_wt_1, mx_wt_2, mx_wt_3, Option.bind_some, Option.toList_some, Option.toList_none, List.cons_append, List.nil_append, mx_nl_int, mx_nl_ref, mx_nl_null, mx_nl_none, mx_nb0, mx_nb1, mx_fb0, mx_fb1, mx_cat_int, mx_cat_ref, if_true, if_false, not_true_eq_false, not_false_eq_true, mx_wt_4, mx_w4_0, mx_w9_0, mx_w9_1, mx_kn_int, mx_kn_ref, mx_kn_null, Nat.reduceLT, ofn, n10, to, lo, o1, o3, tv_, lv, v0, show ¬ (4 : Int32) = 3 by decide]
      rfl
    · rw [if_neg (by rw [hI]; decide), if_neg (by rw [hI]; decide)]
      obtain ⟨s, ev, -⟩ := V1
      have tv_ := ce_t ev
      have lv : mx_ln h v = 4 := by rw [ce_n ev]; rfl
      have v0 : mx_el h v 0 = .int (nI (pk ts t).1) := by rw [ce_e ev]; rfl
      have n3 : ¬ nI (pk ts t).1 = 3 := by
        have : (pk ts t).1 ≤ 2 := by
          unfold pk
          split
          · show 1 ≤ 2; decide
          · split
            · show 2 ≤ 2; decide
            · show 0 ≤ 2; decide
        exact fun z => by have := (nI_eq (b := 3) (by omega) (by decide)).mp z; omega
      refine PO.err (h' := h) ?_ (show (-401 : Int) ≠ 0 by decide) (FrN.rfl _ _) (by omega)
      simp only [g175_0, g175_1, g175_4, g175_5, g175_22, g175_23, g175_26, g175_26n, g175_29, g175_30, g175_33, g175_36, g175_37, g175_40, g175_43, mx_isr_ref, mx_isr_null, mx_wt_nil, mx_wt_1, mx_wt_2, mx_wt_3, Option.bind_some, Option.toList_some, Option.toList_none, List.cons_append, List.nil_append, mx_nl_int, mx_nl_ref, mx_nl_null, mx_nl_none, mx_nb0, mx_nb1, mx_fb0, mx_fb1, mx_cat_int, mx_cat_ref, if_true, if_false, not_true_eq_false, not_false_eq_true, mx_wt_4, mx_w4_0, mx_w9_0, mx_w9_1, mx_kn_int, mx_kn_ref, mx_kn_null, Nat.reduceLT, ofn, n10, to, lo, o1, o3, tv_, lv, v0, n3]
      rfl
  · rw [if_neg w0]
    have w1 : 1 ≤ way := by omega
    have nm : ¬ atE way = -1 := by
      have : way = 1 ∨ way = 2 ∨ way = 3 ∨ way = 4 ∨ way = 5 ∨ way = 6 ∨ way = 7 ∨ way = 8 ∨ way = 9 ∨ way = 10 ∨ way = 11 := by omega
      rcases this with rfl | rfl | rfl | rfl | rfl | rfl | rfl | rfl | rfl | rfl | rfl <;> decide
    have P : PO R N h p l A cp es (aTg ts c way fl.2 t q) (if c = 45 then 100 else if way = 0 then (if tI ts t 123 = true then 10200 * (kd ts t).length else 0) + 100 else 10200) (mx_G (d + 26) 176 0 [some (.ref o), some (.ref p), some (.int (atE way)), some vv] [] h) := by
      by_cases c45 : c = 45
      · subst c45
        rw [if_pos rfl]
        by_cases w6 : way = 6
        · subst w6
          have F' := F
          unfold OFv at F'
          rw [if_pos (by decide)] at F'
          rw [F'] at o2
          have II := ja_isIf (d := d + 25) (h := h) 5 (by decide) (by decide)
          have P := jo_mail45 (d := d + 15) (ts := ts) (t := t) D O hvv
          rw [show aTg ts 45 6 fl.2 t q = aMl ts 45 t q from rfl, show atE 6 = 5 from rfl]
          refine (PO.pre P (SX.rfl _ _ _) (k1 := 0) (by omega) (fun v h' z => ?_)).mono (by decide)
          simp only [g176_0, g176_1, g176_4, g176_18, g176_19, g176_22, g176_22n, g176_22n, g176_36, g176_37, g176_38, g176_41, g176_42, g176_43, g176_44, g176_47, mx_isr_ref, mx_isr_null, mx_wt_nil, mx_wt_1, mx_wt_2, mx_wt_3, Option.bind_some, Option.toList_some, Option.toList_none, List.cons_append, List.nil_append, mx_nl_int, mx_nl_ref, mx_nl_null, mx_nl_none, mx_nb0, mx_nb1, mx_fb0, mx_fb1, mx_cat_int, mx_cat_ref, if_true, if_false, not_true_eq_false, not_false_eq_true, mx_wt_4, mx_w4_0, mx_w9_0, mx_w9_1, mx_kn_int, mx_kn_ref, mx_kn_null, Nat.reduceLT, ofn, n10, II, to, lo, o2, tp, hvv, z, show ¬ ¬ (5 : Int32) = 5 by decide]
        · exact aTg_m (n := 3) NBt hq.oks D hq.it O w1 w11 F (fun _ => ⟨rfl, rfl⟩) (hm rfl).1 w6
      · rw [if_neg c45, if_neg w0]
        exact jo_target (n := 3) NBt hq.oks D hq.it O hc w1 w11 F (fun _ => ⟨rfl, rfl⟩) (fun z => absurd z c45) hv
    refine (PO.pre P (SX.rfl _ _ _) (k1 := 0) (by omega) (fun v h' z => ?_)).mono (by omega)
    simp only [g175_0, g175_1, g175_4, g175_5, g175_8, g175_9, g175_10, g175_11, g175_14, g175_15, g175_18, g175_21, mx_isr_ref, mx_isr_null, mx_wt_nil, mx_wt_1, mx_wt_2, mx_wt_3, Option.bind_some, Option.toList_some, Option.toList_none, List.cons_append, List.nil_append, mx_nl_int, mx_nl_ref, mx_nl_null, mx_nl_none, mx_nb0, mx_nb1, mx_fb0, mx_fb1, mx_cat_int, mx_cat_ref, if_true, if_false, not_true_eq_false, not_false_eq_true, mx_wt_4, mx_w4_0, mx_w9_0, mx_w9_1, mx_kn_int, mx_kn_ref, mx_kn_null, Nat.reduceLT, ofn, n10, to, lo, o1, o3, nm, tp, isr_kn hvv, hvv, z]
theorem jo_opsL {ts : List tk} {id ver pl rf : Int32} {first : Value} (K : tkOK ts) (NBt : NB ts) : ∀ (rs : List opr) (v : Value) (h : mx_H) (A cp : Nat) (es : List Nat) (q : prs) (b : List Bool) (l8 : Option Value), DR R N h p l A cp es q (mrk (pit q)) b → okP q → OPs (dM p l A es R) h ts v rs →
    ((aOps ts rs q).1 ≠ 0 ∧ ∃ h', mx_G (d + 28) 156 67 [some (.ref 63), some (.int id), some (.int ver), some first, some (.int pl), some (.int rf), some (.ref p), some v, l8] [] h = some (some (.int (Int32.ofInt (aOps ts rs q).1)), h') ∧ FrN N h h' ∧ mw h' + 6 * cp ≤ mw h + 6000 + (rs.map (opC ts)).sum) ∨
    ((aOps ts rs q).1 = 0 ∧ okP (aOps ts rs q).2 ∧ (aOps ts rs q).2.1 = q.1 ∧ ∃ (h' : mx_H) (A' cp' : Nat) (es' : List Nat) (b' : List Bool) (l8' : Option Value), mx_G (d + 28) 156 67 [some (.ref 63), some (.int id), some (.int ver), some first, some (.int pl), some (.int rf), some (.ref p), some v, l8] [] h = mx_G (d + 28) 156 99 [some (.ref 63), some (.int id), some (.int ver), some first, some (.int pl), some (.int rf), some (.ref p), some .null, l8'] [] h' ∧ DR R N h' p l A' cp' es' (aOps ts rs q).2 (mrk (pit (aOps ts rs q).2)) b' ∧ SX N (dM p l A es R) h (dM p l A' es' R) h' ∧ mw h' + 6 * cp ≤ mw h + 6 * cp' + (rs.map (opC ts)).sum) := by
  intro rs
  induction rs with
  | nil =>
    intro v h A cp es q b l8 D hq S
    rw [show v = .null from S]
    refine Or.inr ⟨rfl, hq, rfl, h, A, cp, es, b, l8, ?_, D, SX.rfl _ _ _, by simp⟩
    simp only [g156_67, g156_69, g156_69n, g156_69n, mx_isr_ref, mx_isr_null, mx_wt_nil, mx_wt_1, mx_wt_2, mx_wt_3, Option.bind_some, Option.toList_some, Option.toList_none, List.cons_append, List.nil_append, mx_nl_int, mx_nl_ref, mx_nl_null, mx_nl_none, mx_nb0, mx_nb1, mx_fb0, mx_fb1, mx_cat_int, mx_cat_ref, if_true, if_false, not_true_eq_false, not_false_eq_true, mx_wt_4, mx_w4_0, mx_w9_0, mx_w9_1, mx_kn_int, mx_kn_ref, mx_kn_null, Nat.reduceLT, ofn, n10]
  | cons r rs ih =>
    intro v h A cp es q b l8 D hq S
    obtain ⟨o, nx, rfl, O, S⟩ := S
    have hnx := S.isr
    have P := jo_apply (d := d) K NBt hq D O
    obtain ⟨h1, g1, F1, w1, r1⟩ := P
    have to : mx_tag h o = some (.inl 9) := by obtain ⟨_, _, z, -⟩ := O; exact (OC_f z).1
    have tp := (PC_f D.1).1
    have hb := aOp_b (ts := ts) r q
    obtain ⟨e1, -⟩ := ecB_0 hb
    have hwq := aOp_wf K r hq.1
    rw [List.map_cons, List.sum_cons]
    have ea : aOps ts (r :: rs) q = (if (aOp ts r q).1 = 0 then aOps ts rs (aOp ts r q).2 else ((aOp ts r q).1, q)) := by
      rw [aOps]
    rw [ea]
    generalize hr : aOp ts r q = res at *
    rw [g156_67 mx_isr_ref]
    by_cases ez : res.1 = 0
    · rw [if_pos ez]
      obtain ⟨A1, cp1, es1, b1, D1, S1, w1'⟩ := r1 ez
      have O1 := O.ex S1.2
      obtain ⟨fv, vv, O1c, -⟩ := O1
      obtain ⟨to1, lo1, -, -, -, -, o4⟩ := OC_f O1c
      rw [ez, show Int32.ofInt 0 = 0 from rfl] at g1
      have step : ∀ X, mx_G (d + 28) 156 67 [some (.ref 63), some (.int id), some (.int ver), some first, some (.int pl), some (.int rf), some (.ref p), some nx, some (.int 0)] [] h1 = X → mx_G (d + 28) 156 69 [some (.ref 63), some (.int id), some (.int ver), some first, some (.int pl), some (.int rf), some (.ref p), some (.ref o), l8] [.ref o] h = X := by
        intro X hX
        simp only [g156_69, g156_69n, g156_72, g156_74, g156_76, g156_79, g156_81, g156_83, g156_86, g156_88, g156_89, g156_91, g156_94, g156_96, mx_isr_ref, mx_isr_null, mx_wt_nil, mx_wt_1, mx_wt_2, mx_wt_3, Option.bind_some, Option.toList_some, Option.toList_none, List.cons_append, List.nil_append, mx_nl_int, mx_nl_ref, mx_nl_null, mx_nl_none, mx_nb0, mx_nb1, mx_fb0, mx_fb1, mx_cat_int, mx_cat_ref, if_true, if_false, not_true_eq_false, not_false_eq_true, mx_wt_4, mx_w4_0, mx_w9_0, mx_w9_1, mx_kn_int, mx_kn_ref, mx_kn_null, Nat.reduceLT, ofn, n10, to, tp, g1, to1, lo1, o4, isr_kn hnx, hnx, show ¬ ¬ (0 : Int32) = 0 by decide]
        exact hX
      have I := ih nx h1 A1 cp1 es1 res.2 b1 (some (.int 0)) D1 (hq.q hwq) (OPs.ex S1.2 _ _ S)
      rcases I with ⟨i0, h', i1, i2, i3⟩ | ⟨i0, i0', i0'', h', A2, cp2, es2, b2, l8', i1, i2, i3, i4⟩
      · exact Or.inl ⟨i0, h', step _ i1, F1.trans i2, by omega⟩
      · exact Or.inr ⟨i0, i0', by rw [i0'', hwq.2.1], h', A2, cp2, es2, b2, l8', step _ i1, i2, S1.trans i3, by omega⟩
    · rw [if_neg ez]
      have ne : ¬ Int32.ofInt res.1 = 0 := fun z => ez (e1.mp z)
      refine Or.inl ⟨ez, h1, ?_, F1, ?_⟩
      · simp only [g156_69, g156_69n, g156_72, g156_74, g156_76, g156_79, g156_81, g156_83, g156_86, g156_88, mx_isr_ref, mx_isr_null, mx_wt_nil, mx_wt_1, mx_wt_2, mx_wt_3, Option.bind_some, Option.toList_some, Option.toList_none, List.cons_append, List.nil_append, mx_nl_int, mx_nl_ref, mx_nl_null, mx_nl_none, mx_nb0, mx_nb1, mx_fb0, mx_fb1, mx_cat_int, mx_cat_ref, if_true, if_false, not_true_eq_false, not_false_eq_true, mx_wt_4, mx_w4_0, mx_w9_0, mx_w9_1, mx_kn_int, mx_kn_ref, mx_kn_null, Nat.reduceLT, ofn, n10, to, tp, g1, ne]
      · exact Nat.le_trans w1 (Nat.add_le_add_left (Nat.le_add_right _ _) _)
end
