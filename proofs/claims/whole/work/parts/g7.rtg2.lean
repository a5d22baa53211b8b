/-! Operation.readTarget, readValue: one operation is read. -/
section
variable {d : Nat} {h : mx_H} {x cp c k : Nat} {ts : List tk} {R : List Nat}
theorem jr_target {o : Nat} (hc : c < 128) (N : NB ts) (T : BT h x cp ts k) (r : RB (o :: R) h) (K : KK h) (o102 : 102 ≤ o) (eo : h[o]? = some (.inl 9, [.int (nI c), .int (-1), .null, .null, .null])) :
    (∀ q, rTg ts c k = some q → ∃ (h' : mx_H) (x' cp' : Nat) (fv : Value), mx_G (d + 28) 161 0 [some (.ref o), some (.ref 64)] [] h = some (some (.int 1), h') ∧ BT h' x' cp' ts q.2 ∧ h'[o]? = some (.inl 9, [.int (nI c), .int (atE q.1.1), fv, .null, .null]) ∧ OFv (x' :: o :: R) h' q.1.1 fv q.1.2.2 ∧ PXo ts o h x cp k h' x' cp' q.2 0 ∧ q.1.1 ≤ 11 ∧ (c = 45 → q.1.1 ≠ 0)) ∧
    (rTg ts c k = none → (∃ (h' : mx_H) (x' cp' k' : Nat), mx_G (d + 28) 161 0 [some (.ref o), some (.ref 64)] [] h = some (some (.int 0), h') ∧ BT h' x' cp' ts k' ∧ PXo ts o h x cp k h' x' cp' k' 36) ∨ (mx_G (d + 28) 161 0 [some (.ref o), some (.ref 64)] [] h = some (some (.int 1), h) ∧ tI ts k 58 = false ∧ c ≠ 45)) := by
  obtain ⟨t9, l9, e0, e1, e2, e3, e4⟩ := oc_f eo
  have g64 := T.kind.1
  have ox : o ≠ x := T.ne eo (by simp)
  have xl := T.xlt
  have hn : mt_nO ≤ o := by rw [show mt_nO = 63 by decide]; omega
  have A0 := jt_isAt (d := d + 27) T (k := 1) (by decide)
  rw [show nI 1 = 1 from rfl] at A0
  have n45 : nI c = 45 ↔ c = 45 := nI_eq (b := 45) (by omega) (by decide)
  have P0 := PXo.rfl ts o h x cp k 0
  unfold rTg
  by_cases hw : (tA ts k).1 = 1
  · rw [if_pos (show tI ts k 1 = true from tI_eq.mpr hw)] at A0
    have n58 : ¬ tI ts k 58 = true := fun z => by rw [tI_eq] at z; omega
    rw [if_neg (fun z => n58 z.1)]
    obtain ⟨h1, x1, cp1, s, b, b1, T1, S1, P1⟩ := jt_anyW (d := d + 18) T
    rw [show cw ts k = k + 1 by unfold cw; rw [if_pos hw]] at T1 P1
    have K1 : KK h1 := K.fr P1.1 (fun a ha => by simp at ha; omega)
    have OPw := ja_ofP (d := d + 25) K1.1 S1
    have eo1 := P1.1.at eo (by simp; omega)
    have P01 := (P0.px P1).up 1 (.int (aPi (opw ts k)))
    have ox1 : o ≠ x1 := T1.ne eo1 (by simp)
    have Fu : Fr [o] h1 (mx_up h1 o 1 (.int (aPi (opw ts k)))) := Fr.up (by simp)
    have eo2 : (mx_up h1 o 1 (.int (aPi (opw ts k))))[o]? = some (.inl 9, [.int (nI c), .int (aPi (opw ts k)), .null, .null, .null]) := by rw [c_up eo1]; rfl
    have t91 := ce_t eo1
    generalize hh2 : mx_up h1 o 1 (.int (aPi (opw ts k))) = h2 at *
    have T2 : BT h2 x1 cp1 ts (k + 1) := T1.fr Fu (by simp; omega)
    have K2 : KK h2 := K1.fr Fu (by simp; omega)
    obtain ⟨t92, l92, -, e12, -⟩ := oc_f eo2
    have pre : mx_G (d + 28) 161 0 [some (.ref o), some (.ref 64)] [] h = mx_G (d + 28) 161 34 [some (.ref o), some (.ref 64)] [] h2 := by
      simp only [g161_0, g161_1, g161_2, g161_5, g161_23, g161_24, g161_25, g161_28, g161_31, mx_isr_ref, mx_isr_null, mx_wt_nil, mx_wt_1, mx_wt_2, mx_wt_3, Option.bind_some, Option.toList_some, Option.toList_none, List.cons_append, List.nil_append, mx_nl_int, mx_nl_ref, mx_nl_null, mx_nl_none, mx_nb0, mx_nb1, mx_fb0, mx_fb1, mx_cat_int, mx_cat_ref, if_true, if_false, not_true_eq_false, not_false_eq_true, mx_wt_4, mx_w4_0, mx_w9_0, mx_w9_1, mx_kn_int, mx_kn_ref, mx_kn_null, Nat.reduceLT, ofn, n10, g64, A0, b1, OPw, t91, hn, hh2, show ¬ (1 : Int32) = 0 by decide]
    rw [pre]
    by_cases hm : tW ts k w_mail = true
    · rw [if_neg (by rw [hm]; decide)]
      have eow : opw ts k = w_mail := (tW_opw (by decide)).mp hm
      have e5 : aPi (opw ts k) = 5 := (aPi_of (opw ts k)).2.2.2.2.2.1 eow
      rw [e5] at eo2 e12
      have g642 := T2.kind.1
      obtain ⟨h3, a1, T3, F3, W3⟩ := jt_take (d := d + 26) T2 (k := 91) (by decide) (by decide)
      rw [show nI 91 = 91 from rfl] at a1
      have eo3 := F3.at eo2 (by simp; omega)
      have K3 : KK h3 := K2.fr F3 (by simp)
      have r3 : RB (o :: R) h3 := r.le (Nat.le_trans P01.1.1 F3.1)
      by_cases d91 : tI ts (k + 1) 91 = true
      · rw [if_pos d91] at a1 T3
        rw [if_pos d91]
        have P03 : PXo ts o h x cp k h3 x1 cp1 (k + 1 + 1) (0 - 72) := by
          rw [if_pos hw] at P01
          exact P01.f64 F3 W3 (by omega)
        have RO5 := ro_n (ts := ts) N 5 (by decide) d true h3 x1 cp1 (k + 2) (o :: R) T3 r3 K3
        rw [show d + 3 * 5 + 12 = d + 27 by omega, show nI (6 - 5) = 1 from rfl] at RO5
        simp only [if_true] at RO5
        obtain ⟨t93, l93, -⟩ := oc_f eo3
        cases hf : cF ts 5 true (k + 2) with
        | none =>
          rw [hf] at RO5
          obtain ⟨h4, x4, cp4, c4, g1, T4, P4⟩ := RO5
          have eo4 := P4.1.at eo3 (by simp; omega)
          have P04 := (P03.pxd P4).up 2 .null
          have ox4 : o ≠ x4 := T4.ne eo4 (by simp)
          have eo5 : (mx_up h4 o 2 .null)[o]? = some (.inl 9, [.int (nI c), .int 5, .null, .null, .null]) := by rw [c_up eo4]; rfl
          obtain ⟨t95, l95, -, -, e25, -⟩ := oc_f eo5
          refine ⟨fun q hq => (by cases hq), fun _ => Or.inl ⟨_, x4, cp4, c4, ?_, T4.fr (Fr.up (F := [o]) (by simp)) (by simp; omega), P04.mono (by omega)⟩⟩
          simp only [g161_34, g161_35, g161_38, g161_39, g161_42, g161_43, g161_45, g161_48, g161_51, g161_52, g161_53, g161_54, g161_55, g161_58, g161_61, g161_62, g161_65, g161_65n, g161_65n, g161_77, g161_78, mx_isr_ref, mx_isr_null, mx_wt_nil, mx_wt_1, mx_wt_2, mx_wt_3, Option.bind_some, Option.toList_some, Option.toList_none, List.cons_append, List.nil_append, mx_nl_int, mx_nl_ref, mx_nl_null, mx_nl_none, mx_nb0, mx_nb1, mx_fb0, mx_fb1, mx_cat_int, mx_cat_ref, if_true, if_false, not_true_eq_false, not_false_eq_true, mx_wt_4, mx_w4_0, mx_w9_0, mx_w9_1, mx_kn_int, mx_kn_ref, mx_kn_null, Nat.reduceLT, ofn, n10, t92, l92, e12, g642, a1, g1, ce_t eo4, hn, t95, l95, e25, show ¬ ¬ (5 : Int32) = 5 by decide, show ¬ (1 : Int32) = 0 by decide]
        | some y =>
          rw [hf] at RO5
          obtain ⟨h4, x4, cp4, f, g1, T4, Pf, hf4, P4⟩ := RO5
          have eo4 := P4.1.at eo3 (by simp; omega)
          have P04 := (P03.px P4).up 2 (.ref f)
          have ox4 : o ≠ x4 := T4.ne eo4 (by simp)
          have eo5 : (mx_up h4 o 2 (.ref f))[o]? = some (.inl 9, [.int (nI c), .int 5, .ref f, .null, .null]) := by rw [c_up eo4]; rfl
          have Fu5 : Fr [o] h4 (mx_up h4 o 2 (.ref f)) := Fr.up (by simp)
          have T5 : BT (mx_up h4 o 2 (.ref f)) x4 cp4 ts y.2 := T4.fr Fu5 (by simp; omega)
          have E5 : Ex (x4 :: o :: R) h4 (x4 :: o :: R) (mx_up h4 o 2 (.ref f)) := Ex.up1 (by simp)
          generalize hh5 : mx_up h4 o 2 (.ref f) = h5 at *
          obtain ⟨t95, l95, -, e15, e25, -⟩ := oc_f eo5
          obtain ⟨cs, ef, hcs, mt⟩ := Pf
          have lf : f < h4.length := ce_l ef
          have l34 := P4.1.1
          have l3o : o < h3.length := ce_l eo3
          have fx4 : f ≠ x4 := T4.ne ef (by simp)
          have fz4 : fz (x4 :: o :: R) f := ⟨by have := T3.xlt; omega, fun z => by
            simp only [List.mem_cons] at z
            rcases z with z | z | z
            · exact fx4 z
            · omega
            · have := r3 f (List.mem_cons_of_mem _ z); omega⟩
          have F5 : OFv (x4 :: o :: R) h5 9 (.ref f) y.1.2 := by
            unfold OFv
            rw [if_neg (by decide)]
            exact ⟨f, cs, rfl, (E5.at ef fz4).1, (E5.at ef fz4).2, (mt.sub (fun a ha => List.mem_cons_of_mem _ ha)).ex E5⟩
          have g645 := T5.kind.1
          obtain ⟨h6, a6, T6, F6, W6⟩ := jt_take (d := d + 26) T5 (k := 93) (by decide) (by decide)
          rw [show nI 93 = 93 from rfl] at a6
          have eo6 := F6.at eo5 (by simp; omega)
          have K6 : KK h6 := ((K3.fr P4.1 (fun a ha => by simp at ha; have := T3.xlt; omega)).fr Fu5 (by simp; omega)).fr F6 (by simp)
          show (∀ q, ((if tI ts y.2 93 = true then some ((9, y.1), y.2 + 1) else none : Option ((Nat × cdP) × Nat)).bind fun b => rTl ts b) = some q → _) ∧ (((if tI ts y.2 93 = true then some ((9, y.1), y.2 + 1) else none : Option ((Nat × cdP) × Nat)).bind fun b => rTl ts b) = none → _)
          by_cases d93 : tI ts y.2 93 = true
          · rw [if_pos d93] at a6 T6 ⊢
            have P06 : PXo ts o h x cp k h6 x4 cp4 (y.2 + 1) 0 := (P04.f64 F6 W6 (Nat.le_succ _)).mono (by omega)
            obtain ⟨Y1, Y2⟩ := jr_tail (d := d) (c := c) (g := y.1) T6 (r.le P06.1.1) K6 o102 eo6 (Or.inr rfl) (F5.ex (Ex.fr64 F6))
            have mid : mx_G (d + 28) 161 34 [some (.ref o), some (.ref 64)] [] h2 = mx_G (d + 28) 161 79 [some (.ref o), some (.ref 64)] [] h6 := by
              simp only [g161_34, g161_35, g161_38, g161_39, g161_42, g161_43, g161_45, g161_48, g161_51, g161_52, g161_53, g161_54, g161_55, g161_58, g161_61, g161_62, g161_65, g161_65n, g161_68, g161_69, g161_71, g161_74, mx_isr_ref, mx_isr_null, mx_wt_nil, mx_wt_1, mx_wt_2, mx_wt_3, Option.bind_some, Option.toList_some, Option.toList_none, List.cons_append, List.nil_append, mx_nl_int, mx_nl_ref, mx_nl_null, mx_nl_none, mx_nb0, mx_nb1, mx_fb0, mx_fb1, mx_cat_int, mx_cat_ref, if_true, if_false, not_true_eq_false, not_false_eq_true, mx_wt_4, mx_w4_0, mx_w9_0, mx_w9_1, mx_kn_int, mx_kn_ref, mx_kn_null, Nat.reduceLT, ofn, n10, t92, l92, e12, g642, a1, g1, ce_t eo4, hn, hh5, t95, l95, e25, g645, a6, show ¬ ¬ (5 : Int32) = 5 by decide, show ¬ (1 : Int32) = 0 by decide]
            rw [mid]
            refine ⟨fun q hq => ?_, fun z => ?_⟩
            · obtain ⟨h', x', cp', j1, j2, j3, j4, j5, j6, j7⟩ := Y1 q hq
              refine ⟨h', x', cp', _, j1, j2, j3, j4, ?_, j6, fun _ => j7⟩
              have := P06.2.2.2
              have := j5.2.2.2
              refine ⟨P06.1.trans j5.1 (fun a ha => ?_), ?_, by have := P06.2.2.1; have := j5.2.2.1; omega, by omega⟩
              · simp only [List.mem_cons, List.not_mem_nil, or_false] at ha ⊢
                rcases ha with z | z | z | z
                · exact Or.inl (Or.inl z)
                · exact Or.inl (Or.inr (Or.inl z))
                · rcases P06.2.1 with w | w
                  · exact Or.inl (Or.inr (Or.inr (Or.inl (by rw [z, w]))))
                  · exact Or.inr (by omega)
                · exact Or.inl (Or.inr (Or.inr (Or.inr z)))
              · have := P06.1.1
                rcases j5.2.1 with w | w
                · rw [w]; exact P06.2.1
                · exact Or.inr (by omega)
            · obtain ⟨h', x', cp', k', j1, j2, j5⟩ := Y2 z
              refine Or.inl ⟨h', x', cp', k', j1, j2, ?_⟩
              have := P06.2.2.2
              have := j5.2.2.2
              refine ⟨P06.1.trans j5.1 (fun a ha => ?_), ?_, by have := P06.2.2.1; have := j5.2.2.1; omega, by omega⟩
              · simp only [List.mem_cons, List.not_mem_nil, or_false] at ha ⊢
                rcases ha with z | z | z | z
                · exact Or.inl (Or.inl z)
                · exact Or.inl (Or.inr (Or.inl z))
                · rcases P06.2.1 with w | w
                  · exact Or.inl (Or.inr (Or.inr (Or.inl (by rw [z, w]))))
                  · exact Or.inr (by omega)
                · exact Or.inl (Or.inr (Or.inr (Or.inr z)))
              · have := P06.1.1
                rcases j5.2.1 with w | w
                · rw [w]; exact P06.2.1
                · exact Or.inr (by omega)
          · rw [if_neg d93] at a6 T6 ⊢
            refine ⟨fun q hq => (by cases hq), fun _ => Or.inl ⟨h6, x4, cp4, y.2, ?_, T6, (P04.f64 F6 W6 (Nat.le_refl _)).mono (by omega)⟩⟩
            simp only [g161_34, g161_35, g161_38, g161_39, g161_42, g161_43, g161_45, g161_48, g161_51, g161_52, g161_53, g161_54, g161_55, g161_58, g161_61, g161_62, g161_65, g161_65n, g161_68, g161_69, g161_71, g161_74, g161_77, g161_78, mx_isr_ref, mx_isr_null, mx_wt_nil, mx_wt_1, mx_wt_2, mx_wt_3, Option.bind_some, Option.toList_some, Option.toList_none, List.cons_append, List.nil_append, mx_nl_int, mx_nl_ref, mx_nl_null, mx_nl_none, mx_nb0, mx_nb1, mx_fb0, mx_fb1, mx_cat_int, mx_cat_ref, if_true, if_false, not_true_eq_false, not_false_eq_true, mx_wt_4, mx_w4_0, mx_w9_0, mx_w9_1, mx_kn_int, mx_kn_ref, mx_kn_null, Nat.reduceLT, ofn, n10, t92, l92, e12, g642, a1, g1, ce_t eo4, hn, hh5, t95, l95, e25, g645, a6, show ¬ ¬ (5 : Int32) = 5 by decide, show ¬ (1 : Int32) = 0 by decide, show ¬ ¬ (0 : Int32) = 0 by decide]
      · rw [if_neg d91] at a1 T3
        rw [if_neg d91]
        have P03 : PXo ts o h x cp k h3 x1 cp1 (k + 1) 0 := (P01.f64 F3 W3 (Nat.le_refl _)).mono (by omega)
        obtain ⟨Y1, Y2⟩ := jr_tail (d := d) (c := c) (g := nof) T3 r3 K3 o102 eo3 (Or.inl rfl) (by unfold OFv; rw [if_pos (by decide)])
        have mid : mx_G (d + 28) 161 34 [some (.ref o), some (.ref 64)] [] h2 = mx_G (d + 28) 161 79 [some (.ref o), some (.ref 64)] [] h3 := by
          simp only [g161_34, g161_35, g161_38, g161_39, g161_42, g161_43, g161_45, g161_48, mx_isr_ref, mx_isr_null, mx_wt_nil, mx_wt_1, mx_wt_2, mx_wt_3, Option.bind_some, Option.toList_some, Option.toList_none, List.cons_append, List.nil_append, mx_nl_int, mx_nl_ref, mx_nl_null, mx_nl_none, mx_nb0, mx_nb1, mx_fb0, mx_fb1, mx_cat_int, mx_cat_ref, if_true, if_false, not_true_eq_false, not_false_eq_true, mx_wt_4, mx_w4_0, mx_w9_0, mx_w9_1, mx_kn_int, mx_kn_ref, mx_kn_null, Nat.reduceLT, ofn, n10, t92, l92, e12, g642, a1, show ¬ ¬ (5 : Int32) = 5 by decide]
        rw [mid]
        show (∀ q, rTl ts ((6, nof), k + 1) = some q → _) ∧ (rTl ts ((6, nof), k + 1) = none → _)
        have comp : ∀ {h' : mx_H} {x' cp' k' s : Nat}, PXo ts o h3 x1 cp1 (k + 1) h' x' cp' k' 0 → PXo ts o h x cp k h' x' cp' k' s := by
          intro h' x' cp' k' s j5
          have := P03.2.2.2
          have := j5.2.2.2
          refine ⟨P03.1.trans j5.1 (fun a ha => ?_), ?_, by have := P03.2.2.1; have := j5.2.2.1; omega, by omega⟩
          · simp only [List.mem_cons, List.not_mem_nil, or_false] at ha ⊢
            rcases ha with z | z | z | z
            · exact Or.inl (Or.inl z)
            · exact Or.inl (Or.inr (Or.inl z))
            · rcases P03.2.1 with w | w
              · exact Or.inl (Or.inr (Or.inr (Or.inl (by rw [z, w]))))
              · exact Or.inr (by omega)
            · exact Or.inl (Or.inr (Or.inr (Or.inr z)))
          · have := P03.1.1
            rcases j5.2.1 with w | w
            · rw [w]; exact P03.2.1
            · exact Or.inr (by omega)
        refine ⟨fun q hq => ?_, fun z => ?_⟩
        · obtain ⟨h', x', cp', j1, j2, j3, j4, j5, j6, j7⟩ := Y1 q hq
          exact ⟨h', x', cp', _, j1, j2, j3, j4, comp j5, j6, fun _ => j7⟩
        · obtain ⟨h', x', cp', k', j1, j2, j5⟩ := Y2 z
          exact Or.inl ⟨h', x', cp', k', j1, j2, comp j5⟩
    · rw [if_pos (by simpa using hm)]
      have ea := pAt_P ts k hm
      rw [ea] at eo2 e12
      have h5 : pAt ts false k ≤ 5 := by
        unfold pAt
        rw [if_neg (by decide), if_neg hm]
        repeat' split
        all_goals decide
      have n5 : ¬ aW (pAt ts false k) = 5 := aW_5 (by omega)
      have P02 : PXo ts o h x cp k h2 x1 cp1 (k + 1) 0 := P01.mono (by omega)
      by_cases p0 : pAt ts false k = 0
      · rw [if_pos p0]
        rw [p0, show aW 0 = -1 from rfl] at e12 n5
        refine ⟨fun q hq => (by cases hq), fun _ => Or.inl ⟨h2, x1, cp1, k + 1, ?_, T2, P02.mono (by omega)⟩⟩
        simp only [g161_34, g161_35, g161_38, g161_39, g161_79, g161_80, g161_83, g161_84, g161_107, g161_108, g161_111, g161_112, g161_119, g161_120, mx_isr_ref, mx_isr_null, mx_wt_nil, mx_wt_1, mx_wt_2, mx_wt_3, Option.bind_some, Option.toList_some, Option.toList_none, List.cons_append, List.nil_append, mx_nl_int, mx_nl_ref, mx_nl_null, mx_nl_none, mx_nb0, mx_nb1, mx_fb0, mx_fb1, mx_cat_int, mx_cat_ref, if_true, if_false, not_true_eq_false, not_false_eq_true, mx_wt_4, mx_w4_0, mx_w9_0, mx_w9_1, mx_kn_int, mx_kn_ref, mx_kn_null, Nat.reduceLT, ofn, n10, t92, l92, e12, n5]
      · rw [if_neg p0]
        have na : ¬ aW (pAt ts false k) = -1 := (aW_f (by omega) (by omega)).2.1
        refine ⟨fun q hq => ?_, fun z => (by cases z)⟩
        cases hq
        refine ⟨h2, x1, cp1, .null, ?_, T2, ?_, by unfold OFv; rw [if_pos (show pAt ts false k < 9 by omega)], P02, by show pAt ts false k ≤ 11; omega, fun _ => p0⟩
        · simp only [g161_34, g161_35, g161_38, g161_39, g161_79, g161_80, g161_83, g161_84, g161_107, g161_108, g161_111, g161_112, g161_115, g161_116, g161_120, mx_isr_ref, mx_isr_null, mx_wt_nil, mx_wt_1, mx_wt_2, mx_wt_3, Option.bind_some, Option.toList_some, Option.toList_none, List.cons_append, List.nil_append, mx_nl_int, mx_nl_ref, mx_nl_null, mx_nl_none, mx_nb0, mx_nb1, mx_fb0, mx_fb1, mx_cat_int, mx_cat_ref, if_true, if_false, not_true_eq_false, not_false_eq_true, mx_wt_4, mx_w4_0, mx_w9_0, mx_w9_1, mx_kn_int, mx_kn_ref, mx_kn_null, Nat.reduceLT, ofn, n10, t92, l92, e12, n5, na]
        · rw [eo2]
          have : aW (pAt ts false k) = atE (pAt ts false k) := by
            have : pAt ts false k = 1 ∨ pAt ts false k = 2 ∨ pAt ts false k = 3 ∨ pAt ts false k = 4 ∨ pAt ts false k = 5 := by omega
            rcases this with z | z | z | z | z <;> rw [z] <;> decide
          rw [this]
  · rw [if_neg (show ¬ tI ts k 1 = true from fun z => hw (tI_eq.mp z))] at A0
    by_cases c1 : tI ts k 58 = true ∧ c ≠ 45
    · rw [if_pos c1]
      refine ⟨fun q hq => ?_, fun z => (by cases z)⟩
      cases hq
      have n : ¬ nI c = 45 := fun z => c1.2 (n45.mp z)
      refine ⟨h, x, cp, .null, ?_, T, eo, by unfold OFv; rw [if_pos (show 0 < 9 by decide)], P0, by show 0 ≤ 11; decide, fun z => absurd z c1.2⟩
      simp only [g161_0, g161_1, g161_2, g161_5, g161_8, g161_9, g161_12, g161_14, g161_17, g161_18, g161_21, g161_22, mx_isr_ref, mx_isr_null, mx_wt_nil, mx_wt_1, mx_wt_2, mx_wt_3, Option.bind_some, Option.toList_some, Option.toList_none, List.cons_append, List.nil_append, mx_nl_int, mx_nl_ref, mx_nl_null, mx_nl_none, mx_nb0, mx_nb1, mx_fb0, mx_fb1, mx_cat_int, mx_cat_ref, if_true, if_false, not_true_eq_false, not_false_eq_true, mx_wt_4, mx_w4_0, mx_w9_0, mx_w9_1, mx_kn_int, mx_kn_ref, mx_kn_null, Nat.reduceLT, ofn, n10, g64, A0, t9, l9, e0, n, show ¬ ¬ (0 : Int32) = 0 by decide]
    · rw [if_neg c1]
      have hm : tW ts k w_mail = false := by
        cases z : tW ts k w_mail
        · rfl
        · exact absurd (by unfold tW at z; rw [eq_of_beq z]) hw
      have hp : pAt ts false k = 0 := by
        by_cases z : pAt ts false k = 0
        · exact z
        · exact absurd (pAt_k z) hw
      rw [if_pos hm, if_pos hp]
      refine ⟨fun q hq => (by cases hq), fun _ => ?_⟩
      by_cases c45 : c = 45
      · refine Or.inl ⟨h, x, cp, k, ?_, T, P0.mono (by decide)⟩
        simp only [g161_0, g161_1, g161_2, g161_5, g161_8, g161_9, g161_12, g161_14, g161_17, g161_18, g161_21, g161_22, mx_isr_ref, mx_isr_null, mx_wt_nil, mx_wt_1, mx_wt_2, mx_wt_3, Option.bind_some, Option.toList_some, Option.toList_none, List.cons_append, List.nil_append, mx_nl_int, mx_nl_ref, mx_nl_null, mx_nl_none, mx_nb0, mx_nb1, mx_fb0, mx_fb1, mx_cat_int, mx_cat_ref, if_true, if_false, not_true_eq_false, not_false_eq_true, mx_wt_4, mx_w4_0, mx_w9_0, mx_w9_1, mx_kn_int, mx_kn_ref, mx_kn_null, Nat.reduceLT, ofn, n10, g64, A0, t9, l9, e0, n45.mpr c45, show ¬ ¬ (0 : Int32) = 0 by decide]
      · have n : ¬ nI c = 45 := fun z => c45 (n45.mp z)
        refine Or.inr ⟨?_, ?_, c45⟩
        · simp only [g161_0, g161_1, g161_2, g161_5, g161_8, g161_9, g161_12, g161_14, g161_17, g161_18, g161_21, g161_22, mx_isr_ref, mx_isr_null, mx_wt_nil, mx_wt_1, mx_wt_2, mx_wt_3, Option.bind_some, Option.toList_some, Option.toList_none, List.cons_append, List.nil_append, mx_nl_int, mx_nl_ref, mx_nl_null, mx_nl_none, mx_nb0, mx_nb1, mx_fb0, mx_fb1, mx_cat_int, mx_cat_ref, if_true, if_false, not_true_eq_false, not_false_eq_true, mx_wt_4, mx_w4_0, mx_w9_0, mx_w9_1, mx_kn_int, mx_kn_ref, mx_kn_null, Nat.reduceLT, ofn, n10, g64, A0, t9, l9, e0, n, show ¬ ¬ (0 : Int32) = 0 by decide]
        · cases z : tI ts k 58
          · rfl
          · exact absurd ⟨z, c45⟩ c1
end
