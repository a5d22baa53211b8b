/-! Writing of people; length and letter of the class. -/
theorem wM_v (x : List Nat) : wM 6 (vT (some x)) = wN w_v ++ wT x := rfl
theorem wM_p (b : Option Bool) : wM 7 (vB b) = (match b with | none => [] | some b => [44] ++ wN w_p ++ wB b) := by
  cases b with
  | none => rfl
  | some b => cases b <;> rfl
theorem wIt_M (x : itm) : wIt x = [123] ++ wM 6 (vT (some x.1)) ++ wM 7 (vB x.2) ++ [125] := by
  obtain ⟨x1, x2⟩ := x
  rw [wM_v, wM_p]
  unfold wIt
  cases x2 <;> simp
def tlI : Nat → List itm → List Nat
  | _, [] => []
  | i, x :: l => (if i = 0 then [] else [44]) ++ wIt x ++ tlI (i + 1) l
theorem tlI_s : ∀ (l : List itm) (i j : Nat), 0 < i → 0 < j → tlI i l = tlI j l := by
  intro l
  induction l with
  | nil => intro i j _ _; rfl
  | cons x l ih =>
    intro i j hi hj
    rw [tlI, tlI, if_neg (by omega), if_neg (by omega), ih (i + 1) (j + 1) (by omega) (by omega)]
theorem wIs_tl : ∀ (l : List itm), wIs l = tlI 0 l := by
  intro l
  induction l with
  | nil => rfl
  | cons x l ih =>
    cases l with
    | nil => simp [wIs, tlI]
    | cons y l =>
      rw [wIs, ih, tlI, tlI, tlI, if_pos rfl, if_neg (by omega), tlI_s l (0 + 1 + 1) (0 + 1) (by omega) (by omega)]
      simp
theorem tlI_len : ∀ (l : List itm) (i : Nat), (∀ x ∈ l, x.1.length ≤ 12) → (tlI i l).length ≤ 43 * l.length := by
  intro l
  induction l with
  | nil => intro i _; simp [tlI]
  | cons x l ih =>
    intro i hx
    have h1 := ih (i + 1) (fun y hy => hx y (List.mem_cons_of_mem _ hy))
    have h2 := wIt_len (hx x List.mem_cons_self)
    rw [tlI, List.length_append, List.length_append, List.length_cons]
    split <;> (simp only [List.length_cons, List.length_nil]; omega)
/-- all but the items -/
def wHd (q : prs) : List Nat := wM 0 (some (1, (q.1 : Int), [])) ++ wM 1 (some (1, (q.2.1 : Int), [])) ++ wM 2 (nmO (pnm q)) ++ wM 3 (agO (pag q)) ++ wM 4 (vB (pon q))
def wMail (l : List itm) : List Nat := if l = [] then [] else kts.getD 27 [] ++ tlI 0 l ++ [93]
theorem wP_M {q : prs} (hn : pnm q ≠ []) : wP q = [123] ++ wHd q ++ wMail (pit q) ++ [125] := by
  have e2 : wM 2 (nmO (pnm q)) = [44] ++ wN w_name ++ wT (pnm q) := by
    unfold nmO
    rw [if_neg hn]
    rfl
  have e3 : wM 3 (agO (pag q)) = (match pag q with | none => [] | some v => [44] ++ wN w_age ++ wI v) := by cases pag q <;> rfl
  have e4 : wM 4 (vB (pon q)) = (match pon q with | none => [] | some b => [44] ++ wN w_on ++ wB b) := by
    cases pon q with
    | none => rfl
    | some b => cases b <;> rfl
  have e0 : wM 0 (some (1, (q.1 : Int), [])) = wN w_id ++ wI q.1 := rfl
  have e1 : wM 1 (some (1, (q.2.1 : Int), [])) = [44] ++ wN w_version ++ wI q.2.1 := rfl
  unfold wP wHd wMail
  rw [e0, e1, e2, e3, e4, wIs_tl]
  have e27 : kts.getD 27 [] = [44] ++ wN w_mail ++ [91] := rfl
  rw [e27]
  by_cases c : pit q = []
  · cases pag q <;> cases pon q <;> simp [c]
  · cases pag q <;> cases pon q <;> simp [c]
theorem wP_450 {q : prs} (W : wfP q) : 1 + (wHd q).length + (wMail (pit q)).length + 1 ≤ 450 := by
  obtain ⟨⟨n1, n2, n3⟩, -, i1, i2, -⟩ := W
  have a0 := wI_len (q.1 : Int)
  have a1 := wI_len (q.2.1 : Int)
  have a2 := wT_len (pnm q)
  have hn : pnm q ≠ [] := fun z => by rw [z] at n1; simp at n1
  have h0 : (wM 0 (some (1, (q.1 : Int), []))).length ≤ 17 := by
    show (([] : List Nat) ++ ([34] ++ w_id ++ [34, 58]) ++ wI q.1).length ≤ 17
    simp [w_id]; omega
  have h1 : (wM 1 (some (1, (q.2.1 : Int), []))).length ≤ 24 := by
    show (([44] : List Nat) ++ ([34] ++ w_version ++ [34, 58]) ++ wI q.2.1).length ≤ 24
    simp [w_version]; omega
  have h2 : (wM 2 (nmO (pnm q))).length ≤ 40 := by
    unfold nmO
    rw [if_neg hn]
    show (([44] : List Nat) ++ ([34] ++ w_name ++ [34, 58]) ++ wT (pnm q)).length ≤ 40
    simp [w_name]; omega
  have h3 : (wM 3 (agO (pag q))).length ≤ 20 := by
    cases hp : pag q with
    | none => simp [agO, wM]
    | some v =>
      have := wI_len v
      show (([44] : List Nat) ++ ([34] ++ w_age ++ [34, 58]) ++ wI v).length ≤ 20
      simp [w_age]; omega
  have h4 : (wM 4 (vB (pon q))).length ≤ 20 := by
    cases hp : pon q with
    | none => simp [vB, wM]
    | some v => cases v <;> decide
  have h5 : (wMail (pit q)).length ≤ 190 := by
    unfold wMail
    split
    · simp
    · have := tlI_len (pit q) 0 (fun x hx => (i2 x hx).2.1)
      have e27 : (kts.getD 27 []).length = 9 := rfl
      rw [List.length_append, List.length_append, e27]
      simp
      omega
  unfold wHd
  simp only [List.length_append]
  omega
section
variable {d : Nat} {R : List Nat}
theorem jw_item {h : mx_H} {x cp e : Nat} {w : List Nat} {y : itm} (W : WB h x cp w) (I : IT (x :: R) h e y) (hn : w.length + (wIt y).length ≤ 450) : ∃ (h' : mx_H) (x' cp' : Nat), mx_G (d + 9) 232 0 [some (.ref e), some (.ref 74)] [] h = some (none, h') ∧ WB h' x' cp' (w ++ wIt y) ∧ WX h x cp h' x' cp' := by
  rw [wIt_M] at hn ⊢
  simp only [List.length_append, List.length_cons, List.length_nil] at hn
  obtain ⟨cc, gg, I⟩ := I
  obtain ⟨a1, a2, e1, o1, o2⟩ := I
  have t0 : mx_tag h e = some (.inl 8) := ce_t e1
  obtain ⟨h1, x1, cp1, g1, W1, X1⟩ := jw_c (d := d + 3) W (c := 123) (by decide) (by omega)
  rw [show nI 123 = 123 from rfl] at g1
  have elt1 : ∀ {h' : mx_H} {x' cp' : Nat}, WX h x cp h' x' cp' → WB h x cp w → h'[e]? = some (.inl 8, [a1, a2, .int cc, .int gg]) := fun X W0 => X.1.at e1 (by
    simp only [List.mem_cons, List.not_mem_nil, or_false]
    obtain ⟨us, S, -⟩ := W0
    rintro (z | z)
    · rw [z] at t0; rw [(SB_f S).1] at t0; cases t0
    · rw [z] at t0; rw [(SB_f S).2.2.2.2.2.1] at t0; cases t0)
  obtain ⟨h2, x2, cp2, g2, W2, X2⟩ := jw_mem (d := d) (R := R) W1 (o1.ex X1.ex) (fun q hq => by cases hq; show 2 < 3; decide) (k := 6) (by decide) (by simp only [List.length_append, List.length_cons, List.length_nil]; omega)
  rw [show nI 6 = 6 from rfl] at g2
  have X12 := X1.trans X2
  obtain ⟨h3, x3, cp3, g3, W3, X3⟩ := jw_mem (d := d) (R := R) W2 (o2.ex X12.ex) (fun q hq => by
    cases hy : y.2 with
    | none => rw [hy] at hq; cases hq
    | some b => rw [hy] at hq; cases hq; show 0 < 3; decide) (k := 7) (by decide) (by simp only [List.length_append, List.length_cons, List.length_nil]; omega)
  rw [show nI 7 = 7 from rfl] at g3
  have X13 := X12.trans X3
  obtain ⟨h4, x4, cp4, g4, W4, X4⟩ := jw_c (d := d + 3) W3 (c := 125) (by decide) (by simp only [List.length_append, List.length_cons, List.length_nil]; omega)
  rw [show nI 125 = 125 from rfl] at g4
  refine ⟨h4, x4, cp4, ?_, by simpa using W4, X13.trans X4⟩
  have c1 := elt1 X1 W
  have c2 := elt1 X12 W
  have y0 : mx_el h1 e 0 = a1 := by rw [ce_e c1]; rfl
  have y1 : mx_el h2 e 1 = a2 := by rw [ce_e c2]; rfl
  have l1 : mx_ln h1 e = 4 := by rw [ce_n c1]; rfl
  have l2 : mx_ln h2 e = 4 := by rw [ce_n c2]; rfl
  have k1 := isr_kn o1.isr
  have k2 := isr_kn o2.isr
  simp only [g232_0, g232_1, g232_3, g232_6, g232_7, g232_8, g232_10, g232_11, g232_14, g232_17, g232_18, g232_20, g232_21, g232_24, g232_27, g232_28, g232_30, g232_33, g232_34, mx_isr_ref, mx_isr_null, mx_wt_nil, mx_wt_1, mx_wt_2, mx_wt_3, Option.bind_some, Option.toList_some, Option.toList_none, List.cons_append, List.nil_append, mx_nl_int, mx_nl_ref, mx_nl_null, mx_nl_none, mx_nb0, mx_nb1, mx_fb0, mx_fb1, mx_cat_int, mx_cat_ref, if_true, if_false, not_true_eq_false, not_false_eq_true, mx_wt_4, mx_w4_0, mx_w9_0, mx_w9_1, mx_kn_int, mx_kn_ref, mx_kn_null, Nat.reduceLT, ofn, n10, W.tag, g1, ce_t c1, l1, y0, k1, o1.isr, g2, ce_t c2, l2, y1, k2, o2.isr, g3, W3.tag, g4]
/-- a person with its list, through the writing -/
theorem PPl.keep {h h' : mx_H} {x x' cp cp' p l A cpl : Nat} {w : List Nat} {es : List Nat} {q : prs} {r : List itm} (W : WB h x cp w) (X : WX h x cp h' x' cp') (C : PC (x :: R) h p l q) (L : AL h l A cpl es) (I : ITs (x :: R) h es r) (fl : fz (x :: R) l) (fA_ : fz (x :: R) A) (fe : ∀ e ∈ es, fz (x :: R) e) (fp : fz (x :: R) p) : PC (x' :: R) h' p l q ∧ AL h' l A cpl es ∧ ITs (x' :: R) h' es r ∧ fz (x' :: R) l ∧ fz (x' :: R) A ∧ (∀ e ∈ es, fz (x' :: R) e) ∧ fz (x' :: R) p := by
  have E := X.ex (R := R)
  have hp : p < h.length := by obtain ⟨_, _, _, _, _, _, e1, _⟩ := C; exact ce_l e1
  have hl : l < h.length := by obtain ⟨⟨_, e1⟩, _⟩ := L; exact ce_l e1
  have hA : A < h.length := ce_l L.2.1
  exact ⟨C.ex E (E.2 p hp fp).1, AL_cells L (E.2 l hl fl).1 (E.2 A hA fA_).1, I.ex E (fun e he => (E.2 e (elt_lt (I.elt e he)) (fe e he)).1), (E.2 l hl fl).2, (E.2 A hA fA_).2, fun e he => (E.2 e (elt_lt (I.elt e he)) (fe e he)).2, (E.2 p hp fp).2⟩
theorem jw_mailL {p l A cpl : Nat} {es : List Nat} {q : prs} {r : List itm} (hr : r.length ≤ 1000) : ∀ n i (h : mx_H) (x cp : Nat) (w : List Nat), n + i = r.length → WB h x cp w → PC (x :: R) h p l q → AL h l A cpl es → ITs (x :: R) h es r → fz (x :: R) l → fz (x :: R) A → (∀ e ∈ es, fz (x :: R) e) → fz (x :: R) p → w.length + (tlI i (r.drop i)).length ≤ 450 →
    ∃ (h' : mx_H) (x' cp' : Nat), mx_G (d + 10) 231 9 [some (.ref p), some (.ref 74), some (.int (nI i))] [] h = mx_G (d + 10) 231 52 [some (.ref p), some (.ref 74), some (.int (nI r.length))] [] h' ∧ WB h' x' cp' (w ++ tlI i (r.drop i)) ∧ WX h x cp h' x' cp' := by
  intro n
  induction n with
  | zero =>
    intro i h x cp w hi W C L I fl fA_ fe fp hn
    have : i = r.length := by omega
    subst this
    obtain ⟨tp, lp, p6, -⟩ := PC_f C
    have sz := jl_size (d := d + 9) L
    rw [I.1] at sz
    rw [List.drop_length]
    refine ⟨h, x, cp, ?_, by simpa [tlI] using W, WX.rfl _ _ _⟩
    simp only [g231_9, g231_10, g231_11, g231_14, g231_17, mx_isr_ref, mx_isr_null, mx_wt_nil, mx_wt_1, mx_wt_2, mx_wt_3, Option.bind_some, Option.toList_some, Option.toList_none, List.cons_append, List.nil_append, mx_nl_int, mx_nl_ref, mx_nl_null, mx_nl_none, mx_nb0, mx_nb1, mx_fb0, mx_fb1, mx_cat_int, mx_cat_ref, if_true, if_false, not_true_eq_false, not_false_eq_true, mx_wt_4, mx_w4_0, mx_w9_0, mx_w9_1, mx_kn_int, mx_kn_ref, mx_kn_null, Nat.reduceLT, ofn, n10, tp, lp, p6, (AL_f L).1, sz, show nI r.length ≤ nI r.length from nI_le (Nat.le_refl _) (by omega)]
  | succ n ih =>
    intro i h x cp w hi W C L I fl fA_ fe fp hn
    have hir : i < r.length := by omega
    obtain ⟨tp, lp, p6, -⟩ := PC_f C
    have sz := jl_size (d := d + 9) L
    rw [I.1] at sz
    have q1 : ¬ nI r.length ≤ nI i := nI_ge hir (by omega)
    rw [iG_drop hir] at hn ⊢
    rw [tlI] at hn ⊢
    -- perhaps a comma
    obtain ⟨h1, x1, cp1, g1, W1, X1⟩ : ∃ (h1 : mx_H) (x1 cp1 : Nat), mx_G (d + 10) 231 9 [some (.ref p), some (.ref 74), some (.int (nI i))] [] h = mx_G (d + 10) 231 31 [some (.ref p), some (.ref 74), some (.int (nI i))] [] h1 ∧ WB h1 x1 cp1 (w ++ if i = 0 then [] else [44]) ∧ WX h x cp h1 x1 cp1 := by
      by_cases c : i = 0
      · rw [if_pos c]
        refine ⟨h, x, cp, ?_, by simpa using W, WX.rfl _ _ _⟩
        have q0 : nI i ≤ 0 := by rw [c]; decide
        simp only [g231_9, g231_10, g231_11, g231_14, g231_17, g231_20, g231_21, mx_isr_ref, mx_isr_null, mx_wt_nil, mx_wt_1, mx_wt_2, mx_wt_3, Option.bind_some, Option.toList_some, Option.toList_none, List.cons_append, List.nil_append, mx_nl_int, mx_nl_ref, mx_nl_null, mx_nl_none, mx_nb0, mx_nb1, mx_fb0, mx_fb1, mx_cat_int, mx_cat_ref, if_true, if_false, not_true_eq_false, not_false_eq_true, mx_wt_4, mx_w4_0, mx_w9_0, mx_w9_1, mx_kn_int, mx_kn_ref, mx_kn_null, Nat.reduceLT, ofn, n10, tp, lp, p6, (AL_f L).1, sz, q1, q0]
      · rw [if_neg c] at hn ⊢
        simp only [List.length_append, List.length_cons, List.length_nil] at hn
        obtain ⟨h1, x1, cp1, a1, a2, a3⟩ := jw_c (d := d + 4) W (c := 44) (by decide) (by omega)
        rw [show nI 44 = 44 from rfl] at a1
        refine ⟨h1, x1, cp1, ?_, a2, a3⟩
        have q0 : ¬ nI i ≤ 0 := nI_nle (by omega) (by omega)
        simp only [g231_9, g231_10, g231_11, g231_14, g231_17, g231_20, g231_21, g231_24, g231_25, g231_27, g231_30, mx_isr_ref, mx_isr_null, mx_wt_nil, mx_wt_1, mx_wt_2, mx_wt_3, Option.bind_some, Option.toList_some, Option.toList_none, List.cons_append, List.nil_append, mx_nl_int, mx_nl_ref, mx_nl_null, mx_nl_none, mx_nb0, mx_nb1, mx_fb0, mx_fb1, mx_cat_int, mx_cat_ref, if_true, if_false, not_true_eq_false, not_false_eq_true, mx_wt_4, mx_w4_0, mx_w9_0, mx_w9_1, mx_kn_int, mx_kn_ref, mx_kn_null, Nat.reduceLT, ofn, n10, tp, lp, p6, (AL_f L).1, sz, q1, q0, W.tag, a1]
    generalize hc : (if i = 0 then ([] : List Nat) else [44]) = cm at *
    simp only [List.length_append] at hn
    obtain ⟨C1, L1, I1, fl1, fA1, fe1, fp1⟩ := PPl.keep W X1 C L I fl fA_ fe fp
    obtain ⟨tp1, lp1, p61, -⟩ := PC_f C1
    have G1 := jl_get (d := d + 7) L1 (show i < es.length by rw [I.1]; exact hir)
    have i1 := I1.2 i hir
    have te : mx_tag h1 (es.getD i 0) = some (.inl 8) := by obtain ⟨c, g, a1, a2, y, -⟩ := i1; exact ce_t y
    obtain ⟨h2, x2, cp2, g2, W2, X2⟩ := jw_item (d := d) W1 i1 (by simp only [List.length_append]; omega)
    obtain ⟨C2, L2, I2, fl2, fA2, fe2, fp2⟩ := PPl.keep W1 X2 C1 L1 I1 fl1 fA1 fe1 fp1
    obtain ⟨h', x', cp', j1, j2, j3⟩ := ih (i + 1) h2 x2 cp2 _ (by omega) W2 C2 L2 I2 fl2 fA2 fe2 fp2 (by simp only [List.length_append]; omega)
    refine ⟨h', x', cp', ?_, by simpa using j2, (X1.trans X2).trans j3⟩
    rw [g1, ← j1]
    simp only [g231_31, g231_32, g231_35, g231_36, g231_39n, g231_39, g231_42, g231_43, g231_46, g231_49, mx_isr_ref, mx_isr_null, mx_wt_nil, mx_wt_1, mx_wt_2, mx_wt_3, Option.bind_some, Option.toList_some, Option.toList_none, List.cons_append, List.nil_append, mx_nl_int, mx_nl_ref, mx_nl_null, mx_nl_none, mx_nb0, mx_nb1, mx_fb0, mx_fb1, mx_cat_int, mx_cat_ref, if_true, if_false, not_true_eq_false, not_false_eq_true, mx_wt_4, mx_w4_0, mx_w9_0, mx_w9_1, mx_kn_int, mx_kn_ref, mx_kn_null, Nat.reduceLT, ofn, n10, tp1, lp1, p61, (AL_f L1).1, G1, te, g2, nI_1]
theorem jp_get {M : List Nat} {h : mx_H} {p l : Nat} {q : prs} (C : PC M h p l q) (hb : q.1 < 2 ^ 20 ∧ q.2.1 < 2 ^ 20) {k : Nat} (hk : k < 5) : ∃ a, mx_G d 185 0 [some (.ref p), some (.int (nI k))] [] h = some (some a, h) ∧ OV M h a (if k = 0 then some (1, (q.1 : Int), []) else if k = 1 then some (1, (q.2.1 : Int), []) else if k = 2 then nmO (pnm q) else if k = 3 then agO (pag q) else vB (pon q)) := by
  obtain ⟨tp, lp, p6, i, v, nn, ff, aa, oo, p0, p1, p2, p3, p4, p5, V1, V2, O2, O3, O4, O5⟩ := PC_f C
  have k2 := isr_kn O2.isr
  have k4 := isr_kn O4.isr
  have k5 := isr_kn O5.isr
  have : k = 0 ∨ k = 1 ∨ k = 2 ∨ k = 3 ∨ k = 4 := by omega
  rcases this with rfl | rfl | rfl | rfl | rfl
  · refine ⟨.ref i, ?_, ⟨i, rfl, V1, by show nb (q.1 : Int); exact ⟨by omega, by omega⟩⟩⟩
    rw [show nI 0 = 0 from rfl]
    simp only [g185_0, g185_1_0, g185_1_1, g185_1_2, g185_1_3, g185_1_4, g185_1d, g185_36, g185_37, g185_40, g185_41, g185_42, g185_45, g185_46, g185_47, g185_50, g185_51, g185_52, g185_55, g185_56, g185_57, g185_60, g185_61, g185_62, mx_isr_ref, mx_isr_null, mx_wt_nil, mx_wt_1, mx_wt_2, mx_wt_3, Option.bind_some, Option.toList_some, Option.toList_none, List.cons_append, List.nil_append, mx_nl_int, mx_nl_ref, mx_nl_null, mx_nl_none, mx_nb0, mx_nb1, mx_fb0, mx_fb1, mx_cat_int, mx_cat_ref, if_true, if_false, not_true_eq_false, not_false_eq_true, mx_wt_4, mx_w4_0, mx_w9_0, mx_w9_1, mx_kn_int, mx_kn_ref, mx_kn_null, Nat.reduceLT, ofn, n10, tp, lp, p0]
  · refine ⟨.ref v, ?_, ⟨v, rfl, V2, by show nb (q.2.1 : Int); exact ⟨by omega, by omega⟩⟩⟩
    rw [show nI 1 = 1 from rfl]
    simp only [g185_0, g185_1_0, g185_1_1, g185_1_2, g185_1_3, g185_1_4, g185_1d, g185_36, g185_37, g185_40, g185_41, g185_42, g185_45, g185_46, g185_47, g185_50, g185_51, g185_52, g185_55, g185_56, g185_57, g185_60, g185_61, g185_62, mx_isr_ref, mx_isr_null, mx_wt_nil, mx_wt_1, mx_wt_2, mx_wt_3, Option.bind_some, Option.toList_some, Option.toList_none, List.cons_append, List.nil_append, mx_nl_int, mx_nl_ref, mx_nl_null, mx_nl_none, mx_nb0, mx_nb1, mx_fb0, mx_fb1, mx_cat_int, mx_cat_ref, if_true, if_false, not_true_eq_false, not_false_eq_true, mx_wt_4, mx_w4_0, mx_w9_0, mx_w9_1, mx_kn_int, mx_kn_ref, mx_kn_null, Nat.reduceLT, ofn, n10, tp, lp, p1]
  · refine ⟨nn, ?_, O2⟩
    rw [show nI 2 = 2 from rfl]
    simp only [g185_0, g185_1_0, g185_1_1, g185_1_2, g185_1_3, g185_1_4, g185_1d, g185_36, g185_37, g185_40, g185_41, g185_42, g185_45, g185_46, g185_47, g185_50, g185_51, g185_52, g185_55, g185_56, g185_57, g185_60, g185_61, g185_62, mx_isr_ref, mx_isr_null, mx_wt_nil, mx_wt_1, mx_wt_2, mx_wt_3, Option.bind_some, Option.toList_some, Option.toList_none, List.cons_append, List.nil_append, mx_nl_int, mx_nl_ref, mx_nl_null, mx_nl_none, mx_nb0, mx_nb1, mx_fb0, mx_fb1, mx_cat_int, mx_cat_ref, if_true, if_false, not_true_eq_false, not_false_eq_true, mx_wt_4, mx_w4_0, mx_w9_0, mx_w9_1, mx_kn_int, mx_kn_ref, mx_kn_null, Nat.reduceLT, ofn, n10, tp, lp, p2, k2, O2.isr]
  · refine ⟨aa, ?_, O4⟩
    rw [show nI 3 = 3 from rfl]
    simp only [g185_0, g185_1_0, g185_1_1, g185_1_2, g185_1_3, g185_1_4, g185_1d, g185_36, g185_37, g185_40, g185_41, g185_42, g185_45, g185_46, g185_47, g185_50, g185_51, g185_52, g185_55, g185_56, g185_57, g185_60, g185_61, g185_62, mx_isr_ref, mx_isr_null, mx_wt_nil, mx_wt_1, mx_wt_2, mx_wt_3, Option.bind_some, Option.toList_some, Option.toList_none, List.cons_append, List.nil_append, mx_nl_int, mx_nl_ref, mx_nl_null, mx_nl_none, mx_nb0, mx_nb1, mx_fb0, mx_fb1, mx_cat_int, mx_cat_ref, if_true, if_false, not_true_eq_false, not_false_eq_true, mx_wt_4, mx_w4_0, mx_w9_0, mx_w9_1, mx_kn_int, mx_kn_ref, mx_kn_null, Nat.reduceLT, ofn, n10, tp, lp, p4, k4, O4.isr]
  · refine ⟨oo, ?_, O5⟩
    rw [show nI 4 = 4 from rfl]
    simp only [g185_0, g185_1_0, g185_1_1, g185_1_2, g185_1_3, g185_1_4, g185_1d, g185_36, g185_37, g185_40, g185_41, g185_42, g185_45, g185_46, g185_47, g185_50, g185_51, g185_52, g185_55, g185_56, g185_57, g185_60, g185_61, g185_62, mx_isr_ref, mx_isr_null, mx_wt_nil, mx_wt_1, mx_wt_2, mx_wt_3, Option.bind_some, Option.toList_some, Option.toList_none, List.cons_append, List.nil_append, mx_nl_int, mx_nl_ref, mx_nl_null, mx_nl_none, mx_nb0, mx_nb1, mx_fb0, mx_fb1, mx_cat_int, mx_cat_ref, if_true, if_false, not_true_eq_false, not_false_eq_true, mx_wt_4, mx_w4_0, mx_w9_0, mx_w9_1, mx_kn_int, mx_kn_ref, mx_kn_null, Nat.reduceLT, ofn, n10, tp, lp, p5, k5, O5.isr]
end
