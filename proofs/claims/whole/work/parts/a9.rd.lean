/-! Value.read comes to pV. -/
section
variable {d : Nat} {ts : List tk}
theorem pV_pD {n t : Nat} {o : Bool} (h : tI ts t (op o) = true) : pV ts (n + 1) t = if tI ts (t + 1) (cl o) = true then some (t + 2) else (pD (pV ts n) ts o [] 120 (t + 1)).map fun q => q.2 := by
  cases o with
  | true =>
    have h1 : tI ts t 123 = true := h
    rw [pV, if_pos h1]
    show (if tI ts (t + 1) 125 = true then _ else _) = (if tI ts (t + 1) 125 = true then _ else _)
    split
    · rfl
    · unfold pD
      cases pP (pV ts n) ts true 120 (t + 1) with
      | none => rfl
      | some q =>
        rw [Option.bind_some, Option.bind_some, List.nil_append]
        cases hd : dst ts q.1
        · simp
        · simp
  | false =>
    have h1 : tI ts t 91 = true := h
    have h0 : ¬ tI ts t 123 = true := by
      intro z
      rw [tI_eq] at z h1
      omega
    rw [pV, if_neg h0, if_pos h1]
    show (if tI ts (t + 1) 93 = true then _ else _) = (if tI ts (t + 1) 93 = true then _ else _)
    split
    · rfl
    · unfold pD
      cases pP (pV ts n) ts false 120 (t + 1) with
      | none => rfl
      | some q => simp
theorem pD_kd {n t : Nat} {o : Bool} {q : List Nat × Nat} (hn : n ≤ 3) (h : tI ts t (op o) = true) (hq : pD (pV ts n) ts o [] 120 (t + 1) = some q) : kd ts t = q.1 := by
  have h1 : pP (pV ts n) ts o 120 (t + 1) = some q := by
    unfold pD at hq
    obtain ⟨q', e1, e2⟩ := Option.bind_eq_some_iff.mp hq
    split at e2
    · cases e2
    · cases e2; exact e1
  have h2 := pP_mono (rc' := pE ts n) (fun t e he => pV_pE n t e hn he) _ _ _ h1
  cases o with
  | true => exact kd_obj hn h h2
  | false => exact kd_arr hn h h2
theorem cVl_comp {n t v : Nat} {o : Bool} {M : List Nat} {h : mx_H} {f : Value} {s : Nat} (hI : tI ts t (op o) = true) (e : h[v]? = some (.inl 4, [.int (kdi o), .int 0, .ref s, f])) (hz : fz M v) (S : Str M h s []) (G : pG (cVl ts n M h) ts o M h f (kd ts t) .null) : cVl ts (n + 1) M h v t := by
  rw [cVl]
  cases o with
  | true =>
    have h1 : tI ts t 123 = true := hI
    rw [if_pos h1]
    exact ⟨f, s, e, hz, S, G⟩
  | false =>
    have h1 : tI ts t 91 = true := hI
    have h0 : ¬ tI ts t 123 = true := by
      intro z
      rw [tI_eq] at z h1
      omega
    rw [if_neg h0, if_pos h1]
    exact ⟨f, s, e, hz, S, G⟩
variable {h : mx_H} {x cp c : Nat}
theorem jv_parts {n : Nat} {o : Bool} (hn : n ≤ 2) (rd : RD (d + 10) n ts) {R : List Nat} (T : BT h x cp ts c) (r : RB R h) (hI : tI ts c (op o) = true) :
    (∀ e, pV ts (n + 1) c = some e → ∃ (h' : mx_H) (x' cp' v : Nat), mx_G (d + 12) 50 0 [some (.ref 64), some (.int (nI (3 - n))), none, none, none, none, none, none] [] h = some (some (.ref v), h') ∧ BT h' x' cp' ts e ∧ cVl ts (n + 1) (x' :: R) h' v c ∧ h.length ≤ v ∧ PX ts h x cp c h' x' cp' e 50) ∧
    (pV ts (n + 1) c = none → ∃ (h' : mx_H) (x' cp' c' : Nat), mx_G (d + 12) 50 0 [some (.ref 64), some (.int (nI (3 - n))), none, none, none, none, none, none] [] h = some (some .null, h') ∧ BT h' x' cp' ts c' ∧ PX ts h x cp c h' x' cp' c' 0) := by
  have hlt : c < ts.length := tI_ltN (by cases o <;> decide) hI
  obtain ⟨xl1, xl2, xl3, xl4, K, xl5⟩ := T.xlt
  have A := jt_isAt (d := d + 11) T (k := 123) (by decide)
  rw [show nI 123 = 123 from rfl] at A
  obtain ⟨h1, n1, T1, F1, W1⟩ := jt_next (d := d + 11) T
  rw [show min (c + 1) ts.length = c + 1 by omega] at T1
  obtain ⟨h2, n2, T2, F2, W2⟩ := jt_take (d := d + 10) T1 (k := cl o) (by cases o <;> decide) (by cases o <;> decide)
  have f1 := T.kind.1
  have f2 := T1.kind.1
  have P1 := px_of64 T F1 W1 (Nat.le_succ c)
  have l1 := F1.1
  have l2 := F2.1
  have pre : mx_G (d + 12) 50 0 [some (.ref 64), some (.int (nI (3 - n))), none, none, none, none, none, none] [] h = mx_G (d + 12) 50 32 [some (.ref 64), some (.int (nI (3 - n))), some (.int (kdi o)), some (.int (nI (cl o))), none, none, none, none] [] h1 := by
    cases o with
    | true =>
      have i : tI ts c 123 = true := hI
      rw [if_pos i] at A
      simp only [g50_0, g50_1, g50_3, g50_6, g50_9, g50_10, g50_13, g50_14, g50_15, g50_16, g50_17, g50_20, g50_22, g50_25, g50_27, g50_28, g50_29, mx_isr_ref, mx_isr_null, mx_wt_nil, mx_wt_1, mx_wt_2, mx_wt_3, Option.bind_some, Option.toList_some, Option.toList_none, List.cons_append, List.nil_append, mx_nl_int, mx_nl_ref, mx_nl_null, mx_nl_none, mx_nb0, mx_nb1, mx_fb0, mx_fb1, mx_cat_int, mx_cat_ref, if_true, if_false, not_true_eq_false, not_false_eq_true, mx_wt_4, mx_w4_0, mx_w9_0, mx_w9_1, mx_kn_int, mx_kn_ref, mx_kn_null, Nat.reduceLT, ofn, n10, f1, A, n1]
      rfl
    | false =>
      have h91 : tI ts c 91 = true := hI
      have i : ¬ tI ts c 123 = true := by
        intro z
        rw [tI_eq] at z h91
        omega
      rw [if_neg i] at A
      simp only [g50_0, g50_1, g50_3, g50_6, g50_9, g50_10, g50_13, g50_14, g50_15, g50_16, g50_17, g50_20, g50_22, g50_25, g50_27, g50_28, g50_29, mx_isr_ref, mx_isr_null, mx_wt_nil, mx_wt_1, mx_wt_2, mx_wt_3, Option.bind_some, Option.toList_some, Option.toList_none, List.cons_append, List.nil_append, mx_nl_int, mx_nl_ref, mx_nl_null, mx_nl_none, mx_nb0, mx_nb1, mx_fb0, mx_fb1, mx_cat_int, mx_cat_ref, if_true, if_false, not_true_eq_false, not_false_eq_true, mx_wt_4, mx_w4_0, mx_w9_0, mx_w9_1, mx_kn_int, mx_kn_ref, mx_kn_null, Nat.reduceLT, ofn, n10, f1, A, n1, show ¬ (4 : Int32) = 3 by decide]
      rfl
  rw [pre, pV_pD hI]
  have fzN : ∀ a x', h.length ≤ a → a ≠ x' → fz (x' :: R) a := by
    intro a x' ha hx
    refine ⟨by omega, fun z => ?_⟩
    rcases List.mem_cons.mp z with z | z
    · exact hx z
    · have := r _ z; omega
  have M63 : ∀ x', 63 ≤ x' → ∀ a ∈ x' :: R, 63 ≤ a := by
    intro x' hx a ha
    rcases List.mem_cons.mp ha with rfl | z
    · exact hx
    · exact (r _ z).1
  by_cases hc : tI ts (c + 1) (cl o) = true
  · rw [if_pos hc]
    rw [if_pos hc] at n2 T2
    have hlt1 : c + 1 < ts.length := tI_ltN (by cases o <;> decide) hc
    refine ⟨fun e he => ?_, fun z => (by cases z)⟩
    cases he
    obtain ⟨h3, v1, v2, v3, v4⟩ := jv_mkVal (d := d + 10) (h := h2) (by have := T2.xlt.2.2.2.1; omega) (kdi o) (f := .null) rfl
    have T3 := T2.fr v3 (by simp)
    refine ⟨h3, x, cp, h2.length, ?_, T3, ?_, by omega, ?_⟩
    · have tt : mx_tag (h2 ++ [((.inl 4 : Nat ⊕ FieldType), [Value.int 0, .int 0, .null, .null])]) h2.length = some (.inl 4) := by rw [mx_tag_app, if_pos rfl]
      simp only [g50_32, g50_33, g50_34, g50_37, g50_40, g50_43, g50_44, g50_45, g50_46, g50_49, mx_isr_ref, mx_isr_null, mx_wt_nil, mx_wt_1, mx_wt_2, mx_wt_3, Option.bind_some, Option.toList_some, Option.toList_none, List.cons_append, List.nil_append, mx_nl_int, mx_nl_ref, mx_nl_null, mx_nl_none, mx_nb0, mx_nb1, mx_fb0, mx_fb1, mx_cat_int, mx_cat_ref, if_true, if_false, not_true_eq_false, not_false_eq_true, mx_wt_4, mx_w4_0, mx_w9_0, mx_w9_1, mx_kn_int, mx_kn_ref, mx_kn_null, Nat.reduceLT, ofn, n10, f2, n2, tt, v1]
    · refine cVl_comp hI v2 (fzN _ _ (by omega) (by omega)) (KS.str T3.xlt.2.2.2.2.1 (M63 x xl2) 2 (by decide)) ?_
      have : kd ts c = [] := by
        cases o with
        | true => exact kd_obj0 hI hc
        | false => exact kd_arr0 hI hc
      rw [this]
      rfl
    · refine ((P1.trans (px_of64 T1 F2 W2 (Nat.le_succ _))).al (n := 16) v3 (by simp) (by omega) ?_).mono ?_
      · rw [Wt_succ hlt]; omega
      · rw [Wt_succ hlt]; omega
  · rw [if_neg hc]
    rw [if_neg hc] at n2 T2
    have P2 := P1.trans (px_of64 T1 F2 W2 (Nat.le_refl _))
    obtain ⟨j1, j2⟩ := jv_partsL (o := o) rd (h0 := h) (x0 := x) (cp0 := cp) (c0 := c) (R := R) xl4 r 120 0 h2 x cp (c + 1) _ .null .null [] none (by omega) T2 P2 (Or.inl ⟨rfl, rfl, rfl⟩) (fun _ => rfl)
    have hG : mx_G (d + 12) 50 32 [some (.ref 64), some (.int (nI (3 - n))), some (.int (kdi o)), some (.int (nI (cl o))), none, none, none, none] [] h1 = mx_G (d + 12) 50 59 [some (.ref 64), some (.int (nI (3 - n))), some (.int (kdi o)), some (.int (nI (cl o))), some .null, some .null, some (.int (nI 0)), none] [] h2 := by
      simp only [g50_32, g50_33, g50_34, g50_37, g50_40, g50_43, g50_44, g50_45, g50_46, g50_49, g50_50, g50_51, g50_53, g50_54, g50_56, g50_57, mx_isr_ref, mx_isr_null, mx_wt_nil, mx_wt_1, mx_wt_2, mx_wt_3, Option.bind_some, Option.toList_some, Option.toList_none, List.cons_append, List.nil_append, mx_nl_int, mx_nl_ref, mx_nl_null, mx_nl_none, mx_nb0, mx_nb1, mx_fb0, mx_fb1, mx_cat_int, mx_cat_ref, if_true, if_false, not_true_eq_false, not_false_eq_true, mx_wt_4, mx_w4_0, mx_w9_0, mx_w9_1, mx_kn_int, mx_kn_ref, mx_kn_null, Nat.reduceLT, ofn, n10, f2, n2]
      rfl
    rw [hG]
    refine ⟨fun e he => ?_, fun he => ?_⟩
    · obtain ⟨q, hq, hqe⟩ := Option.map_eq_some_iff.mp he
      obtain ⟨h', x', cp', v, f', b1, b2, b3, b4, b5, b6⟩ := j1 q hq
      cases hqe
      rw [List.nil_append, ← pD_kd (by omega) hI hq] at b5
      refine ⟨h', x', cp', v, b1, b2, ?_, b4, b6.mono ?_⟩
      · exact cVl_comp hI b3 (fzN _ _ b4 (b2.ne b3 (by simp))) (KS.str b2.xlt.2.2.2.2.1 (M63 x' b2.xlt.2.1) 2 (by decide)) b5
      · rw [Wt_succ hlt]; omega
    · exact j2 (Option.map_eq_none_iff.mp he)
theorem rd_0 : RD (d + 10) 0 ts := by
  intro h x cp c R T r
  have A := jt_isAt (d := d + 9) T (k := 123) (by decide)
  have A2 := jt_isAt (d := d + 9) T (k := 91) (by decide)
  rw [show nI 123 = 123 from rfl] at A
  rw [show nI 91 = 91 from rfl] at A2
  obtain ⟨p1, p2⟩ := jv_plain (d := d) T r
  have f1 := T.kind.1
  rw [show pV ts 0 c = if 0 < sc ts c then some (c + 1) else none from rfl]
  by_cases hb : tI ts c 123 = true ∨ tI ts c 91 = true
  · have hsc : sc ts c = 0 := by
      cases hz : sc ts c with
      | zero => rfl
      | succ k =>
        have := sc_small (ts := ts) (t := c) (by omega)
        rcases hb with z | z <;> (rw [tI_eq] at z; omega)
    rw [hsc, if_neg (by omega)]
    refine ⟨fun e he => (by cases he), fun _ => ⟨h, x, cp, c, ?_, T, PX.rfl _ _ _ _ _⟩⟩
    by_cases h1 : tI ts c 123 = true
    · rw [if_pos h1] at A
      simp only [g48_0, g48_1, g48_3, g48_6, g48_9, g48_10, g48_12, g48_15, g48_18, g48_19, g48_20, g48_23, g48_24, g48_25, g48_26, g48_27, g48_30, g48_33, g48_34, g48_35, g48_36, g48_39, mx_isr_ref, mx_isr_null, mx_wt_nil, mx_wt_1, mx_wt_2, mx_wt_3, Option.bind_some, Option.toList_some, Option.toList_none, List.cons_append, List.nil_append, mx_nl_int, mx_nl_ref, mx_nl_null, mx_nl_none, mx_nb0, mx_nb1, mx_fb0, mx_fb1, mx_cat_int, mx_cat_ref, if_true, if_false, not_true_eq_false, not_false_eq_true, mx_wt_4, mx_w4_0, mx_w9_0, mx_w9_1, mx_kn_int, mx_kn_ref, mx_kn_null, Nat.reduceLT, ofn, n10, f1, A, show (3 : Int32) ≤ nI (3 - 0) by decide]
    · rw [if_neg h1] at A
      rw [if_pos (hb.resolve_left h1)] at A2
      simp only [g48_0, g48_1, g48_3, g48_6, g48_9, g48_10, g48_12, g48_15, g48_18, g48_19, g48_20, g48_23, g48_24, g48_25, g48_26, g48_27, g48_30, g48_33, g48_34, g48_35, g48_36, g48_39, mx_isr_ref, mx_isr_null, mx_wt_nil, mx_wt_1, mx_wt_2, mx_wt_3, Option.bind_some, Option.toList_some, Option.toList_none, List.cons_append, List.nil_append, mx_nl_int, mx_nl_ref, mx_nl_null, mx_nl_none, mx_nb0, mx_nb1, mx_fb0, mx_fb1, mx_cat_int, mx_cat_ref, if_true, if_false, not_true_eq_false, not_false_eq_true, mx_wt_4, mx_w4_0, mx_w9_0, mx_w9_1, mx_kn_int, mx_kn_ref, mx_kn_null, Nat.reduceLT, ofn, n10, f1, A, A2, show (3 : Int32) ≤ nI (3 - 0) by decide]
  · rw [if_neg (fun z => hb (Or.inl z))] at A
    rw [if_neg (fun z => hb (Or.inr z))] at A2
    by_cases hs : 0 < sc ts c
    · rw [if_pos hs]
      refine ⟨fun e he => ?_, fun z => (by cases z)⟩
      cases he
      obtain ⟨h', x', cp', v, a1, a2, a3, a4, a5, a6⟩ := p1 hs
      refine ⟨h', x', cp', v, ?_, a2, ⟨hs, a3⟩, a4, a6⟩
      simp only [g48_0, g48_1, g48_3, g48_6, g48_9, g48_10, g48_12, g48_15, g48_18, g48_19, g48_20, g48_23, g48_24, g48_25, g48_26, g48_27, g48_30, g48_33, g48_34, g48_35, g48_36, g48_39, mx_isr_ref, mx_isr_null, mx_wt_nil, mx_wt_1, mx_wt_2, mx_wt_3, Option.bind_some, Option.toList_some, Option.toList_none, List.cons_append, List.nil_append, mx_nl_int, mx_nl_ref, mx_nl_null, mx_nl_none, mx_nb0, mx_nb1, mx_fb0, mx_fb1, mx_cat_int, mx_cat_ref, if_true, if_false, not_true_eq_false, not_false_eq_true, mx_wt_4, mx_w4_0, mx_w9_0, mx_w9_1, mx_kn_int, mx_kn_ref, mx_kn_null, Nat.reduceLT, ofn, n10, f1, A, A2, a1]
    · rw [if_neg hs]
      refine ⟨fun e he => (by cases he), fun _ => ?_⟩
      obtain ⟨h', a1, a2, a3⟩ := p2 (by omega)
      refine ⟨h', x, cp, _, ?_, a2, a3⟩
      simp only [g48_0, g48_1, g48_3, g48_6, g48_9, g48_10, g48_12, g48_15, g48_18, g48_19, g48_20, g48_23, g48_24, g48_25, g48_26, g48_27, g48_30, g48_33, g48_34, g48_35, g48_36, g48_39, mx_isr_ref, mx_isr_null, mx_wt_nil, mx_wt_1, mx_wt_2, mx_wt_3, Option.bind_some, Option.toList_some, Option.toList_none, List.cons_append, List.nil_append, mx_nl_int, mx_nl_ref, mx_nl_null, mx_nl_none, mx_nb0, mx_nb1, mx_fb0, mx_fb1, mx_cat_int, mx_cat_ref, if_true, if_false, not_true_eq_false, not_false_eq_true, mx_wt_4, mx_w4_0, mx_w9_0, mx_w9_1, mx_kn_int, mx_kn_ref, mx_kn_null, Nat.reduceLT, ofn, n10, f1, A, A2, a1]
theorem rd_S {n : Nat} (hn : n ≤ 2) (rd : RD (d + 10) n ts) : RD (d + 13) (n + 1) ts := by
  intro h x cp c R T r
  have A := jt_isAt (d := d + 12) T (k := 123) (by decide)
  have A2 := jt_isAt (d := d + 12) T (k := 91) (by decide)
  rw [show nI 123 = 123 from rfl] at A
  rw [show nI 91 = 91 from rfl] at A2
  have f1 := T.kind.1
  have hlt : ¬ (3 : Int32) ≤ nI (3 - (n + 1)) := nI_ge (b := 3) (by omega) (by decide)
  have hadd : nI (3 - (n + 1)) + 1 = nI (3 - n) := by rw [nI_1]; congr 1; omega
  by_cases hb : tI ts c 123 = true ∨ tI ts c 91 = true
  · have key : ∃ o, tI ts c (op o) = true := by
      rcases hb with z | z
      · exact ⟨true, z⟩
      · exact ⟨false, z⟩
    obtain ⟨o, ho⟩ := key
    obtain ⟨p1, p2⟩ := jv_parts hn rd T r ho
    have hG : mx_G (d + 13) 48 0 [some (.ref 64), some (.int (nI (3 - (n + 1))))] [] h = (mx_G (d + 12) 50 0 [some (.ref 64), some (.int (nI (3 - n))), none, none, none, none, none, none] [] h).bind fun q => mx_G (d + 13) 48 30 [some (.ref 64), some (.int (nI (3 - (n + 1))))] (q.1.toList ++ []) q.2 := by
      by_cases h1 : tI ts c 123 = true
      · rw [if_pos h1] at A
        simp only [g48_0, g48_1, g48_3, g48_6, g48_9, g48_10, g48_12, g48_15, g48_18, g48_19, g48_20, g48_23, g48_24, g48_25, g48_26, g48_27, mx_isr_ref, mx_isr_null, mx_wt_nil, mx_wt_1, mx_wt_2, mx_wt_3, Option.bind_some, Option.toList_some, Option.toList_none, List.cons_append, List.nil_append, mx_nl_int, mx_nl_ref, mx_nl_null, mx_nl_none, mx_nb0, mx_nb1, mx_fb0, mx_fb1, mx_cat_int, mx_cat_ref, if_true, if_false, not_true_eq_false, not_false_eq_true, mx_wt_4, mx_w4_0, mx_w9_0, mx_w9_1, mx_kn_int, mx_kn_ref, mx_kn_null, Nat.reduceLT, ofn, n10, f1, A, hlt, hadd]
      · rw [if_neg h1] at A
        rw [if_pos (hb.resolve_left h1)] at A2
        simp only [g48_0, g48_1, g48_3, g48_6, g48_9, g48_10, g48_12, g48_15, g48_18, g48_19, g48_20, g48_23, g48_24, g48_25, g48_26, g48_27, mx_isr_ref, mx_isr_null, mx_wt_nil, mx_wt_1, mx_wt_2, mx_wt_3, Option.bind_some, Option.toList_some, Option.toList_none, List.cons_append, List.nil_append, mx_nl_int, mx_nl_ref, mx_nl_null, mx_nl_none, mx_nb0, mx_nb1, mx_fb0, mx_fb1, mx_cat_int, mx_cat_ref, if_true, if_false, not_true_eq_false, not_false_eq_true, mx_wt_4, mx_w4_0, mx_w9_0, mx_w9_1, mx_kn_int, mx_kn_ref, mx_kn_null, Nat.reduceLT, ofn, n10, f1, A, A2, hlt, hadd]
    rw [hG]
    refine ⟨fun e he => ?_, fun he => ?_⟩
    · obtain ⟨h', x', cp', v, a1, a2, a3, a4, a5⟩ := p1 e he
      refine ⟨h', x', cp', v, ?_, a2, a3, a4, a5⟩
      simp only [a1, g48_30, g48_33, g48_34, mx_isr_ref, mx_isr_null, mx_wt_nil, mx_wt_1, mx_wt_2, mx_wt_3, Option.bind_some, Option.toList_some, Option.toList_none, List.cons_append, List.nil_append, mx_nl_int, mx_nl_ref, mx_nl_null, mx_nl_none, mx_nb0, mx_nb1, mx_fb0, mx_fb1, mx_cat_int, mx_cat_ref, if_true, if_false, not_true_eq_false, not_false_eq_true, mx_wt_4, mx_w4_0, mx_w9_0, mx_w9_1, mx_kn_int, mx_kn_ref, mx_kn_null, Nat.reduceLT, ofn, n10]
    · obtain ⟨h', x', cp', c', a1, a2, a3⟩ := p2 he
      refine ⟨h', x', cp', c', ?_, a2, a3⟩
      simp only [a1, g48_30, g48_33, g48_34, mx_isr_ref, mx_isr_null, mx_wt_nil, mx_wt_1, mx_wt_2, mx_wt_3, Option.bind_some, Option.toList_some, Option.toList_none, List.cons_append, List.nil_append, mx_nl_int, mx_nl_ref, mx_nl_null, mx_nl_none, mx_nb0, mx_nb1, mx_fb0, mx_fb1, mx_cat_int, mx_cat_ref, if_true, if_false, not_true_eq_false, not_false_eq_true, mx_wt_4, mx_w4_0, mx_w9_0, mx_w9_1, mx_kn_int, mx_kn_ref, mx_kn_null, Nat.reduceLT, ofn, n10]
  · have h123 : ¬ tI ts c 123 = true := fun z => hb (Or.inl z)
    have h91 : ¬ tI ts c 91 = true := fun z => hb (Or.inr z)
    rw [if_neg h123] at A
    rw [if_neg h91] at A2
    obtain ⟨p1, p2⟩ := jv_plain (d := d + 3) T r
    rw [show pV ts (n + 1) c = if 0 < sc ts c then some (c + 1) else none by rw [pV, if_neg h123, if_neg h91]]
    by_cases hs : 0 < sc ts c
    · rw [if_pos hs]
      refine ⟨fun e he => ?_, fun z => (by cases z)⟩
      cases he
      obtain ⟨h', x', cp', v, a1, a2, a3, a4, a5, a6⟩ := p1 hs
      refine ⟨h', x', cp', v, ?_, a2, ?_, a4, a6⟩
      · simp only [g48_0, g48_1, g48_3, g48_6, g48_9, g48_10, g48_12, g48_15, g48_18, g48_19, g48_20, g48_23, g48_24, g48_25, g48_26, g48_27, g48_30, g48_33, g48_34, g48_35, g48_36, g48_39, mx_isr_ref, mx_isr_null, mx_wt_nil, mx_wt_1, mx_wt_2, mx_wt_3, Option.bind_some, Option.toList_some, Option.toList_none, List.cons_append, List.nil_append, mx_nl_int, mx_nl_ref, mx_nl_null, mx_nl_none, mx_nb0, mx_nb1, mx_fb0, mx_fb1, mx_cat_int, mx_cat_ref, if_true, if_false, not_true_eq_false, not_false_eq_true, mx_wt_4, mx_w4_0, mx_w9_0, mx_w9_1, mx_kn_int, mx_kn_ref, mx_kn_null, Nat.reduceLT, ofn, n10, f1, A, A2, a1]
      · rw [cVl, if_neg h123, if_neg h91]
        exact ⟨hs, a3⟩
    · rw [if_neg hs]
      refine ⟨fun e he => (by cases he), fun _ => ?_⟩
      obtain ⟨h', a1, a2, a3⟩ := p2 (by omega)
      refine ⟨h', x, cp, _, ?_, a2, a3⟩
      simp only [g48_0, g48_1, g48_3, g48_6, g48_9, g48_10, g48_12, g48_15, g48_18, g48_19, g48_20, g48_23, g48_24, g48_25, g48_26, g48_27, g48_30, g48_33, g48_34, g48_35, g48_36, g48_39, mx_isr_ref, mx_isr_null, mx_wt_nil, mx_wt_1, mx_wt_2, mx_wt_3, Option.bind_some, Option.toList_some, Option.toList_none, List.cons_append, List.nil_append, mx_nl_int, mx_nl_ref, mx_nl_null, mx_nl_none, mx_nb0, mx_nb1, mx_fb0, mx_fb1, mx_cat_int, mx_cat_ref, if_true, if_false, not_true_eq_false, not_false_eq_true, mx_wt_4, mx_w4_0, mx_w9_0, mx_w9_1, mx_kn_int, mx_kn_ref, mx_kn_null, Nat.reduceLT, ofn, n10, f1, A, A2, a1]
theorem rd_3 : RD (d + 19) 3 ts := rd_S (by decide) (rd_S (d := d + 3) (by decide) (rd_S (d := d) (by decide) rd_0))
end
