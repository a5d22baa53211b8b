section
variable {d : Nat} {h : mx_H} {ts : List tk}
theorem oI_inj {v w : Int} (h1 : -1000000000 < v ∧ v < 1000000000) (h2 : -1000000000 < w ∧ w < 1000000000) (e : Int32.ofInt v = Int32.ofInt w) : v = w := by
  have := congrArg Int32.toInt e
  rw [Int32.toInt_ofInt_of_le (by omega) (by omega), Int32.toInt_ofInt_of_le (by omega) (by omega)] at this
  exact this
theorem pB_inj {a b : Option Bool} (e : nI (pB a) = nI (pB b)) : a = b := by
  have : ∀ o, pB o < 3 := fun o => by cases o with | none => decide | some b => cases b <;> decide
  have e := (nI_eq (by have := this a; omega) (by have := this b; omega)).mp e
  cases a with
  | none => cases b with | none => rfl | some b => cases b <;> cases e
  | some a => cases b with | none => cases a <;> cases e | some b => cases a <;> cases b <;> first | rfl | cases e
theorem pe_txt {p : prs} {o : Nat} (h1 : 2 ≤ o) (h2 : o < 15) : pe p o = te (pnm p) (o - 2) := by
  unfold pe
  rw [if_neg (by omega), if_neg (by omega), if_pos h2]
theorem iG_ext {l r : List itm} (hl : l.length = r.length) (he : ∀ k, k < l.length → iG l k = iG r k) : l = r := by
  apply List.ext_getElem?
  intro j
  by_cases c : j < l.length
  · have := he j c
    unfold iG at this
    rw [List.getD_eq_getElem?_getD, List.getD_eq_getElem?_getD, List.getElem?_eq_getElem c, List.getElem?_eq_getElem (by omega)] at this
    rw [List.getElem?_eq_getElem c, List.getElem?_eq_getElem (by omega)]
    exact congrArg some this
  · rw [List.getElem?_eq_none (by omega), List.getElem?_eq_none (by omega)]
theorem rc_same {k : Nat} {old p : prs} (R : rcP h k old) (Q : rcP h 8 p) (wo : wfP old) (wp : wfP p) (e0 : p.1 = old.1) (e1 : p.2.1 = old.2.1) :
    (∀ j, j < 20 + 14 * (pit p).length → mi h 77 (80 * k + j) = mi h 77 (80 * 8 + j)) ↔ (pnm p = pnm old ∧ pag p = pag old ∧ pon p = pon old ∧ pit p = pit old) := by
  constructor
  · intro hj
    have hH : ∀ o, o < 20 → pe old o = pe p o := fun o ho => by rw [← R.1 o ho, ← Q.1 o ho]; exact hj o (by omega)
    have hn : pnm p = pnm old := by
      refine (te_inj wo.1 wp.1 fun j hj => ?_).symm
      have := hH (j + 2) (by omega)
      rw [pe_txt (by omega) (by omega), pe_txt (by omega) (by omega), Nat.add_sub_cancel] at this
      exact this
    have hlen : (pit p).length = (pit old).length := by
      have := hH 19 (by decide)
      exact ((nI_eq (by have := wo.2.2.1; omega) (by have := wp.2.2.1; omega)).mp this).symm
    have h15 : (if (pag old).isSome = true then (1 : Int32) else 0) = if (pag p).isSome = true then 1 else 0 := hH 15 (by decide)
    have h16 : (match pag old with | none => (0 : Int32) | some v => Int32.ofInt v) = match pag p with | none => 0 | some v => Int32.ofInt v := hH 16 (by decide)
    have h18 : nI (pB (pon old)) = nI (pB (pon p)) := hH 18 (by decide)
    have ha : pag p = pag old := by
      cases za : pag old with
      | none =>
        cases zb : pag p with
        | none => rfl
        | some w => rw [za, zb] at h15; exact absurd (show (0 : Int32) = 1 from h15) (by decide)
      | some v =>
        cases zb : pag p with
        | none => rw [za, zb] at h15; exact absurd (show (1 : Int32) = 0 from h15) (by decide)
        | some w =>
          rw [za, zb] at h16
          rw [oI_inj (wo.2.1 v za) (wp.2.1 w zb) h16]
    refine ⟨hn, ha, (pB_inj h18).symm, iG_ext hlen fun i hi => ?_⟩
    have hie : ∀ j, j < 14 → ie (iG (pit old) i) j = ie (iG (pit p) i) j := by
      intro j hj'
      rw [← R.2 i (by omega) j hj', ← Q.2 i hi j hj']
      have := hj (20 + 14 * i + j) (by omega)
      rw [show 80 * k + 20 + 14 * i + j = 80 * k + (20 + 14 * i + j) by omega, show 80 * 8 + 20 + 14 * i + j = 80 * 8 + (20 + 14 * i + j) by omega]
      exact this
    have t1 : (iG (pit p) i).1 = (iG (pit old) i).1 := by
      refine (te_inj (wo.2.2.2.1 _ (iG_mem (by omega))) (wp.2.2.2.1 _ (iG_mem hi)) fun j hj => ?_).symm
      have := hie j (by omega)
      unfold ie at this
      rw [if_pos hj, if_pos hj] at this
      exact this
    have t2 : (iG (pit p) i).2 = (iG (pit old) i).2 := (pB_inj (hie 13 (by decide))).symm
    exact Prod.ext t1 t2
  · rintro ⟨hn, ha, ho, hi⟩ j hj
    have ep : p = old := by
      obtain ⟨a1, a2, a3, a4, a5, a6⟩ := p
      obtain ⟨b1, b2, b3, b4, b5, b6⟩ := old
      simp only [pnm, pag, pon, pit] at hn ha ho hi e0 e1
      subst e0 e1 hn ha ho hi
      rfl
    subst ep
    by_cases c : j < 20
    · rw [R.1 j c, Q.1 j c]
    · have : ∃ i jj, i < (pit p).length ∧ jj < 14 ∧ j = 20 + 14 * i + jj := ⟨(j - 20) / 14, (j - 20) % 14, by omega, by omega, by omega⟩
      obtain ⟨i, jj, h1, h2, e⟩ := this
      have a := R.2 i h1 jj h2
      have b := Q.2 i h1 jj h2
      rw [e, show 80 * k + (20 + 14 * i + jj) = 80 * k + 20 + 14 * i + jj by omega, show 80 * 8 + (20 + 14 * i + jj) = 80 * 8 + 20 + 14 * i + jj by omega, a, b]
theorem rm_unused (T : mr_T h) {n i : Nat} (h19 : mi h 77 659 = nI n) (hn : n ≤ 4) (hi : i ≤ 80) : mx_G (d + 1) 284 0 [some (.ref 76), some (.int (nI i))] [] h = some (some (.int (if 20 + 14 * n ≤ i then 1 else 0)), h) := by
  have f := rm_f (d := d) T (s := 8) (o := 19) (by decide)
  rw [show nI 8 = 8 from rfl, show nI 19 = 19 from rfl, show 80 * 8 + 19 = 659 from rfl, h19] at f
  have im := rm_item (d := d) (h := h) (k := n)
  by_cases c : 20 + 14 * n ≤ i
  · have e1 : ¬ nI i < 20 := nI_nlt (b := 20) (by omega) (by omega)
    have e2 : ¬ nI i < nI (20 + 14 * n) := nI_nlt c (by omega)
    simp only [r284_0, r284_1, r284_3, r284_6, r284_7, r284_8, r284_9, r284_11, r284_13, r284_16, r284_19, r284_22, r284_23, r284_26, r284_27, mx_isr_ref, mx_isr_null, mx_wt_nil, mx_wt_1, mx_wt_2, mx_wt_3, Option.bind_some, Option.toList_some, Option.toList_none, List.cons_append, List.nil_append, mx_nl_int, mx_nl_ref, mx_nl_null, mx_nl_none, mx_nb0, mx_nb1, mx_fb0, mx_fb1, mx_cat_int, mx_cat_ref, if_true, if_false, not_true_eq_false, not_false_eq_true, T, f, im, e1, e2, c]
  · by_cases c2 : i < 20
    · have e1 : nI i < 20 := nI_lt (b := 20) c2 (by decide)
      simp only [r284_0, r284_1, r284_3, r284_6, r284_7, r284_8, r284_9, r284_11, r284_13, r284_16, r284_19, r284_22, r284_23, r284_26, r284_27, mx_isr_ref, mx_isr_null, mx_wt_nil, mx_wt_1, mx_wt_2, mx_wt_3, Option.bind_some, Option.toList_some, Option.toList_none, List.cons_append, List.nil_append, mx_nl_int, mx_nl_ref, mx_nl_null, mx_nl_none, mx_nb0, mx_nb1, mx_fb0, mx_fb1, mx_cat_int, mx_cat_ref, if_true, if_false, not_true_eq_false, not_false_eq_true, e1, c]
    · have e1 : ¬ nI i < 20 := nI_nlt (b := 20) (by omega) (by omega)
      have e2 : nI i < nI (20 + 14 * n) := nI_lt (by omega) (by omega)
      simp only [r284_0, r284_1, r284_3, r284_6, r284_7, r284_8, r284_9, r284_11, r284_13, r284_16, r284_19, r284_22, r284_23, r284_26, r284_27, mx_isr_ref, mx_isr_null, mx_wt_nil, mx_wt_1, mx_wt_2, mx_wt_3, Option.bind_some, Option.toList_some, Option.toList_none, List.cons_append, List.nil_append, mx_nl_int, mx_nl_ref, mx_nl_null, mx_nl_none, mx_nb0, mx_nb1, mx_fb0, mx_fb1, mx_cat_int, mx_cat_ref, if_true, if_false, not_true_eq_false, not_false_eq_true, T, f, im, e1, e2, c]
theorem rm_fn0 {s : Int32} : ∀ n k, k + n = 80 → mx_G (d + 2) 283 15 [some (.ref 76), some (.int s), some (.int 0), some (.int (nI k))] [] h = mx_G (d + 2) 283 61 [some (.ref 76), some (.int s), some (.int 0), some (.int (nI 80))] [] h := by
  intro n
  induction n with
  | zero =>
    intro k hk
    have : k = 80 := by omega
    subst this
    simp only [r283_15, r283_16, r283_18, mx_isr_ref, mx_isr_null, mx_wt_nil, mx_wt_1, mx_wt_2, mx_wt_3, Option.bind_some, Option.toList_some, Option.toList_none, List.cons_append, List.nil_append, mx_nl_int, mx_nl_ref, mx_nl_null, mx_nl_none, mx_nb0, mx_nb1, mx_fb0, mx_fb1, mx_cat_int, mx_cat_ref, if_true, if_false, not_true_eq_false, not_false_eq_true, show (80 : Int32) ≤ nI 80 by decide]
  | succ n ih =>
    intro k hk
    have e1 : ¬ (80 : Int32) ≤ nI k := nI_ge (b := 80) (by omega) (by decide)
    rw [← ih (k + 1) (by omega), r283_15]
    simp only [r283_16, r283_18, r283_21, r283_22, r283_53, r283_54, r283_55, r283_58, mx_isr_ref, mx_isr_null, mx_wt_nil, mx_wt_1, mx_wt_2, mx_wt_3, Option.bind_some, Option.toList_some, Option.toList_none, List.cons_append, List.nil_append, mx_nl_int, mx_nl_ref, mx_nl_null, mx_nl_none, mx_nb0, mx_nb1, mx_fb0, mx_fb1, mx_cat_int, mx_cat_ref, if_true, if_false, not_true_eq_false, not_false_eq_true, e1, nI_1]
theorem rm_fn1 (T : mr_T h) {s m : Nat} (hs : s < 8) (h19 : mi h 77 659 = nI m) (hm : m ≤ 4) : ∀ n k, k + n = 80 →
    ((∀ j, k ≤ j → j < 20 + 14 * m → mi h 77 (80 * s + j) = mi h 77 (80 * 8 + j)) → mx_G (d + 2) 283 15 [some (.ref 76), some (.int (nI s)), some (.int 1), some (.int (nI k))] [] h = mx_G (d + 2) 283 61 [some (.ref 76), some (.int (nI s)), some (.int 1), some (.int (nI 80))] [] h) ∧
    (¬ (∀ j, k ≤ j → j < 20 + 14 * m → mi h 77 (80 * s + j) = mi h 77 (80 * 8 + j)) → mx_G (d + 2) 283 15 [some (.ref 76), some (.int (nI s)), some (.int 1), some (.int (nI k))] [] h = mx_G (d + 2) 283 61 [some (.ref 76), some (.int (nI s)), some (.int 0), some (.int (nI 80))] [] h) := by
  intro n
  induction n with
  | zero =>
    intro k hk
    have : k = 80 := by omega
    subst this
    refine ⟨fun _ => ?_, fun z => absurd (fun j h1 h2 => by omega) z⟩
    simp only [r283_15, r283_16, r283_18, mx_isr_ref, mx_isr_null, mx_wt_nil, mx_wt_1, mx_wt_2, mx_wt_3, Option.bind_some, Option.toList_some, Option.toList_none, List.cons_append, List.nil_append, mx_nl_int, mx_nl_ref, mx_nl_null, mx_nl_none, mx_nb0, mx_nb1, mx_fb0, mx_fb1, mx_cat_int, mx_cat_ref, if_true, if_false, not_true_eq_false, not_false_eq_true, show (80 : Int32) ≤ nI 80 by decide]
  | succ n ih =>
    intro k hk
    have e1 : ¬ (80 : Int32) ≤ nI k := nI_ge (b := 80) (by omega) (by decide)
    have un := rm_unused (d := d) T h19 hm (i := k) (by omega)
    have fa := rm_f (d := d + 1) T (s := s) (o := k) (by omega)
    have fb := rm_f (d := d + 1) T (s := 8) (o := k) (by omega)
    rw [show nI 8 = 8 from rfl] at fb
    have step : (k < 20 + 14 * m → mi h 77 (80 * s + k) = mi h 77 (80 * 8 + k)) → mx_G (d + 2) 283 15 [some (.ref 76), some (.int (nI s)), some (.int 1), some (.int (nI k))] [] h = mx_G (d + 2) 283 15 [some (.ref 76), some (.int (nI s)), some (.int 1), some (.int (nI (k + 1)))] [] h := by
      intro he
      by_cases c : 20 + 14 * m ≤ k
      · rw [r283_15]
        simp only [r283_16, r283_18, r283_21, r283_22, r283_25, r283_26, r283_27, r283_30, r283_33, r283_34, r283_35, r283_36, r283_39, r283_40, r283_42, r283_43, r283_46, r283_49, r283_50, r283_53, r283_54, r283_55, r283_58, mx_isr_ref, mx_isr_null, mx_wt_nil, mx_wt_1, mx_wt_2, mx_wt_3, Option.bind_some, Option.toList_some, Option.toList_none, List.cons_append, List.nil_append, mx_nl_int, mx_nl_ref, mx_nl_null, mx_nl_none, mx_nb0, mx_nb1, mx_fb0, mx_fb1, mx_cat_int, mx_cat_ref, if_true, if_false, not_true_eq_false, not_false_eq_true, T, e1, un, c, nI_1, show ¬ (1 : Int32) = 0 by decide]
      · rw [r283_15]
        simp only [r283_16, r283_18, r283_21, r283_22, r283_25, r283_26, r283_27, r283_30, r283_33, r283_34, r283_35, r283_36, r283_39, r283_40, r283_42, r283_43, r283_46, r283_49, r283_50, r283_53, r283_54, r283_55, r283_58, mx_isr_ref, mx_isr_null, mx_wt_nil, mx_wt_1, mx_wt_2, mx_wt_3, Option.bind_some, Option.toList_some, Option.toList_none, List.cons_append, List.nil_append, mx_nl_int, mx_nl_ref, mx_nl_null, mx_nl_none, mx_nb0, mx_nb1, mx_fb0, mx_fb1, mx_cat_int, mx_cat_ref, if_true, if_false, not_true_eq_false, not_false_eq_true, T, e1, un, c, fa, fb, he (by omega), nI_1, show ¬ (1 : Int32) = 0 by decide]
    by_cases he : k < 20 + 14 * m → mi h 77 (80 * s + k) = mi h 77 (80 * 8 + k)
    · rw [step he]
      obtain ⟨i1, i2⟩ := ih (k + 1) (by omega)
      refine ⟨fun z => i1 fun j h1 h2 => z j (by omega) h2, fun z => i2 fun y => z fun j h1 h2 => ?_⟩
      by_cases c : j = k
      · rw [c]; exact he (by omega)
      · exact y j (by omega) h2
    · have ck : k < 20 + 14 * m := by
        rcases Nat.lt_or_ge k (20 + 14 * m) with c | c
        · exact c
        · exact absurd (fun z => by omega) he
      have hne : ¬ mi h 77 (80 * s + k) = mi h 77 (80 * 8 + k) := fun z => he fun _ => z
      refine ⟨fun z => absurd (z k (Nat.le_refl _) ck) hne, fun _ => ?_⟩
      rw [← rm_fn0 n (k + 1) (by omega), r283_15]
      simp only [r283_16, r283_18, r283_21, r283_22, r283_25, r283_26, r283_27, r283_30, r283_33, r283_34, r283_35, r283_36, r283_39, r283_40, r283_42, r283_43, r283_46, r283_49, r283_50, r283_53, r283_54, r283_55, r283_58, mx_isr_ref, mx_isr_null, mx_wt_nil, mx_wt_1, mx_wt_2, mx_wt_3, Option.bind_some, Option.toList_some, Option.toList_none, List.cons_append, List.nil_append, mx_nl_int, mx_nl_ref, mx_nl_null, mx_nl_none, mx_nb0, mx_nb1, mx_fb0, mx_fb1, mx_cat_int, mx_cat_ref, if_true, if_false, not_true_eq_false, not_false_eq_true, T, e1, un, show ¬ 20 + 14 * m ≤ k by omega, fa, fb, hne, nI_1, show ¬ (1 : Int32) = 0 by decide]
theorem rm_finish {sl : slt} {s : sto} (M : mSt h sl s) {k : Nat} {old p : prs} (hk : k < 8) (zk : sl.getD k none = some old) (R : rcP h 8 p) (wp : wfP p) (e0 : p.1 = old.1) (e1 : p.2.1 = old.2.1) (hv : old.2.1 + 1 < 2 ^ 20) :
    ∃ h' sl', mx_G (d + 2) 283 0 [some (.ref 76), some (.int (nI k)), none, none] [] h = some (some (.int (Int32.ofInt (s_set s old p).1)), h') ∧ mSt h' sl' (s_set s old p).2 := by
  have T := M.1
  have H := M.2.1
  have E := M.2.2.1
  have Ek := E k hk
  rw [zk] at Ek
  have zk' := sl_of H hk zk
  have N : nmW h (pnm p) p.1 := nmW_of R wp.1 (by rw [e0]; exact Ek.2.2.2.1)
  have tk := rm_taken (d := d) T H E N (p := p) (fun _ _ => Iff.rfl)
  have h19 : mi h 77 659 = nI (pit p).length := R.1 19 (by decide)
  have h4 := wp.2.2.1
  unfold s_set
  by_cases ct : tkn s.1 p = true
  · rw [ct] at tk
    rw [if_pos ct]
    refine ⟨h, sl, ?_, M⟩
    simp only [r283_0, r283_1, r283_4, r283_7, r283_10, mx_isr_ref, mx_isr_null, mx_wt_nil, mx_wt_1, mx_wt_2, mx_wt_3, Option.bind_some, Option.toList_some, Option.toList_none, List.cons_append, List.nil_append, mx_nl_int, mx_nl_ref, mx_nl_null, mx_nl_none, mx_nb0, mx_nb1, mx_fb0, mx_fb1, mx_cat_int, mx_cat_ref, if_true, if_false, not_true_eq_false, not_false_eq_true, T, tk, show ¬ (1 : Int32) = 0 by decide]
    rfl
  · rw [Bool.eq_false_iff.2 ct] at tk
    rw [if_neg ct]
    have L := rm_fn1 (d := d) T hk h19 h4 80 0 rfl
    have st : mx_G (d + 2) 283 0 [some (.ref 76), some (.int (nI k)), none, none] [] h = mx_G (d + 2) 283 15 [some (.ref 76), some (.int (nI k)), some (.int 1), some (.int (nI 0))] [] h := by
      simp only [r283_0, r283_1, r283_4, r283_7, r283_10, r283_11, r283_12, r283_13, r283_14, mx_isr_ref, mx_isr_null, mx_wt_nil, mx_wt_1, mx_wt_2, mx_wt_3, Option.bind_some, Option.toList_some, Option.toList_none, List.cons_append, List.nil_append, mx_nl_int, mx_nl_ref, mx_nl_null, mx_nl_none, mx_nb0, mx_nb1, mx_fb0, mx_fb1, mx_cat_int, mx_cat_ref, if_true, if_false, not_true_eq_false, not_false_eq_true, T, tk, Bool.false_eq_true]
      rfl
    have key := rc_same Ek.1 R Ek.2.1 wp e0 e1
    have pg := M.2.2.2.2
    by_cases cs : pnm p = pnm old ∧ pag p = pag old ∧ pon p = pon old ∧ pit p = pit old
    · rw [if_pos cs]
      have L := L.1 fun j _ hj => key.2 cs j hj
      obtain ⟨h2, r2, m2, g2⟩ := rm_copy (d := d) T (a := 8) (b := k) (by decide) (by omega) (by omega)
      have T2 := m2.1
      rw [show nI 8 = 8 from rfl] at r2
      have R2 : rcP h2 k p := rc_copy R h4 fun o ho => by
        rw [g2, if_pos (by omega)]
        congr 1
        omega
      have ep : p = old := by
        obtain ⟨c1, c2, c3, c4⟩ := cs
        obtain ⟨a1, a2, a3, a4, a5, a6⟩ := p
        obtain ⟨b1, b2, b3, b4, b5, b6⟩ := old
        simp only [pnm, pag, pon, pit] at c1 c2 c3 c4 e0 e1
        subst e0 e1 c1 c2 c3 c4
        rfl
      have f1 := rm_f (d := d + 1) T2 (s := k) (o := 1) (by omega)
      rw [R2.1 1 (by decide), show nI 1 = 1 from rfl, show pe p 1 = nI p.2.1 from rfl, e1] at f1
      refine ⟨h2, sl, ?_, T2, H, fun j hj => ?_, ⟨?_, M.2.2.2.1.2⟩, ?_, pg.2.1, fun j hj => ?_⟩
      · rw [st, L]
        simp only [r283_61, r283_62, r283_65, r283_66, r283_68, r283_69, r283_70, r283_72, r283_73, r283_76, r283_77, r283_78, r283_81, r283_82, r283_84, r283_85, r283_88, r283_89, r283_90, r283_91, r283_94, mx_isr_ref, mx_isr_null, mx_wt_nil, mx_wt_1, mx_wt_2, mx_wt_3, Option.bind_some, Option.toList_some, Option.toList_none, List.cons_append, List.nil_append, mx_nl_int, mx_nl_ref, mx_nl_null, mx_nl_none, mx_nb0, mx_nb1, mx_fb0, mx_fb1, mx_cat_int, mx_cat_ref, if_true, if_false, not_true_eq_false, not_false_eq_true, T, T2, r2, f1, show ¬ (1 : Int32) = 0 by decide]
        rw [oI_nat]
      · by_cases c : j = k
        · rw [c, zk]
          exact ⟨ep ▸ R2, Ek.2⟩
        · exact slE_keep (E j hj) fun x h1 h2 => by rw [g2, if_neg (by omega)]
      · rw [m2.2.1 76 1 rfl]; exact M.2.2.2.1.1
      · rw [m2.2.1 76 34 rfl]; exact pg.1
      · rw [m2.2.1 100 j rfl]; exact pg.2.2 j hj
    · rw [if_neg cs]
      have L := L.2 fun y => cs (key.1 fun j hj => y j (Nat.zero_le _) hj)
      have f0 := rm_f (d := d + 1) T (s := 8) (o := 1) (by decide)
      rw [R.1 1 (by decide), show nI 8 = 8 from rfl, show nI 1 = 1 from rfl, show pe p 1 = nI p.2.1 from rfl, e1] at f0
      have s1 := rm_set (d := d + 1) T (s := 8) (o := 1) (v := nI (old.2.1 + 1)) (by decide)
      rw [show nI 8 = 8 from rfl, show nI 1 = 1 from rfl, show 80 * 8 + 1 = 641 from rfl] at s1
      have m1 : mf P77 h (mx_up h 77 641 (.int (nI (old.2.1 + 1)))) := mf_up (mf_rfl T) (by decide) (P77_t (by decide))
      have T1 := m1.1
      have R1 : rcP (mx_up h 77 641 (.int (nI (old.2.1 + 1)))) 8 (sVr p (old.2.1 + 1)) := by
        have := rc_id (i := p.1) (v := old.2.1 + 1) (h' := mx_up h 77 641 (.int (nI (old.2.1 + 1)))) R h4 (by rw [mi_r T (by decide), if_neg (by decide)]; exact R.1 0 (by decide)) (by rw [mi_r T (by decide), if_pos rfl]) (fun j h1 h2 => by rw [mi_r T (by decide), if_neg (by omega)])
        exact this
      obtain ⟨h2, r2, m2, g2⟩ := rm_copy (d := d) T1 (a := 8) (b := k) (by decide) (by omega) (by omega)
      have T2 := m2.1
      rw [show nI 8 = 8 from rfl] at r2
      have R2 : rcP h2 k (sVr p (old.2.1 + 1)) := rc_copy R1 h4 fun o ho => by
        rw [g2, if_pos (by omega)]
        congr 1
        omega
      have f1 := rm_f (d := d + 1) T2 (s := k) (o := 1) (by omega)
      rw [R2.1 1 (by decide), show nI 1 = 1 from rfl, show pe (sVr p (old.2.1 + 1)) 1 = nI (old.2.1 + 1) from rfl] at f1
      refine ⟨h2, sl.set k (some (sVr p (old.2.1 + 1))), ?_, T2, hld_upd H zk' e0, fun j hj => ?_, ⟨?_, M.2.2.2.1.2.1, ?_⟩, ?_, pg.2.1, fun j hj => ?_⟩
      · rw [st, L]
        simp only [r283_61, r283_62, r283_65, r283_66, r283_68, r283_69, r283_70, r283_72, r283_73, r283_76, r283_77, r283_78, r283_81, r283_82, r283_84, r283_85, r283_88, r283_89, r283_90, r283_91, r283_94, mx_isr_ref, mx_isr_null, mx_wt_nil, mx_wt_1, mx_wt_2, mx_wt_3, Option.bind_some, Option.toList_some, Option.toList_none, List.cons_append, List.nil_append, mx_nl_int, mx_nl_ref, mx_nl_null, mx_nl_none, mx_nb0, mx_nb1, mx_fb0, mx_fb1, mx_cat_int, mx_cat_ref, if_true, if_false, not_true_eq_false, not_false_eq_true, T, T1, T2, f0, nI_1, s1, r2, f1]
        rw [oI_nat]
      · rw [getD_set H.1 hk]
        by_cases c : j = k
        · rw [if_pos c, c]
          exact ⟨R2, wp, by rw [show (sVr p (old.2.1 + 1)).1 = p.1 from rfl, e0]; exact Ek.2.2.1, by rw [show (sVr p (old.2.1 + 1)).1 = p.1 from rfl, e0]; exact Ek.2.2.2.1, hv⟩
        · rw [if_neg c]
          exact slE_keep (E j hj) fun x h1 h2 => by rw [g2, if_neg (by omega), mi_r T (by decide), if_neg (by omega)]
      · rw [m2.2.1 76 1 rfl, m1.2.1 76 1 rfl]; exact M.2.2.2.1.1
      · intro x hx
        have : x.1 ∈ ids (pSet s.1 (sVr p (old.2.1 + 1))) := List.mem_map.2 ⟨x, hx, rfl⟩
        rw [pSet_ids] at this
        obtain ⟨y, hy, e⟩ := List.mem_map.1 this
        have := M.2.2.2.1.2.2 y hy
        show x.1 ≤ s.2.1
        omega
      · rw [m2.2.1 76 34 rfl, m1.2.1 76 34 rfl]; exact pg.1
      · rw [m2.2.1 100 j rfl, m1.2.1 100 j rfl]; exact pg.2.2 j hj
end
