/-! Filters of the class: what they say. -/
def atW (way : Nat) : Nat := if way < 6 then way - 1 else way
def fvO (ts : List tk) (way : Nat) (op : List Nat) (t : Nat) : Option (Nat × Int × List Nat) := if op = w_pr then none else if way = 3 then some (2, 0, (tx ts t).map sml) else some (pk ts t)
/-- a comparison as it may be read -/
def vC (ts : List tk) (way : Nat) (op : List Nat) (t : Nat) : Prop := 1 ≤ way ∧ way ≤ 7 ∧ (op = w_pr ∨ (vld op (tyO way) = true ∧ sc ts t = tyO way))
/-- what a person, or one item, has for it -/
def owP (p : prs) (way : Nat) : Option (Nat × Int × List Nat) := if way = 3 then nmO ((pnm p).map sml) else oK p (way - 1)
def owI (x : itm) (way : Nat) : Option (Nat × Int × List Nat) := if way = 6 then vT (some x.1) else vB x.2
theorem vld_num {op : List Nat} {ty : Nat} (h : vld op ty = true) (hty : ty ≠ 2) : ¬ (op = w_co ∨ op = w_sw ∨ op = w_ew) := by
  unfold vld at h
  rw [decide_eq_true_eq] at h
  rintro (z | z | z) <;> subst z
  · rcases h with y | y | ⟨y, -⟩ | ⟨-, y⟩
    · exact absurd y (by decide)
    · exact absurd y (by decide)
    · exact absurd y (by decide)
    · exact hty y
  · rcases h with y | y | ⟨y, -⟩ | ⟨-, y⟩
    · exact absurd y (by decide)
    · exact absurd y (by decide)
    · exact absurd y (by decide)
    · exact hty y
  · rcases h with y | y | ⟨y, -⟩ | ⟨-, y⟩
    · exact absurd y (by decide)
    · exact absurd y (by decide)
    · exact absurd y (by decide)
    · exact hty y
theorem vld_bool {op : List Nat} (h : vld op 3 = true) : op = w_eq ∨ op = w_ne := by
  unfold vld at h
  rw [decide_eq_true_eq] at h
  rcases h with y | y | ⟨-, y⟩ | ⟨-, y⟩
  · exact Or.inl y
  · exact Or.inr y
  · omega
  · omega
theorem srC_n (x y : Int) : srC ([], x) ([], y) = cmpI x y := by
  unfold srC
  rw [if_neg (by rw [cmpL_self]; simp)]
theorem srC_t (a b : List Nat) : srC (a, 0) (b, 0) = cmpL a b := by
  unfold srC
  split
  · rfl
  · rename_i h
    have : cmpL a b = 0 := by simpa using h
    rw [this]
    rfl
/-- one comparison: the operator is not ne -/
theorem hOV_N {c : Nat} {op : List Nat} (hop : opsL.getD c [] = op) {k k' : Nat} {x y : Int} {vo : Option (Nat × Int × List Nat)} (hvo : vo = if op = w_pr then none else some (k', y, [])) (hn : op = w_pr ∨ ¬ (op = w_co ∨ op = w_sw ∨ op = w_ew)) : hOV c (some (k, x, [])) vo = hN op x y := by
  unfold hN
  by_cases e : op = w_pr
  · rw [if_pos e] at hvo ⊢
    rw [hvo]; rfl
  · rw [if_neg e] at hvo ⊢
    rw [hvo]
    show hV (opsL.getD c []) (x, []) (y, []) = _
    rw [hop]
    unfold hV
    rw [if_neg (hn.resolve_left e), srC_n]
theorem hOV_T {c : Nat} {op : List Nat} (hop : opsL.getD c [] = op) {k k' : Nat} {a b : List Nat} {vo : Option (Nat × Int × List Nat)} (hvo : vo = if op = w_pr then none else some (k', 0, b)) : hOV c (some (k, 0, a)) vo = hT op a b := by
  unfold hT
  by_cases e : op = w_pr
  · rw [if_pos e] at hvo ⊢
    rw [hvo]; rfl
  · rw [if_neg e] at hvo ⊢
    rw [hvo]
    show hV (opsL.getD c []) (0, a) (0, b) = _
    rw [hop]
    unfold hV
    split
    · rfl
    · rw [srC_t]
theorem hOV_B {c : Nat} {op : List Nat} (hop : opsL.getD c [] = op) {k k' : Nat} {x y : Bool} {vo : Option (Nat × Int × List Nat)} (hvo : vo = if op = w_pr then none else some (k', (if y = true then 1 else 0), [])) (hn : op = w_pr ∨ op = w_eq) : hOV c (some (k, (if x = true then 1 else 0), [])) vo = hB op x y := by
  unfold hB
  by_cases e : op = w_pr
  · rw [if_pos e] at hvo ⊢
    rw [hvo]; rfl
  · rw [if_neg e] at hvo ⊢
    rw [hvo]
    show hV (opsL.getD c []) (_, []) (_, []) = _
    rw [hop, hn.resolve_left e]
    unfold hV
    rw [if_neg (by decide), srC_n]
    cases x <;> cases y <;> decide
theorem pk_ty {ts : List tk} {t : Nat} : (sc ts t = 1 → pk ts t = (1, tv ts t, [])) ∧ (sc ts t = 2 → pk ts t = (2, 0, tx ts t)) ∧ (sc ts t = 3 → pk ts t = (0, if tb ts t = true then 1 else 0, [])) := by
  unfold pk
  refine ⟨fun z => by rw [if_pos z], fun z => by rw [z]; rfl, fun z => by rw [z]; rfl⟩
theorem hA_P {ts : List tk} {p : prs} {i : Option Nat} {way t c : Nat} {op : List Nat} (hop : opsL.getD c [] = op) (hne : op ≠ w_ne) (hv : vC ts way op t) (hw : way < 6) (hn : pnm p ≠ []) : hOV c (owP p way) (fvO ts way op t) = hA ts p i way op t := by
  obtain ⟨h1, h7, hv⟩ := hv
  obtain ⟨k1, k2, k3⟩ := pk_ty (ts := ts) (t := t)
  have hw' : way = 1 ∨ way = 2 ∨ way = 3 ∨ way = 4 ∨ way = 5 := by omega
  unfold hA
  rcases hw' with rfl | rfl | rfl | rfl | rfl
  · rw [if_pos rfl]
    refine hOV_N hop (k := 1) (k' := 1) (x := (p.1 : Int)) (y := tv ts t) ?_ (hv.imp id (fun z => vld_num z.1 (by decide)))
    unfold fvO
    split
    · rfl
    · rename_i e
      rw [if_neg (by decide), k1 (hv.resolve_left e).2]
  · rw [if_neg (by decide), if_pos rfl]
    refine hOV_N hop (k := 1) (k' := 1) (x := (p.2.1 : Int)) (y := tv ts t) ?_ (hv.imp id (fun z => vld_num z.1 (by decide)))
    unfold fvO
    split
    · rfl
    · rename_i e
      rw [if_neg (by decide), k1 (hv.resolve_left e).2]
  · rw [if_neg (by decide), if_neg (by decide), if_pos rfl]
    have e0 : owP p 3 = some (2, 0, (pnm p).map sml) := by
      unfold owP nmO
      rw [if_pos rfl, if_neg (by simpa using hn)]
    rw [e0]
    refine hOV_T hop (k' := 2) ?_
    unfold fvO
    split
    · rfl
    · rw [if_pos rfl]
  · rw [if_neg (by decide), if_neg (by decide), if_neg (by decide), if_pos rfl]
    have e0 : owP p 4 = agO (pag p) := rfl
    rw [e0]
    cases pag p with
    | none => rfl
    | some v =>
      refine hOV_N hop (k := 1) (k' := 1) (x := v) (y := tv ts t) ?_ (hv.imp id (fun z => vld_num z.1 (by decide)))
      unfold fvO
      split
      · rfl
      · rename_i e
        rw [if_neg (by decide), k1 (hv.resolve_left e).2]
  · rw [if_neg (by decide), if_neg (by decide), if_neg (by decide), if_neg (by decide), if_pos rfl]
    have e0 : owP p 5 = vB (pon p) := rfl
    rw [e0]
    cases pon p with
    | none => rfl
    | some v =>
      refine hOV_B hop (k := 0) (k' := 0) (x := v) (y := tb ts t) ?_ (hv.imp id (fun z => (vld_bool z.1).resolve_right hne))
      unfold fvO
      split
      · rfl
      · rename_i e
        rw [if_neg (by decide), k3 (hv.resolve_left e).2]
/-- one item -/
def hAi (ts : List tk) (x : itm) (way : Nat) (op : List Nat) (t : Nat) : Bool := if way = 6 then hT op x.1 (tx ts t) else match x.2 with | none => false | some v => hB op v (tb ts t)
theorem hA_I {ts : List tk} {x : itm} {way t c : Nat} {op : List Nat} (hop : opsL.getD c [] = op) (hne : op ≠ w_ne) (hv : vC ts way op t) (hw : 6 ≤ way) : hOV c (owI x way) (fvO ts way op t) = hAi ts x way op t := by
  obtain ⟨h1, h7, hv⟩ := hv
  obtain ⟨k1, k2, k3⟩ := pk_ty (ts := ts) (t := t)
  have hw' : way = 6 ∨ way = 7 := by omega
  unfold hAi owI
  rcases hw' with rfl | rfl
  · rw [if_pos rfl, if_pos rfl]
    refine hOV_T hop (k := 2) (k' := 2) ?_
    unfold fvO
    split
    · rfl
    · rename_i e
      rw [if_neg (by decide), k2 (hv.resolve_left e).2]
  · rw [if_neg (by decide), if_neg (by decide)]
    cases x.2 with
    | none => rfl
    | some v =>
      refine hOV_B hop (k := 0) (k' := 0) (x := v) (y := tb ts t) ?_ (hv.imp id (fun z => (vld_bool z.1).resolve_right hne))
      unfold fvO
      split
      · rfl
      · rename_i e
        rw [if_neg (by decide), k3 (hv.resolve_left e).2]
theorem hA_it {ts : List tk} {p : prs} {i : Option Nat} {way t : Nat} {op : List Nat} (hw : 6 ≤ way) : hA ts p i way op t = (List.range (pit p).length).any fun j => (i == none || i == some j) && hAi ts (iG (pit p) j) way op t := by
  unfold hA
  rw [if_neg (by omega), if_neg (by omega), if_neg (by omega), if_neg (by omega), if_neg (by omega)]
  rfl
/-- a person, its list, and perhaps one of the items -/
def MPs (M : List Nat) (h : mx_H) (p l A cp : Nat) (es : List Nat) (q : prs) (it : Value) (i : Option Nat) : Prop := PC M h p l q ∧ AL h l A cp es ∧ ITs M h es (pit q) ∧ ((it = .null ∧ i = none) ∨ ∃ k : Nat, k < (pit q).length ∧ it = .ref (es.getD k 0) ∧ i = some k) ∧ pnm q ≠ [] ∧ q.1 < 2 ^ 20 ∧ q.2.1 < 2 ^ 20
section
variable {d : Nat} {h : mx_H} {M : List Nat} {p l A cp : Nat} {es : List Nat} {q : prs} {it : Value} {i : Option Nat}
theorem jh_own (P : MPs M h p l A cp es q it i) {way : Nat} (h1 : 1 ≤ way) (hw : way < 6) : ∃ a, mx_G (d + 1) 184 0 [some (.ref p), some (.int (nI (atW way)))] [] h = some (some a, h) ∧ OV M h a (owP q way) := by
  obtain ⟨C, L, I, -, hn, hb⟩ := P
  have ea : atW way = way - 1 := by unfold atW; rw [if_pos hw]
  rw [ea]
  by_cases c : way = 3
  · subst c
    obtain ⟨tp, lp, p6, ii, v, nn, ff, aa, oo, p0, p1, p2, p3, p4, p5, V1, V2, O2, O3, O4, O5⟩ := PC_f C
    refine ⟨ff, ?_, O3⟩
    have k3 := isr_kn O3.isr
    rw [show nI (3 - 1) = 2 from rfl]
    simp only [g184_0, g184_1, g184_2, g184_5, g184_6, g184_9, g184_12, g184_13, g184_14, g184_17, mx_isr_ref, mx_isr_null, mx_wt_nil, mx_wt_1, mx_wt_2, mx_wt_3, Option.bind_some, Option.toList_some, Option.toList_none, List.cons_append, List.nil_append, mx_nl_int, mx_nl_ref, mx_nl_null, mx_nl_none, mx_nb0, mx_nb1, mx_fb0, mx_fb1, mx_cat_int, mx_cat_ref, if_true, if_false, not_true_eq_false, not_false_eq_true, mx_wt_4, mx_w4_0, mx_w9_0, mx_w9_1, mx_kn_int, mx_kn_ref, mx_kn_null, Nat.reduceLT, ofn, n10, show ¬ (¬ (2 : Int32) = 2) by decide, tp, lp, p3, k3, O3.isr]
  · obtain ⟨a, g, O⟩ := jp_get (d := d) C hb (k := way - 1) (by omega)
    have tp := (PC_f C).1
    refine ⟨a, ?_, by unfold owP; rw [if_neg c]; exact O⟩
    have q2 : ¬ nI (way - 1) = 2 := fun z => by have := (nI_eq (b := 2) (by omega) (by decide)).mp z; omega
    simp only [g184_0, g184_1, g184_2, g184_5, g184_6, g184_9, g184_12, g184_13, g184_14, g184_17, mx_isr_ref, mx_isr_null, mx_wt_nil, mx_wt_1, mx_wt_2, mx_wt_3, Option.bind_some, Option.toList_some, Option.toList_none, List.cons_append, List.nil_append, mx_nl_int, mx_nl_ref, mx_nl_null, mx_nl_none, mx_nb0, mx_nb1, mx_fb0, mx_fb1, mx_cat_int, mx_cat_ref, if_true, if_false, not_true_eq_false, not_false_eq_true, mx_wt_4, mx_w4_0, mx_w9_0, mx_w9_1, mx_kn_int, mx_kn_ref, mx_kn_null, Nat.reduceLT, ofn, n10, q2, tp, g, O.isr]
theorem jh_item {e : Nat} {x : itm} (I : IT M h e x) {way : Nat} (h6 : 6 ≤ way) (h7 : way ≤ 7) : ∃ a, mx_G d 181 0 [some (.ref e), some (.int (nI (atW way)))] [] h = some (some a, h) ∧ OV M h a (owI x way) := by
  obtain ⟨c, g, I⟩ := I
  obtain ⟨a1, a2, t, l, x0, x1, -, -, o1, o2⟩ := IC_f I
  have ea : atW way = way := by unfold atW; rw [if_neg (by omega)]
  rw [ea]
  have hw' : way = 6 ∨ way = 7 := by omega
  have k1 := isr_kn o1.isr
  have k2 := isr_kn o2.isr
  rcases hw' with rfl | rfl
  · refine ⟨a1, ?_, o1⟩
    rw [show nI 6 = 6 from rfl]
    simp only [g181_0, g181_1, g181_3, g181_6, g181_7, g181_10, g181_13, g181_14, g181_17, mx_isr_ref, mx_isr_null, mx_wt_nil, mx_wt_1, mx_wt_2, mx_wt_3, Option.bind_some, Option.toList_some, Option.toList_none, List.cons_append, List.nil_append, mx_nl_int, mx_nl_ref, mx_nl_null, mx_nl_none, mx_nb0, mx_nb1, mx_fb0, mx_fb1, mx_cat_int, mx_cat_ref, if_true, if_false, not_true_eq_false, not_false_eq_true, mx_wt_4, mx_w4_0, mx_w9_0, mx_w9_1, mx_kn_int, mx_kn_ref, mx_kn_null, Nat.reduceLT, ofn, n10, show ¬ (¬ (6 : Int32) = 6) by decide, t, l, x0, k1, o1.isr]
  · refine ⟨a2, ?_, o2⟩
    rw [show nI 7 = 7 from rfl]
    simp only [g181_0, g181_1, g181_3, g181_6, g181_7, g181_10, g181_13, g181_14, g181_17, mx_isr_ref, mx_isr_null, mx_wt_nil, mx_wt_1, mx_wt_2, mx_wt_3, Option.bind_some, Option.toList_some, Option.toList_none, List.cons_append, List.nil_append, mx_nl_int, mx_nl_ref, mx_nl_null, mx_nl_none, mx_nb0, mx_nb1, mx_fb0, mx_fb1, mx_cat_int, mx_cat_ref, if_true, if_false, not_true_eq_false, not_false_eq_true, mx_wt_4, mx_w4_0, mx_w9_0, mx_w9_1, mx_kn_int, mx_kn_ref, mx_kn_null, Nat.reduceLT, ofn, n10, show ¬ (7 : Int32) = 6 by decide, t, l, x1, k2, o2.isr]
theorem ja_isI (way : Nat) (h1 : 1 ≤ way) (h7 : way ≤ 7) : mx_G d 177 0 [some (.int (nI (atW way)))] [] h = some (some (.int (if 6 ≤ way then 1 else 0)), h) := by
  have : way = 1 ∨ way = 2 ∨ way = 3 ∨ way = 4 ∨ way = 5 ∨ way = 6 ∨ way = 7 := by omega
  rcases this with rfl | rfl | rfl | rfl | rfl | rfl | rfl
  · rw [show nI (atW 1) = 0 from rfl]; simp only [g177_0, g177_1, g177_3, g177_6, g177_7, g177_9, g177_12, g177_13, g177_16, g177_17, mx_isr_ref, mx_isr_null, mx_wt_nil, mx_wt_1, mx_wt_2, mx_wt_3, Option.bind_some, Option.toList_some, Option.toList_none, List.cons_append, List.nil_append, mx_nl_int, mx_nl_ref, mx_nl_null, mx_nl_none, mx_nb0, mx_nb1, mx_fb0, mx_fb1, mx_cat_int, mx_cat_ref, if_true, if_false, not_true_eq_false, not_false_eq_true, mx_wt_4, mx_w4_0, mx_w9_0, mx_w9_1, mx_kn_int, mx_kn_ref, mx_kn_null, Nat.reduceLT, ofn, n10, show ¬ (0 : Int32) = 6 by decide, show ¬ (0 : Int32) = 7 by decide, show ¬ 6 ≤ 1 by decide]
  · rw [show nI (atW 2) = 1 from rfl]; simp only [g177_0, g177_1, g177_3, g177_6, g177_7, g177_9, g177_12, g177_13, g177_16, g177_17, mx_isr_ref, mx_isr_null, mx_wt_nil, mx_wt_1, mx_wt_2, mx_wt_3, Option.bind_some, Option.toList_some, Option.toList_none, List.cons_append, List.nil_append, mx_nl_int, mx_nl_ref, mx_nl_null, mx_nl_none, mx_nb0, mx_nb1, mx_fb0, mx_fb1, mx_cat_int, mx_cat_ref, if_true, if_false, not_true_eq_false, not_false_eq_true, mx_wt_4, mx_w4_0, mx_w9_0, mx_w9_1, mx_kn_int, mx_kn_ref, mx_kn_null, Nat.reduceLT, ofn, n10, show ¬ (1 : Int32) = 6 by decide, show ¬ (1 : Int32) = 7 by decide, show ¬ 6 ≤ 2 by decide]
  · rw [show nI (atW 3) = 2 from rfl]; simp only [g177_0, g177_1, g177_3, g177_6, g177_7, g177_9, g177_12, g177_13, g177_16, g177_17, mx_isr_ref, mx_isr_null, mx_wt_nil, mx_wt_1, mx_wt_2, mx_wt_3, Option.bind_some, Option.toList_some, Option.toList_none, List.cons_append, List.nil_append, mx_nl_int, mx_nl_ref, mx_nl_null, mx_nl_none, mx_nb0, mx_nb1, mx_fb0, mx_fb1, mx_cat_int, mx_cat_ref, if_true, if_false, not_true_eq_false, not_false_eq_true, mx_wt_4, mx_w4_0, mx_w9_0, mx_w9_1, mx_kn_int, mx_kn_ref, mx_kn_null, Nat.reduceLT, ofn, n10, show ¬ (2 : Int32) = 6 by decide, show ¬ (2 : Int32) = 7 by decide, show ¬ 6 ≤ 3 by decide]
  · rw [show nI (atW 4) = 3 from rfl]; simp only [g177_0, g177_1, g177_3, g177_6, g177_7, g177_9, g177_12, g177_13, g177_16, g177_17, mx_isr_ref, mx_isr_null, mx_wt_nil, mx_wt_1, mx_wt_2, mx_wt_3, Option.bind_some, Option.toList_some, Option.toList_none, List.cons_append, List.nil_append, mx_nl_int, mx_nl_ref, mx_nl_null, mx_nl_none, mx_nb0, mx_nb1, mx_fb0, mx_fb1, mx_cat_int, mx_cat_ref, if_true, if_false, not_true_eq_false, not_false_eq_true, mx_wt_4, mx_w4_0, mx_w9_0, mx_w9_1, mx_kn_int, mx_kn_ref, mx_kn_null, Nat.reduceLT, ofn, n10, show ¬ (3 : Int32) = 6 by decide, show ¬ (3 : Int32) = 7 by decide, show ¬ 6 ≤ 4 by decide]
  · rw [show nI (atW 5) = 4 from rfl]; simp only [g177_0, g177_1, g177_3, g177_6, g177_7, g177_9, g177_12, g177_13, g177_16, g177_17, mx_isr_ref, mx_isr_null, mx_wt_nil, mx_wt_1, mx_wt_2, mx_wt_3, Option.bind_some, Option.toList_some, Option.toList_none, List.cons_append, List.nil_append, mx_nl_int, mx_nl_ref, mx_nl_null, mx_nl_none, mx_nb0, mx_nb1, mx_fb0, mx_fb1, mx_cat_int, mx_cat_ref, if_true, if_false, not_true_eq_false, not_false_eq_true, mx_wt_4, mx_w4_0, mx_w9_0, mx_w9_1, mx_kn_int, mx_kn_ref, mx_kn_null, Nat.reduceLT, ofn, n10, show ¬ (4 : Int32) = 6 by decide, show ¬ (4 : Int32) = 7 by decide, show ¬ 6 ≤ 5 by decide]
  · rw [show nI (atW 6) = 6 from rfl]; simp only [g177_0, g177_1, g177_3, g177_6, g177_7, g177_9, g177_12, g177_13, g177_16, g177_17, mx_isr_ref, mx_isr_null, mx_wt_nil, mx_wt_1, mx_wt_2, mx_wt_3, Option.bind_some, Option.toList_some, Option.toList_none, List.cons_append, List.nil_append, mx_nl_int, mx_nl_ref, mx_nl_null, mx_nl_none, mx_nb0, mx_nb1, mx_fb0, mx_fb1, mx_cat_int, mx_cat_ref, if_true, if_false, not_true_eq_false, not_false_eq_true, mx_wt_4, mx_w4_0, mx_w9_0, mx_w9_1, mx_kn_int, mx_kn_ref, mx_kn_null, Nat.reduceLT, ofn, n10, show 6 ≤ 6 by decide]
  · rw [show nI (atW 7) = 7 from rfl]; simp only [g177_0, g177_1, g177_3, g177_6, g177_7, g177_9, g177_12, g177_13, g177_16, g177_17, mx_isr_ref, mx_isr_null, mx_wt_nil, mx_wt_1, mx_wt_2, mx_wt_3, Option.bind_some, Option.toList_some, Option.toList_none, List.cons_append, List.nil_append, mx_nl_int, mx_nl_ref, mx_nl_null, mx_nl_none, mx_nb0, mx_nb1, mx_fb0, mx_fb1, mx_cat_int, mx_cat_ref, if_true, if_false, not_true_eq_false, not_false_eq_true, mx_wt_4, mx_w4_0, mx_w9_0, mx_w9_1, mx_kn_int, mx_kn_ref, mx_kn_null, Nat.reduceLT, ofn, n10, show ¬ (7 : Int32) = 6 by decide, show 6 ≤ 7 by decide, show ¬ (¬ (7 : Int32) = 7) by decide]
/-- compares -/
theorem jh_cmpL {ts : List tk} {fl way t c : Nat} {fk fo : Int32} {fv fn : Value} {op : List Nat} (P : MPs M h p l A cp es q it i) (ef : h[fl]? = some (.inl 10, [.int fk, .int (nI (atW way)), .int fo, fv, .null, fn])) (FV : OV M h fv (fvO ts way op t)) (hc : c < 10) (hc2 : c ≠ 2) (hop : opsL.getD c [] = op) (hne : op ≠ w_ne) (hv : vC ts way op t) (h6 : 6 ≤ way) (hpr : c = 0 ↔ fvO ts way op t = none) : ∀ n j, n + j = (pit q).length →
    mx_G (d + 6) 180 45 [some (.ref fl), some (.int (nI c)), some (.ref p), some .null, some (.int (nI j))] [] h = some (some (.int (if ((pit q).drop j).any (fun x => hAi ts x way op t) = true then 1 else 0)), h) := by
  obtain ⟨C, L, I, -, hn, hb⟩ := P
  obtain ⟨tp, lp, p6, -⟩ := PC_f C
  have hr : (pit q).length ≤ 1000 := by have := L.2.2.1; have := L.2.2.2.1; have := I.1; omega
  have sz := jl_size (d := d + 5) L
  rw [I.1] at sz
  have tf : mx_tag h fl = some (.inl 10) := ce_t ef
  have lf : mx_ln h fl = 6 := by rw [ce_n ef]; rfl
  have e1 : mx_el h fl 1 = .int (nI (atW way)) := by rw [ce_e ef]; rfl
  intro n
  induction n with
  | zero =>
    intro j hj
    have : j = (pit q).length := by omega
    subst this
    rw [List.drop_length]
    simp only [g180_45, g180_47, g180_48, g180_51, g180_54, g180_92, g180_93, mx_isr_ref, mx_isr_null, mx_wt_nil, mx_wt_1, mx_wt_2, mx_wt_3, Option.bind_some, Option.toList_some, Option.toList_none, List.cons_append, List.nil_append, mx_nl_int, mx_nl_ref, mx_nl_null, mx_nl_none, mx_nb0, mx_nb1, mx_fb0, mx_fb1, mx_cat_int, mx_cat_ref, if_true, if_false, not_true_eq_false, not_false_eq_true, mx_wt_4, mx_w4_0, mx_w9_0, mx_w9_1, mx_kn_int, mx_kn_ref, mx_kn_null, Nat.reduceLT, ofn, n10, tp, lp, p6, (AL_f L).1, sz, show nI (pit q).length ≤ nI (pit q).length from nI_le (Nat.le_refl _) (by omega)]
    rfl
  | succ n ih =>
    intro j hj
    have hjr : j < (pit q).length := by omega
    have q1 : ¬ nI (pit q).length ≤ nI j := nI_ge hjr (by omega)
    have G1 := jl_get (d := d + 3) L (show j < es.length by rw [I.1]; exact hjr)
    have ij := I.2 j hjr
    have te : mx_tag h (es.getD j 0) = some (.inl 8) := by obtain ⟨c, g, a1, a2, y, -⟩ := ij; exact ce_t y
    obtain ⟨a, g2, O⟩ := jh_item (d := d + 5) ij h6 hv.2.1
    have H := jh_holds (d := d) ef O FV hc hc2 hpr
    rw [hA_I hop hne hv h6] at H
    rw [iG_drop hjr, List.any_cons, g180_45]
    by_cases b : hAi ts (iG (pit q) j) way op t = true
    · rw [if_pos b] at H
      rw [b, Bool.true_or, if_pos rfl]
      simp only [g180_47, g180_48, g180_51, g180_54, g180_57, g180_58, g180_59, g180_60, g180_63, g180_65, g180_68n, g180_68, g180_71, g180_72, g180_75, g180_78, g180_81, g180_84, g180_85, mx_isr_ref, mx_isr_null, mx_wt_nil, mx_wt_1, mx_wt_2, mx_wt_3, Option.bind_some, Option.toList_some, Option.toList_none, List.cons_append, List.nil_append, mx_nl_int, mx_nl_ref, mx_nl_null, mx_nl_none, mx_nb0, mx_nb1, mx_fb0, mx_fb1, mx_cat_int, mx_cat_ref, if_true, if_false, not_true_eq_false, not_false_eq_true, mx_wt_4, mx_w4_0, mx_w9_0, mx_w9_1, mx_kn_int, mx_kn_ref, mx_kn_null, Nat.reduceLT, ofn, n10, tp, lp, p6, (AL_f L).1, sz, q1, G1, te, tf, lf, e1, g2, O.isr, H]
    · rw [if_neg b] at H
      rw [show hAi ts (iG (pit q) j) way op t = false by simpa using b, Bool.false_or]
      simp only [g180_47, g180_48, g180_51, g180_54, g180_57, g180_58, g180_59, g180_60, g180_63, g180_65, g180_68n, g180_68, g180_71, g180_72, g180_75, g180_78, g180_81, g180_84, g180_85, g180_86, g180_89, mx_isr_ref, mx_isr_null, mx_wt_nil, mx_wt_1, mx_wt_2, mx_wt_3, Option.bind_some, Option.toList_some, Option.toList_none, List.cons_append, List.nil_append, mx_nl_int, mx_nl_ref, mx_nl_null, mx_nl_none, mx_nb0, mx_nb1, mx_fb0, mx_fb1, mx_cat_int, mx_cat_ref, if_true, if_false, not_true_eq_false, not_false_eq_true, mx_wt_4, mx_w4_0, mx_w9_0, mx_w9_1, mx_kn_int, mx_kn_ref, mx_kn_null, Nat.reduceLT, ofn, n10, tp, lp, p6, (AL_f L).1, sz, q1, G1, te, tf, lf, e1, g2, O.isr, H, nI_1]
      exact ih (j + 1) (by omega)
theorem any_iG (r : List itm) (f : itm → Bool) : (List.range r.length).any (fun j => f (iG r j)) = r.any f := by
  apply Bool.eq_iff_iff.mpr
  simp only [List.any_eq_true, List.mem_range]
  constructor
  · rintro ⟨j, hj, h⟩; exact ⟨_, iG_mem hj, h⟩
  · rintro ⟨x, hx, h⟩
    obtain ⟨j, hj, e⟩ := List.mem_iff_getElem.mp hx
    refine ⟨j, hj, ?_⟩
    have : iG r j = x := by unfold iG; rw [List.getD_eq_getElem?_getD, List.getElem?_eq_getElem hj]; exact e
    rw [this]; exact h
theorem jh_cmp {ts : List tk} {fl way t c : Nat} {fk fo : Int32} {fv fn : Value} {op : List Nat} (P : MPs M h p l A cp es q it i) (ef : h[fl]? = some (.inl 10, [.int fk, .int (nI (atW way)), .int fo, fv, .null, fn])) (FV : OV M h fv (fvO ts way op t)) (hc : c < 10) (hc2 : c ≠ 2) (hop : opsL.getD c [] = op) (hne : op ≠ w_ne) (hv : vC ts way op t) (hpr : c = 0 ↔ fvO ts way op t = none) (hiw : i ≠ none → 6 ≤ way) :
    mx_G (d + 6) 180 0 [some (.ref fl), some (.int (nI c)), some (.ref p), some it, none] [] h = some (some (.int (if hA ts q i way op t = true then 1 else 0)), h) := by
  have P0 := P
  obtain ⟨C, L, I, hit, hn, hb⟩ := P
  have tp := (PC_f C).1
  have tf : mx_tag h fl = some (.inl 10) := ce_t ef
  have lf : mx_ln h fl = 6 := by rw [ce_n ef]; rfl
  have e1 : mx_el h fl 1 = .int (nI (atW way)) := by rw [ce_e ef]; rfl
  rcases hit with ⟨rfl, rfl⟩ | ⟨k, hk, rfl, rfl⟩
  · have T := ja_isI (d := d + 5) (h := h) way hv.1 hv.2.1
    by_cases h6 : 6 ≤ way
    · rw [if_pos h6] at T
      have Lp := jh_cmpL (d := d) P0 ef FV hc hc2 hop hne hv h6 hpr (pit q).length 0 (by omega)
      rw [List.drop_zero, nI_0] at Lp
      have e2 : hA ts q none way op t = (pit q).any fun x => hAi ts x way op t := by
        rw [hA_it h6, ← any_iG]
        simp
      rw [e2]
      simp only [g180_0, g180_1, g180_1n, g180_18, g180_19, g180_22, g180_25, g180_28, g180_29, g180_30, g180_31, g180_32, g180_35, g180_38, g180_41, g180_42, g180_43, mx_isr_ref, mx_isr_null, mx_wt_nil, mx_wt_1, mx_wt_2, mx_wt_3, Option.bind_some, Option.toList_some, Option.toList_none, List.cons_append, List.nil_append, mx_nl_int, mx_nl_ref, mx_nl_null, mx_nl_none, mx_nb0, mx_nb1, mx_fb0, mx_fb1, mx_cat_int, mx_cat_ref, if_true, if_false, not_true_eq_false, not_false_eq_true, mx_wt_4, mx_w4_0, mx_w9_0, mx_w9_1, mx_kn_int, mx_kn_ref, mx_kn_null, Nat.reduceLT, ofn, n10, tf, lf, e1, T]
      exact Lp
    · rw [if_neg h6] at T
      obtain ⟨a, g, O⟩ := jh_own (d := d + 4) P0 hv.1 (by omega)
      have H := jh_holds (d := d) ef O FV hc hc2 hpr
      rw [hA_P (i := none) hop hne hv (by omega) hn] at H
      simp only [g180_0, g180_1, g180_1n, g180_18, g180_19, g180_22, g180_25, g180_28, g180_29, g180_30, g180_31, g180_32, g180_35, g180_38, g180_41, mx_isr_ref, mx_isr_null, mx_wt_nil, mx_wt_1, mx_wt_2, mx_wt_3, Option.bind_some, Option.toList_some, Option.toList_none, List.cons_append, List.nil_append, mx_nl_int, mx_nl_ref, mx_nl_null, mx_nl_none, mx_nb0, mx_nb1, mx_fb0, mx_fb1, mx_cat_int, mx_cat_ref, if_true, if_false, not_true_eq_false, not_false_eq_true, mx_wt_4, mx_w4_0, mx_w9_0, mx_w9_1, mx_kn_int, mx_kn_ref, mx_kn_null, Nat.reduceLT, ofn, n10, tf, lf, e1, T, tp, g, O.isr, H]
      cases hA ts q none way op t <;> simp only [g180_41, mx_isr_ref, mx_isr_null, mx_wt_nil, mx_wt_1, mx_wt_2, mx_wt_3, Option.bind_some, Option.toList_some, Option.toList_none, List.cons_append, List.nil_append, mx_nl_int, mx_nl_ref, mx_nl_null, mx_nl_none, mx_nb0, mx_nb1, mx_fb0, mx_fb1, mx_cat_int, mx_cat_ref, if_true, if_false, not_true_eq_false, not_false_eq_true, mx_wt_4, mx_w4_0, mx_w9_0, mx_w9_1, mx_kn_int, mx_kn_ref, mx_kn_null, Nat.reduceLT, ofn, n10, Bool.false_eq_true]
  · have h6 := hiw (by simp)
    have ij := I.2 k hk
    have te : mx_tag h (es.getD k 0) = some (.inl 8) := by obtain ⟨c, g, a1, a2, y, -⟩ := ij; exact ce_t y
    obtain ⟨a, g, O⟩ := jh_item (d := d + 5) ij h6 hv.2.1
    have H := jh_holds (d := d) ef O FV hc hc2 hpr
    rw [hA_I hop hne hv h6] at H
    have e2 : hA ts q (some k) way op t = hAi ts (iG (pit q) k) way op t := by
      rw [hA_it h6]
      apply Bool.eq_iff_iff.mpr
      simp only [List.any_eq_true, List.mem_range, Bool.and_eq_true, Bool.or_eq_true, beq_iff_eq]
      constructor
      · rintro ⟨j, -, z, y⟩
        have : k = j := by
          rcases z with z | z
          · cases z
          · exact Option.some.inj z
        rw [this]; exact y
      · intro z; exact ⟨k, hk, Or.inr rfl, z⟩
    rw [e2]
    simp only [g180_0, g180_1, g180_1n, g180_4, g180_5, g180_6, g180_7, g180_8, g180_11, g180_14, g180_17, mx_isr_ref, mx_isr_null, mx_wt_nil, mx_wt_1, mx_wt_2, mx_wt_3, Option.bind_some, Option.toList_some, Option.toList_none, List.cons_append, List.nil_append, mx_nl_int, mx_nl_ref, mx_nl_null, mx_nl_none, mx_nb0, mx_nb1, mx_fb0, mx_fb1, mx_cat_int, mx_cat_ref, if_true, if_false, not_true_eq_false, not_false_eq_true, mx_wt_4, mx_w4_0, mx_w9_0, mx_w9_1, mx_kn_int, mx_kn_ref, mx_kn_null, Nat.reduceLT, ofn, n10, te, tf, lf, e1, g, O.isr, H]
    cases hAi ts (iG (pit q) k) way op t <;> simp only [g180_17, mx_isr_ref, mx_isr_null, mx_wt_nil, mx_wt_1, mx_wt_2, mx_wt_3, Option.bind_some, Option.toList_some, Option.toList_none, List.cons_append, List.nil_append, mx_nl_int, mx_nl_ref, mx_nl_null, mx_nl_none, mx_nb0, mx_nb1, mx_fb0, mx_fb1, mx_cat_int, mx_cat_ref, if_true, if_false, not_true_eq_false, not_false_eq_true, mx_wt_4, mx_w4_0, mx_w9_0, mx_w9_1, mx_kn_int, mx_kn_ref, mx_kn_null, Nat.reduceLT, ofn, n10, Bool.false_eq_true]
end
