/-! applyToTarget, applyTo. -/
def atE (way : Nat) : Int32 := if way = 0 then -1 else if way < 6 then nI (way - 1) else nI (5 + (way - 6) % 3)
def OFv (M : List Nat) (h : mx_H) (way : Nat) (fv : Value) (g : prs → Option Nat → Bool) : Prop := if way < 9 then fv = .null else ∃ (f : Nat) (cs : List Value), fv = .ref f ∧ h[f]? = some (.inl 10, cs ++ [.null]) ∧ fz M f ∧ Mt 24 true M h f cs g
theorem OFv.ex {M M' : List Nat} {h h' : mx_H} {way : Nat} {fv : Value} {g : prs → Option Nat → Bool} (F : OFv M h way fv g) (x : Ex M h M' h') : OFv M' h' way fv g := by
  unfold OFv at *
  split
  · rename_i c; rw [if_pos c] at F; exact F
  · rename_i c
    rw [if_neg c] at F
    obtain ⟨f, cs, e1, e2, e3, e4⟩ := F
    exact ⟨f, cs, e1, (x.at e2 e3).1, (x.at e2 e3).2, e4.ex x⟩
theorem OFv.fvi {M : List Nat} {h : mx_H} {way : Nat} {fv : Value} {g : prs → Option Nat → Bool} (F : OFv M h way fv g) : FVi M h fv (if way < 9 then fun _ _ => true else g) := by
  unfold OFv at F
  by_cases c : way < 9
  · rw [if_pos c] at F ⊢; exact Or.inl ⟨F, fun _ _ => rfl⟩
  · rw [if_neg c] at F ⊢; exact Or.inr F
section
variable {d : Nat} {h : mx_H} {R : List Nat} {N p l A cp : Nat} {es : List Nat} {q : prs} {m : List itf} {b : List Bool}
theorem ja_isIt (k : Int32) (hk : k = 6 ∨ k = 7) : mx_G d 177 0 [some (.int k)] [] h = some (some (.int 1), h) := by
  rcases hk with rfl | rfl
  · simp only [g177_0, g177_1, g177_3, g177_6, g177_7, g177_9, g177_12, g177_13, g177_16, g177_17, mx_isr_ref, mx_isr_null, mx_wt_nil, mx_wt_1, mx_wt_2, mx_wt_3, Option.bind_some, Option.toList_some, Option.toList_none, List.cons_append, List.nil_append, mx_nl_int, mx_nl_ref, mx_nl_null, mx_nl_none, mx_nb0, mx_nb1, mx_fb0, mx_fb1, mx_cat_int, mx_cat_ref, if_true, if_false, not_true_eq_false, not_false_eq_true, mx_wt_4, mx_w4_0, mx_w9_0, mx_w9_1, mx_kn_int, mx_kn_ref, mx_kn_null, Nat.reduceLT, ofn, n10]
  · simp only [g177_0, g177_1, g177_3, g177_6, g177_7, g177_9, g177_12, g177_13, g177_16, g177_17, mx_isr_ref, mx_isr_null, mx_wt_nil, mx_wt_1, mx_wt_2, mx_wt_3, Option.bind_some, Option.toList_some, Option.toList_none, List.cons_append, List.nil_append, mx_nl_int, mx_nl_ref, mx_nl_null, mx_nl_none, mx_nb0, mx_nb1, mx_fb0, mx_fb1, mx_cat_int, mx_cat_ref, if_true, if_false, not_true_eq_false, not_false_eq_true, mx_wt_4, mx_w4_0, mx_w9_0, mx_w9_1, mx_kn_int, mx_kn_ref, mx_kn_null, Nat.reduceLT, ofn, n10, show ¬ (7 : Int32) = 6 by decide, show ¬ ¬ (7 : Int32) = 7 by decide]
theorem ja_isIf (k : Int32) (h6 : ¬ k = 6) (h7 : ¬ k = 7) : mx_G d 177 0 [some (.int k)] [] h = some (some (.int 0), h) := by
  simp only [g177_0, g177_1, g177_3, g177_6, g177_7, g177_9, g177_12, g177_13, g177_16, g177_17, mx_isr_ref, mx_isr_null, mx_wt_nil, mx_wt_1, mx_wt_2, mx_wt_3, Option.bind_some, Option.toList_some, Option.toList_none, List.cons_append, List.nil_append, mx_nl_int, mx_nl_ref, mx_nl_null, mx_nl_none, mx_nb0, mx_nb1, mx_fb0, mx_fb1, mx_cat_int, mx_cat_ref, if_true, if_false, not_true_eq_false, not_false_eq_true, mx_wt_4, mx_w4_0, mx_w9_0, mx_w9_1, mx_kn_int, mx_kn_ref, mx_kn_null, Nat.reduceLT, ofn, n10, h6, h7]
theorem jo_targetP {ts : List tk} {n t c o part : Nat} {fv vv nx gv : Value} {g : prs → Option Nat → Bool} (NBt : NB ts) (hq : oks q) (D : DR R N h p l A cp es q (mrk (pit q)) b) (h4 : (pit q).length ≤ 4) (O : OC (dM p l A es R) h o (nI c) (nI (5 + part)) fv vv nx) (hc : c < 128) (hp : part = 1 ∨ part = 2) (F : FVi (dM p l A es R) h fv g) (hgv : mx_isr gv = true) (hvn : c = 45 → vv = .null) (hv : c ≠ 45 → ∃ v, vv = .ref v ∧ cVl ts n (dM p l A es R) h v t) :
    PO R N h p l A cp es (aCh ts c part t g q) 100 (mx_G (d + 26) 176 0 [some (.ref o), some (.ref p), some (.int (nI (5 + part))), some gv] [] h) := by
  obtain ⟨to, lo, o0, o1, o2, o3, o4⟩ := OC_f O
  have tp := (PC_f D.1).1
  obtain ⟨h1, k1, D1, S1, w1⟩ := jo_choose (d := d) hq D O F
  have tp1 := (PC_f D1.1).1
  obtain ⟨to1, -⟩ := OC_f (O.ex S1.2)
  have P := jo_parts (d := d + 15) (n := n) (t := t) NBt D1 h4 (O.ex S1.2) hc hp hvn (fun z => by
    obtain ⟨v, e, V⟩ := hv z
    exact ⟨v, e, cVl.ex S1.2 _ _ _ V⟩)
  have II := ja_isIt (d := d + 25) (h := h) (nI (5 + part)) (by rcases hp with rfl | rfl; exact Or.inl rfl; exact Or.inr rfl)
  refine (PO.pre P S1 (k1 := 0) (by omega) (fun v h' z => ?_)).mono (by decide)
  simp only [g176_0, g176_1, g176_4, g176_7, g176_8, g176_9, g176_10, g176_11, g176_14, g176_17, mx_isr_ref, mx_isr_null, mx_wt_nil, mx_wt_1, mx_wt_2, mx_wt_3, Option.bind_some, Option.toList_some, Option.toList_none, List.cons_append, List.nil_append, mx_nl_int, mx_nl_ref, mx_nl_null, mx_nl_none, mx_nb0, mx_nb1, mx_fb0, mx_fb1, mx_cat_int, mx_cat_ref, if_true, if_false, not_true_eq_false, not_false_eq_true, mx_wt_4, mx_w4_0, mx_w9_0, mx_w9_1, mx_kn_int, mx_kn_ref, mx_kn_null, Nat.reduceLT, ofn, n10, II, to, tp, k1, to1, tp1, z, show ¬ (1 : Int32) = 0 by decide]
theorem jo_targetI {ts : List tk} {n t c o : Nat} {at_ : Int32} {f : Nat} {vv nx gv : Value} {g : prs → Option Nat → Bool} (hq : oks q) (D : DR R N h p l A cp es q (mrk (pit q)) b) (h4 : (pit q).length ≤ 4) (O : OC (dM p l A es R) h o (nI c) at_ (.ref f) vv nx) (hc : c < 128) (F : FVi (dM p l A es R) h (.ref f) g) (hgv : mx_isr gv = true) (hvi : mx_isr vv = true) (hv : c ≠ 45 → ∃ v, vv = .ref v ∧ cVl ts n (dM p l A es R) h v t) :
    PO R N h p l A cp es (aCh ts c 0 t g q) 100 (mx_G (d + 26) 176 0 [some (.ref o), some (.ref p), some (.int 5), some gv] [] h) := by
  obtain ⟨to, lo, o0, o1, o2, o3, o4⟩ := OC_f O
  have tp := (PC_f D.1).1
  obtain ⟨h1, k1, D1, S1, w1⟩ := jo_choose (d := d) hq D O F
  have tp1 := (PC_f D1.1).1
  obtain ⟨to1, -⟩ := OC_f (O.ex S1.2)
  have P := jo_items (d := d + 15) (n := n) (t := t) D1 h4 (O.ex S1.2) hc hvi (fun z => by
    obtain ⟨v, e, V⟩ := hv z
    exact ⟨v, e, cVl.ex S1.2 _ _ _ V⟩)
  have II := ja_isIf (d := d + 25) (h := h) 5 (by decide) (by decide)
  refine (PO.pre P S1 (k1 := 0) (by omega) (fun v h' z => ?_)).mono (by decide)
  simp only [g176_0, g176_1, g176_4, g176_18, g176_19, g176_22, g176_22n, g176_25, g176_26, g176_27, g176_28, g176_29, g176_32, g176_35, mx_isr_ref, mx_isr_null, mx_wt_nil, mx_wt_1, mx_wt_2, mx_wt_3, Option.bind_some, Option.toList_some, Option.toList_none, List.cons_append, List.nil_append, mx_nl_int, mx_nl_ref, mx_nl_null, mx_nl_none, mx_nb0, mx_nb1, mx_fb0, mx_fb1, mx_cat_int, mx_cat_ref, if_true, if_false, not_true_eq_false, not_false_eq_true, mx_wt_4, mx_w4_0, mx_w9_0, mx_w9_1, mx_kn_int, mx_kn_ref, mx_kn_null, Nat.reduceLT, ofn, n10, II, to, lo, o2, tp, k1, to1, tp1, z]
theorem jo_target {ts : List tk} {n t c o way : Nat} {at_ : Int32} {fv vv nx gv : Value} {g : prs → Option Nat → Bool} (NBt : NB ts) (hq : oks q) (D : DR R N h p l A cp es q (mrk (pit q)) b) (h4 : (pit q).length ≤ 4) (O : OC (dM p l A es R) h o (nI c) at_ fv vv nx) (hc : c < 128) (w1 : 1 ≤ way) (w11 : way ≤ 11) (F : OFv (dM p l A es R) h way fv g) (ha : 6 < way → at_ = atE way ∧ gv = vv) (hvn : c = 45 → gv = .null) (hv : c ≠ 45 → ∃ v, gv = .ref v ∧ cVl ts n (dM p l A es R) h v t) :
    PO R N h p l A cp es (aTg ts c way g t q) 10200 (mx_G (d + 26) 176 0 [some (.ref o), some (.ref p), some (.int (atE way)), some gv] [] h) := by
  obtain ⟨to, lo, o0, o1, o2, o3, o4⟩ := OC_f O
  have tp := (PC_f D.1).1
  have hgv : mx_isr gv = true := by
    by_cases c45 : c = 45
    · rw [hvn c45]; rfl
    · obtain ⟨v, rfl, -⟩ := hv c45; rfl
  have Fi := F.fvi
  unfold aTg
  by_cases w6 : way < 6
  · rw [if_pos w6]
    unfold OFv at F
    rw [if_pos (by omega)] at F
    rw [F] at o2
    have ea : atE way = nI (way - 1) := by unfold atE; rw [if_neg (by omega), if_pos w6]
    rw [ea]
    have n5 : ∀ k : Nat, 5 ≤ k → k < 8 → ¬ nI (way - 1) = nI k := fun k h1 h2 z => by have := (nI_eq (by omega) (by omega)).mp z; omega
    have II := ja_isIf (d := d + 25) (h := h) (nI (way - 1)) (n5 6 (by decide) (by decide)) (n5 7 (by decide) (by decide))
    have q5 : ¬ nI (way - 1) = 5 := n5 5 (by decide) (by decide)
    have P := jo_plain (d := d + 15) (n := n) (t := t) NBt D O hc w1 (by omega) hvn hv
    refine (PO.pre P (SX.rfl _ _ _) (k1 := 0) (by omega) (fun v h' z => ?_)).mono (by decide)
    simp only [g176_0, g176_1, g176_4, g176_18, g176_19, g176_22, g176_22n, g176_22n, g176_36, g176_37, g176_38, g176_48, g176_49, g176_50, g176_51, g176_52, g176_55, mx_isr_ref, mx_isr_null, mx_wt_nil, mx_wt_1, mx_wt_2, mx_wt_3, Option.bind_some, Option.toList_some, Option.toList_none, List.cons_append, List.nil_append, mx_nl_int, mx_nl_ref, mx_nl_null, mx_nl_none, mx_nb0, mx_nb1, mx_fb0, mx_fb1, mx_cat_int, mx_cat_ref, if_true, if_false, not_true_eq_false, not_false_eq_true, mx_wt_4, mx_w4_0, mx_w9_0, mx_w9_1, mx_kn_int, mx_kn_ref, mx_kn_null, Nat.reduceLT, ofn, n10, II, to, lo, o2, q5, tp, hgv, z]
  · rw [if_neg w6]
    by_cases e6 : way = 6
    · subst e6
      rw [if_pos rfl]
      unfold OFv at F
      rw [if_pos (by decide)] at F
      rw [F] at o2
      have II := ja_isIf (d := d + 25) (h := h) 5 (by decide) (by decide)
      have P := jo_mail (d := d + 15) (n := n) (t := t) D h4 O hc hgv hv
      rw [show atE 6 = 5 from rfl]
      refine (PO.pre P (SX.rfl _ _ _) (k1 := 0) (by omega) (fun v h' z => ?_)).mono (by decide)
      simp only [g176_0, g176_1, g176_4, g176_18, g176_19, g176_22, g176_22n, g176_22n, g176_36, g176_37, g176_38, g176_41, g176_42, g176_43, g176_44, g176_47, mx_isr_ref, mx_isr_null, mx_wt_nil, mx_wt_1, mx_wt_2, mx_wt_3, Option.bind_some, Option.toList_some, Option.toList_none, List.cons_append, List.nil_append, mx_nl_int, mx_nl_ref, mx_nl_null, mx_nl_none, mx_nb0, mx_nb1, mx_fb0, mx_fb1, mx_cat_int, mx_cat_ref, if_true, if_false, not_true_eq_false, not_false_eq_true, mx_wt_4, mx_w4_0, mx_w9_0, mx_w9_1, mx_kn_int, mx_kn_ref, mx_kn_null, Nat.reduceLT, ofn, n10, II, to, lo, o2, tp, hgv, z, show ¬ ¬ (5 : Int32) = 5 by decide]
    · rw [if_neg e6]
      obtain ⟨ea, eg⟩ := ha (by omega)
      subst eg
      subst ea
      have hw : way = 7 ∨ way = 8 ∨ way = 9 ∨ way = 10 ∨ way = 11 := by omega
      rcases hw with rfl | rfl | rfl | rfl | rfl
      · rw [if_pos (by decide)]
        rw [if_pos (by decide)] at Fi
        exact (jo_targetP (d := d) (n := n) (part := 1) NBt hq D h4 O hc (Or.inl rfl) Fi hgv hvn hv).mono (by decide)
      · rw [if_pos (by decide)]
        rw [if_pos (by decide)] at Fi
        exact (jo_targetP (d := d) (n := n) (part := 2) NBt hq D h4 O hc (Or.inr rfl) Fi hgv hvn hv).mono (by decide)
      · rw [if_neg (by decide)]
        rw [if_neg (by decide)] at Fi
        unfold OFv at F
        rw [if_neg (by decide)] at F
        obtain ⟨f, cs, rfl, -⟩ := F
        exact (jo_targetI (d := d) (n := n) hq D h4 O hc Fi hgv hgv hv).mono (by decide)
      · rw [if_neg (by decide)]
        rw [if_neg (by decide)] at Fi
        exact (jo_targetP (d := d) (n := n) (part := 1) NBt hq D h4 O hc (Or.inl rfl) Fi hgv hvn hv).mono (by decide)
      · rw [if_neg (by decide)]
        rw [if_neg (by decide)] at Fi
        exact (jo_targetP (d := d) (n := n) (part := 2) NBt hq D h4 O hc (Or.inr rfl) Fi hgv hvn hv).mono (by decide)
end
