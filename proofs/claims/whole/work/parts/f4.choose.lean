/-! chooseItems, keepOnePrimary, finish. -/
def FVi (M : List Nat) (h : mx_H) (fv : Value) (g : prs → Option Nat → Bool) : Prop := (fv = .null ∧ ∀ p i, g p i = true) ∨ ∃ (f : Nat) (cs : List Value), fv = .ref f ∧ h[f]? = some (.inl 10, cs ++ [.null]) ∧ fz M f ∧ Mt 24 true M h f cs g
theorem FVi.ex {M M' : List Nat} {h h' : mx_H} {fv : Value} {g : prs → Option Nat → Bool} (F : FVi M h fv g) (x : Ex M h M' h') : FVi M' h' fv g := by
  rcases F with z | ⟨f, cs, e1, e2, e3, e4⟩
  · exact Or.inl z
  · exact Or.inr ⟨f, cs, e1, (x.at e2 e3).1, (x.at e2 e3).2, e4.ex x⟩
theorem FVi.isr {M : List Nat} {h : mx_H} {fv : Value} {g : prs → Option Nat → Bool} (F : FVi M h fv g) : mx_isr fv = true := by
  rcases F with ⟨rfl, -⟩ | ⟨f, cs, rfl, -⟩ <;> rfl
/-- an operation's cell -/
def OC (M : List Nat) (h : mx_H) (o : Nat) (sg at_ : Int32) (fv vv nx : Value) : Prop := h[o]? = some (.inl 9, [.int sg, .int at_, fv, vv, nx]) ∧ fz M o
theorem OC.ex {M M' : List Nat} {h h' : mx_H} {o : Nat} {sg at_ : Int32} {fv vv nx : Value} (O : OC M h o sg at_ fv vv nx) (x : Ex M h M' h') : OC M' h' o sg at_ fv vv nx := ⟨(x.at O.1 O.2).1, (x.at O.1 O.2).2⟩
theorem OC_f {M : List Nat} {h : mx_H} {o : Nat} {sg at_ : Int32} {fv vv nx : Value} (O : OC M h o sg at_ fv vv nx) : mx_tag h o = some (.inl 9) ∧ mx_ln h o = 5 ∧ mx_el h o 0 = .int sg ∧ mx_el h o 1 = .int at_ ∧ mx_el h o 2 = fv ∧ mx_el h o 3 = vv ∧ mx_el h o 4 = nx :=
  ⟨ce_t O.1, by rw [ce_n O.1]; rfl, by rw [ce_e O.1]; rfl, by rw [ce_e O.1]; rfl, by rw [ce_e O.1]; rfl, by rw [ce_e O.1]; rfl, by rw [ce_e O.1]; rfl⟩
theorem chs_len (g : prs → Option Nat → Bool) (q : prs) : (chs g q).length = (pit q).length := by unfold chs; simp
theorem chs_get {g : prs → Option Nat → Bool} {q : prs} {j : Nat} (hj : j < (pit q).length) : (chs g q).getD j false = g q (some j) := by
  unfold chs
  simp [List.getD_eq_getElem?_getD, hj]
theorem take_b {bs : List Bool} {j : Nat} (hj : j < bs.length) : bs.take (j + 1) = bs.take j ++ [bs.getD j false] := by
  rw [List.take_add_one]
  simp [List.getD_eq_getElem?_getD, hj]
theorem any_take {bs : List Bool} {j : Nat} (hj : j < bs.length) : (bs.take (j + 1)).any id = ((bs.take j).any id || bs.getD j false) := by
  rw [take_b hj, List.any_append]
  simp
theorem xset_self {m : List itf} {j : Nat} (hj : j < m.length) : m.set j (xG m j) = m := by
  unfold xG
  rw [List.getD_eq_getElem?_getD, List.getElem?_eq_getElem hj]
  exact List.set_getElem_self hj
theorem bset_self {m : List Bool} {j : Nat} (hj : j < m.length) : m.set j (m.getD j false) = m := by
  rw [List.getD_eq_getElem?_getD, List.getElem?_eq_getElem hj]
  exact List.set_getElem_self hj
section
variable {d : Nat} {h : mx_H} {R : List Nat} {N p l A cp : Nat} {es : List Nat} {q : prs} {m : List itf} {b : List Bool}
theorem jo_chL (hq : oks q) {g : prs → Option Nat → Bool} {o : Nat} {sg at_ : Int32} {fv vv nx : Value} : ∀ n j (h : mx_H) (b : List Bool) (l4 : Option Value), n + j = (pit q).length → DR R N h p l A cp es q (mrk (pit q)) b → OC (dM p l A es R) h o sg at_ fv vv nx → FVi (dM p l A es R) h fv g → b.take j = (chs g q).take j →
    ∃ h', mx_G (d + 25) 178 4 [some (.ref o), some (.ref p), some (.int (bI (((chs g q).take j).any id))), some (.int (nI j)), l4] [] h = some (some (.int (bI ((chs g q).any id))), h') ∧ DR R N h' p l A cp es q (mrk (pit q)) (chs g q) ∧ SX N (dM p l A es R) h (dM p l A es R) h' ∧ mw h' = mw h := by
  intro n
  induction n with
  | zero =>
    intro j h b l4 hj D O F hb
    have hj : j = (pit q).length := by omega
    subst hj
    have cl := chs_len g q
    have e1 : (chs g q).take (pit q).length = chs g q := List.take_of_length_le (by omega)
    have e2 : b = chs g q := by
      have := D.2.2.1.2.1
      rw [mrk_len] at this
      rw [← e1, ← hb, List.take_of_length_le (by omega)]
    rw [e1]
    refine ⟨h, ?_, by rw [← e2]; exact D, SX.rfl _ _ _, rfl⟩
    obtain ⟨tp, lp, p6, -⟩ := PC_f D.1
    have L := D.2.1
    have sz := jl_size (d := d + 24) L
    rw [D.2.2.1.1, mrk_len] at sz
    have hb := L.2.2.2.1
    have hl := D.2.2.1.1
    rw [mrk_len] at hl
    have := L.2.2.1
    simp only [g178_4, g178_5, g178_6, g178_9, g178_12, g178_82, g178_83, mx_isr_ref, mx_isr_null, mx_wt_nil, mx_wt_1, mx_wt_2, mx_wt_3, Option.bind_some, Option.toList_some, Option.toList_none, List.cons_append, List.nil_append, mx_nl_int, mx_nl_ref, mx_nl_null, mx_nl_none, mx_nb0, mx_nb1, mx_fb0, mx_fb1, mx_cat_int, mx_cat_ref, if_true, if_false, not_true_eq_false, not_false_eq_true, mx_wt_4, mx_w4_0, mx_w9_0, mx_w9_1, mx_kn_int, mx_kn_ref, mx_kn_null, Nat.reduceLT, ofn, n10, (bI_ok ((chs g q).any id)).1, tp, lp, p6, (AL_f L).1, sz, show nI (pit q).length ≤ nI (pit q).length from nI_le (Nat.le_refl _) (by omega)]
  | succ n ih =>
    intro j h b l4 hj D O F hb
    have hjl : j < (pit q).length := by omega
    obtain ⟨tp, lp, p6, -⟩ := PC_f D.1
    have L := D.2.1
    have hl := D.2.2.1.1
    rw [mrk_len] at hl
    have hbl := D.2.2.1.2.1
    rw [mrk_len] at hbl
    have h1000 := L.2.2.2.1
    have hcp := L.2.2.1
    have sz := jl_size (d := d + 24) L
    rw [hl] at sz
    have c1 : ¬ nI (pit q).length ≤ nI j := nI_ge hjl (by omega)
    have G := jl_get (d := d + 22) L (show j < es.length by omega)
    have J := D.2.2.1.2.2 j (by rw [mrk_len]; exact hjl)
    have hm : es.getD j 0 ∈ es := gd_mem' (by omega)
    have hne := D.ne hm
    have te := J.tag.1
    have h63 : mt_nO ≤ es.getD j 0 := by rw [show mt_nO = 63 by decide]; have := D.2.2.2.2.1; omega
    obtain ⟨to, lo, o0, o1, o2, o3, o4⟩ := OC_f O
    have cg := chs_get (g := g) hjl
    have cl := chs_len g q
    generalize hB : g q (some j) = B at cg
    have hb2 := bI_ok B
    generalize hh : mx_up h (es.getD j 0) 2 (.int (bI B)) = h1
    have F1 : Fr [es.getD j 0] h h1 := by rw [← hh]; exact Fr.up (by simp)
    have key : mx_G (d + 25) 178 4 [some (.ref o), some (.ref p), some (.int (bI (((chs g q).take j).any id))), some (.int (nI j)), l4] [] h = mx_G (d + 25) 178 58 [some (.ref o), some (.ref p), some (.int (bI (((chs g q).take j).any id))), some (.int (nI j)), some (.ref (es.getD j 0))] [] h1 := by
      rw [g178_4]
      rcases id F with ⟨rfl, hg⟩ | ⟨f, cs, rfl, ef, ff, mt⟩
      · have : B = true := by rw [← hB]; exact hg _ _
        subst this
        have b1 : bI true = 1 := rfl
        rw [b1] at hb2 hh
        simp only [g178_5, g178_6, g178_9, g178_12, g178_15, g178_16, g178_19, g178_20, g178_23n, g178_23, g178_26, g178_28, g178_30, g178_31, g178_34, g178_34n, g178_34n, g178_50, g178_51, g178_54, g178_55, mx_isr_ref, mx_isr_null, mx_wt_nil, mx_wt_1, mx_wt_2, mx_wt_3, Option.bind_some, Option.toList_some, Option.toList_none, List.cons_append, List.nil_append, mx_nl_int, mx_nl_ref, mx_nl_null, mx_nl_none, mx_nb0, mx_nb1, mx_fb0, mx_fb1, mx_cat_int, mx_cat_ref, if_true, if_false, not_true_eq_false, not_false_eq_true, mx_wt_4, mx_w4_0, mx_w9_0, mx_w9_1, mx_kn_int, mx_kn_ref, mx_kn_null, Nat.reduceLT, ofn, n10, tp, lp, p6, (AL_f L).1, sz, c1, G, te, to, lo, o2, hb2.1, hb2.2, h63, hh]
      · have H := mt d (dM p l A es R) h .null p l A cp es q (.ref (es.getD j 0)) (some j) (Ex.rfl _ _) ef rfl ⟨D.1, L, by have := D.2.2.1.its; rw [mrk_1] at this; exact this, Or.inr ⟨j, hjl, rfl, rfl⟩, hq.1, hq.2.1, hq.2.2⟩ (by simp)
        rw [hB] at H
        have tf := ce_t ef
        cases B
        · have b1 : bI false = 0 := rfl
          rw [b1] at hb2 hh
          simp only [Bool.false_eq_true, if_false] at H
          simp only [g178_5, g178_6, g178_9, g178_12, g178_15, g178_16, g178_19, g178_20, g178_23n, g178_23, g178_26, g178_28, g178_30, g178_31, g178_34, g178_34n, g178_37, g178_38, g178_41, g178_42, g178_44, g178_47, g178_54, g178_55, mx_isr_ref, mx_isr_null, mx_wt_nil, mx_wt_1, mx_wt_2, mx_wt_3, Option.bind_some, Option.toList_some, Option.toList_none, List.cons_append, List.nil_append, mx_nl_int, mx_nl_ref, mx_nl_null, mx_nl_none, mx_nb0, mx_nb1, mx_fb0, mx_fb1, mx_cat_int, mx_cat_ref, if_true, if_false, not_true_eq_false, not_false_eq_true, mx_wt_4, mx_w4_0, mx_w9_0, mx_w9_1, mx_kn_int, mx_kn_ref, mx_kn_null, Nat.reduceLT, ofn, n10, tp, lp, p6, (AL_f L).1, sz, c1, G, te, to, lo, o2, tf, H, hb2.1, hb2.2, h63, hh]
        · have b1 : bI true = 1 := rfl
          rw [b1] at hb2 hh
          simp only [if_true] at H
          simp only [g178_5, g178_6, g178_9, g178_12, g178_15, g178_16, g178_19, g178_20, g178_23n, g178_23, g178_26, g178_28, g178_30, g178_31, g178_34, g178_34n, g178_37, g178_38, g178_41, g178_42, g178_44, g178_47, g178_50, g178_51, g178_54, g178_55, mx_isr_ref, mx_isr_null, mx_wt_nil, mx_wt_1, mx_wt_2, mx_wt_3, Option.bind_some, Option.toList_some, Option.toList_none, List.cons_append, List.nil_append, mx_nl_int, mx_nl_ref, mx_nl_null, mx_nl_none, mx_nb0, mx_nb1, mx_fb0, mx_fb1, mx_cat_int, mx_cat_ref, if_true, if_false, not_true_eq_false, not_false_eq_true, mx_wt_4, mx_w4_0, mx_w9_0, mx_w9_1, mx_kn_int, mx_kn_ref, mx_kn_null, Nat.reduceLT, ofn, n10, tp, lp, p6, (AL_f L).1, sz, c1, G, te, to, lo, o2, tf, H, show ¬ (1 : Int32) = 0 by decide, hb2.1, hb2.2, h63, hh]
    obtain ⟨a1, a2, e1, q1, q2⟩ := id J
    have E1 : Ex (dM p l A es R) h (dM p l A es R) h1 := by rw [← hh]; exact Ex.up1 (dM_e hm)
    have J1 : IC (dM p l A es R) h1 (es.getD j 0) (some (xG (mrk (pit q)) j).1.1) (xG (mrk (pit q)) j).1.2 (bI B) (bI (xG (mrk (pit q)) j).2) := ⟨a1, a2, by rw [← hh, c_up e1]; rfl, q1.ex E1, q2.ex E1⟩
    obtain ⟨D1, S1⟩ := D.item (i := j) (by rw [mrk_len]; exact hjl) F1 (fun a ha => Or.inl (List.mem_singleton.mp ha)) J1
    rw [xset_self (by rw [mrk_len]; exact hjl)] at D1
    have hb1 : (b.set j B).take (j + 1) = (chs g q).take (j + 1) := by
      rw [take_b (by rw [List.length_set]; omega), take_b (by omega), cg, List.take_set_of_le (Nat.le_refl _), hb]
      simp [List.getD_eq_getElem?_getD, show j < b.length by omega]
    obtain ⟨h', i1, i2, i3, i4⟩ := ih (j + 1) h1 (b.set j B) (some (.ref (es.getD j 0))) (by omega) D1 (O.ex S1.2) (F.ex S1.2) hb1
    refine ⟨h', ?_, i2, S1.trans i3, by rw [i4, ← hh, mw_up]⟩
    rw [key]
    rw [any_take (by omega), cg] at i1
    have te1 : mx_tag h1 (es.getD j 0) = some (.inl 8) := by rw [← hh, mx_tag_up]; exact te
    have le1 : mx_ln h1 (es.getD j 0) = 4 := by rw [← hh, mx_ln_up, ce_n e1]; rfl
    have ee1 : mx_el h1 (es.getD j 0) 2 = .int (bI B) := by
      have := J1
      obtain ⟨y1, y2, ey, -⟩ := this
      rw [ce_e ey]; rfl
    cases hA : ((chs g q).take j).any id
    · rw [hA] at i1
      cases B
      · have b1 : bI false = 0 := rfl
        simp only [Bool.or_self, b1] at i1 ee1
        simp only [g178_58, g178_59, g178_62, g178_64, g178_67, g178_74, g178_75, g178_76, g178_79, mx_isr_ref, mx_isr_null, mx_wt_nil, mx_wt_1, mx_wt_2, mx_wt_3, Option.bind_some, Option.toList_some, Option.toList_none, List.cons_append, List.nil_append, mx_nl_int, mx_nl_ref, mx_nl_null, mx_nl_none, mx_nb0, mx_nb1, mx_fb0, mx_fb1, mx_cat_int, mx_cat_ref, if_true, if_false, not_true_eq_false, not_false_eq_true, mx_wt_4, mx_w4_0, mx_w9_0, mx_w9_1, mx_kn_int, mx_kn_ref, mx_kn_null, Nat.reduceLT, ofn, n10, b1, te1, le1, ee1, nI_1]
        exact i1
      · have b1 : bI false = 0 := rfl
        have b2 : bI true = 1 := rfl
        simp only [Bool.or_true, b2] at i1 ee1
        simp only [g178_58, g178_59, g178_62, g178_64, g178_67, g178_70, g178_71, g178_74, g178_75, g178_76, g178_79, mx_isr_ref, mx_isr_null, mx_wt_nil, mx_wt_1, mx_wt_2, mx_wt_3, Option.bind_some, Option.toList_some, Option.toList_none, List.cons_append, List.nil_append, mx_nl_int, mx_nl_ref, mx_nl_null, mx_nl_none, mx_nb0, mx_nb1, mx_fb0, mx_fb1, mx_cat_int, mx_cat_ref, if_true, if_false, not_true_eq_false, not_false_eq_true, mx_wt_4, mx_w4_0, mx_w9_0, mx_w9_1, mx_kn_int, mx_kn_ref, mx_kn_null, Nat.reduceLT, ofn, n10, b1, te1, le1, ee1, show ¬ (1 : Int32) = 0 by decide, nI_1]
        exact i1
    · rw [hA] at i1
      have b2 : bI true = 1 := rfl
      simp only [Bool.true_or, b2] at i1
      simp only [g178_58, g178_59, g178_70, g178_71, g178_74, g178_75, g178_76, g178_79, mx_isr_ref, mx_isr_null, mx_wt_nil, mx_wt_1, mx_wt_2, mx_wt_3, Option.bind_some, Option.toList_some, Option.toList_none, List.cons_append, List.nil_append, mx_nl_int, mx_nl_ref, mx_nl_null, mx_nl_none, mx_nb0, mx_nb1, mx_fb0, mx_fb1, mx_cat_int, mx_cat_ref, if_true, if_false, not_true_eq_false, not_false_eq_true, mx_wt_4, mx_w4_0, mx_w9_0, mx_w9_1, mx_kn_int, mx_kn_ref, mx_kn_null, Nat.reduceLT, ofn, n10, b2, show ¬ (1 : Int32) = 0 by decide, nI_1]
      exact i1
theorem jo_choose (hq : oks q) {g : prs → Option Nat → Bool} {o : Nat} {sg at_ : Int32} {fv vv nx : Value} (D : DR R N h p l A cp es q (mrk (pit q)) b) (O : OC (dM p l A es R) h o sg at_ fv vv nx) (F : FVi (dM p l A es R) h fv g) :
    ∃ h', mx_G (d + 25) 178 0 [some (.ref o), some (.ref p), none, none, none] [] h = some (some (.int (bI ((chs g q).any id))), h') ∧ DR R N h' p l A cp es q (mrk (pit q)) (chs g q) ∧ SX N (dM p l A es R) h (dM p l A es R) h' ∧ mw h' = mw h := by
  obtain ⟨h', i1, i2⟩ := jo_chL (d := d) hq (pit q).length 0 h b none (by omega) D O F rfl
  refine ⟨h', ?_, i2⟩
  rw [nI_0] at i1
  simp only [g178_0, g178_1, g178_2, g178_3, mx_isr_ref, mx_isr_null, mx_wt_nil, mx_wt_1, mx_wt_2, mx_wt_3, Option.bind_some, Option.toList_some, Option.toList_none, List.cons_append, List.nil_append, mx_nl_int, mx_nl_ref, mx_nl_null, mx_nl_none, mx_nb0, mx_nb1, mx_fb0, mx_fb1, mx_cat_int, mx_cat_ref, if_true, if_false, not_true_eq_false, not_false_eq_true, mx_wt_4, mx_w4_0, mx_w9_0, mx_w9_1, mx_kn_int, mx_kn_ref, mx_kn_null, Nat.reduceLT, ofn, n10]
  exact i1
end
