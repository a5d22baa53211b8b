/-! applyTo. -/
/-- a person that may be changed -/
def okP (q : prs) : Prop := wfP q ∧ q.1 < 2 ^ 20 ∧ q.2.1 < 2 ^ 20
theorem okP.oks {q : prs} (h : okP q) : oks q := ⟨fun z => by have := h.1.1.1; rw [z] at this; simp at this, h.2⟩
theorem okP.q {p : prs} {r : Int × prs} (h : okP p) (w : wfQ p r) : okP r.2 := ⟨w.1, by rw [w.2.1]; exact h.2.1, by rw [w.2.2]; exact h.2.2⟩
theorem okP.it {q : prs} (h : okP q) : (pit q).length ≤ 4 := h.1.2.2.1
section
variable {d : Nat} {h : mx_H} {R : List Nat} {N p l A cp : Nat} {es : List Nat} {q : prs} {m : List itf} {b : List Bool}
theorem jo_allL {ts : List tk} {n c o : Nat} {at_ : Int32} {vv nx : Value} (K : tkOK ts) (NBt : NB ts) (hc : c < 128) (c45 : c ≠ 45) : ∀ (ks : List Nat) (f : Value) (h : mx_H) (A cp : Nat) (es : List Nat) (q : prs) (b : List Bool) (l3 l4 : Option Value), DR R N h p l A cp es q (mrk (pit q)) b → okP q → OC (dM p l A es R) h o (nI c) at_ .null vv nx → pG (cVl ts n (dM p l A es R) h) ts true (dM p l A es R) h f ks .null →
    PO R N h p l A cp es (aAl ts c ks q) (10200 * ks.length) (mx_G (d + 27) 175 52 [some (.ref o), some (.ref p), some f, l3, l4] [] h) := by
  intro ks
  induction ks with
  | nil =>
    intro f h A cp es q b l3 l4 D hq O G
    rw [show f = .null from G]
    refine PO.ok (h' := h) (A' := A) (cp' := cp) (es' := es) (b' := b) ?_ D (SX.rfl _ _ _) (by omega)
    simp only [g175_52, g175_53, g175_53n, g175_53n, g175_115, g175_116, mx_isr_ref, mx_isr_null, mx_wt_nil, mx_wt_1, mx_wt_2, mx_wt_3, Option.bind_some, Option.toList_some, Option.toList_none, List.cons_append, List.nil_append, mx_nl_int, mx_nl_ref, mx_nl_null, mx_nl_none, mx_nb0, mx_nb1, mx_fb0, mx_fb1, mx_cat_int, mx_cat_ref, if_true, if_false, not_true_eq_false, not_false_eq_true, mx_wt_4, mx_w4_0, mx_w9_0, mx_w9_1, mx_kn_int, mx_kn_ref, mx_kn_null, Nat.reduceLT, ofn, n10]
    rfl
  | cons k ks ih =>
    intro f h A cp es q b l3 l4 D hq O G
    obtain ⟨pt, s, w, f', rfl, ep, fp, Sn, V, G'⟩ := G
    rw [if_pos rfl] at Sn
    have V : cVl ts n (dM p l A es R) h w (k + 2) := V
    obtain ⟨bs, -, -, Sb⟩ := Sn
    obtain ⟨to, lo, o0, o1, o2, o3, o4⟩ := OC_f O
    have tp := (PC_f D.1).1
    have tpt := ce_t ep
    have lpt : mx_ln h pt = 3 := by rw [ce_n ep]; rfl
    have p0 : mx_el h pt 0 = .ref s := by rw [ce_e ep]; rfl
    have p1 : mx_el h pt 1 = .ref w := by rw [ce_e ep]; rfl
    have p2 : mx_el h pt 2 = f' := by rw [ce_e ep]; rfl
    have hf' : mx_isr f' = true := pG_isr G' rfl
    have OP := ja_ofP (d := d + 24) D.2.2.2.2.2.2.1 Sb
    obtain ⟨a0, a1, a2, a3, a4, a5, a6⟩ := aPi_of (nmf ts k)
    have RO := ja_ro (d := d + 26) (h := h) (k := aPi (nmf ts k))
    rw [aAl, List.length_cons]
    rw [g175_52 mx_isr_ref]
    by_cases ro : nmf ts k = w_id ∨ nmf ts k = w_version
    · rw [if_pos ro]
      have I := ih f' h A cp es q b (some (.int (aPi (nmf ts k)))) (some (.int 0)) D hq O G'
      have nn : ¬ aPi (nmf ts k) = -1 := by rcases ro with z | z; rw [a0 z]; decide; rw [a1 z]; decide
      rw [if_pos (by rcases ro with z | z; exact Or.inl (a0 z); exact Or.inr (a1 z))] at RO
      refine (PO.pre I (SX.rfl _ _ _) (k1 := 0) (by omega) (fun v h' z => ?_)).mono (by omega)
      simp only [g175_53, g175_53n, g175_56, g175_57, g175_60, g175_63, g175_64, g175_65, g175_67, g175_68, g175_69, g175_80, g175_81, g175_84, g175_99, g175_101, g175_104, g175_106, g175_107, g175_108, g175_111, g175_112, mx_isr_ref, mx_isr_null, mx_wt_nil, mx_wt_1, mx_wt_2, mx_wt_3, Option.bind_some, Option.toList_some, Option.toList_none, List.cons_append, List.nil_append, mx_nl_int, mx_nl_ref, mx_nl_null, mx_nl_none, mx_nb0, mx_nb1, mx_fb0, mx_fb1, mx_cat_int, mx_cat_ref, if_true, if_false, not_true_eq_false, not_false_eq_true, mx_wt_4, mx_w4_0, mx_w9_0, mx_w9_1, mx_kn_int, mx_kn_ref, mx_kn_null, Nat.reduceLT, ofn, n10, tpt, lpt, p0, p2, isr_kn hf', hf', OP, nn, RO, show ¬ (1 : Int32) = 0 by decide]
      exact z
    · rw [if_neg ro]
      by_cases wy : wyN (nmf ts k) = 0
      · rw [if_pos wy]
        have ea : aPi (nmf ts k) = -1 := by
          unfold wyN at wy
          refine a6 (fun z => ro (Or.inl z)) (fun z => ro (Or.inr z)) (fun z => ?_) (fun z => ?_) (fun z => ?_) (fun z => ?_)
          · rw [if_pos z] at wy; cases wy
          · rw [z] at wy; exact absurd wy (by decide)
          · rw [z] at wy; exact absurd wy (by decide)
          · rw [z] at wy; exact absurd wy (by decide)
        rw [ea] at OP
        refine PO.err (h' := h) ?_ (show (-401 : Int) ≠ 0 by decide) (FrN.rfl _ _) (by have := D.2.1.2.2.2.1; omega)
        simp only [g175_53, g175_53n, g175_56, g175_57, g175_60, g175_63, g175_64, g175_65, g175_67, g175_68, g175_69, g175_72, g175_75, g175_77, g175_99, g175_101, g175_104, g175_106, mx_isr_ref, mx_isr_null, mx_wt_nil, mx_wt_1, mx_wt_2, mx_wt_3, Option.bind_some, Option.toList_some, Option.toList_none, List.cons_append, List.nil_append, mx_nl_int, mx_nl_ref, mx_nl_null, mx_nl_none, mx_nb0, mx_nb1, mx_fb0, mx_fb1, mx_cat_int, mx_cat_ref, if_true, if_false, not_true_eq_false, not_false_eq_true, mx_wt_4, mx_w4_0, mx_w9_0, mx_w9_1, mx_kn_int, mx_kn_ref, mx_kn_null, Nat.reduceLT, ofn, n10, tpt, lpt, p0, OP, show ¬ ¬ (-1 : Int32) = -1 by decide, show ¬ (-401 : Int32) = 0 by decide]
        rfl
      · rw [if_neg wy]
        have hwy : aPi (nmf ts k) = atE (wyN (nmf ts k)) ∧ 3 ≤ wyN (nmf ts k) ∧ wyN (nmf ts k) ≤ 6 := by
          by_cases z : nmf ts k = w_name
          · rw [a2 z, z]; decide
          · by_cases z : nmf ts k = w_age
            · rw [a3 z, z]; decide
            · by_cases z : nmf ts k = w_on
              · rw [a4 z, z]; decide
              · by_cases z : nmf ts k = w_mail
                · rw [a5 z, z]; decide
                · exfalso
                  apply wy
                  unfold wyN
                  rw [if_neg (by assumption), if_neg (by assumption), if_neg (by assumption), if_neg (by assumption)]
        generalize hw : wyN (nmf ts k) = way at *
        obtain ⟨ea, w3, w6⟩ := hwy
        have nn : ¬ aPi (nmf ts k) = -1 ∧ ¬ (aPi (nmf ts k) = 0 ∨ aPi (nmf ts k) = 1) := by
          rw [ea]
          have : way = 3 ∨ way = 4 ∨ way = 5 ∨ way = 6 := by omega
          rcases this with rfl | rfl | rfl | rfl <;> decide
        rw [if_neg nn.2] at RO
        have P := jo_target (d := d) (n := n) (t := k + 2) (way := way) (gv := .ref w) (g := fun _ _ => true) NBt hq.oks D hq.it O hc (by omega) (by omega) (by unfold OFv; rw [if_pos (by omega)]) (fun z => absurd z (by omega)) (fun z => absurd z c45) (fun _ => ⟨w, rfl, V⟩)
        obtain ⟨h1, g1, F1, w1, r1⟩ := P
        rw [← ea] at g1
        have hb := aTg_b (ts := ts) c way (fun _ _ => true) (k + 2) q
        obtain ⟨e1, -⟩ := ecB_0 hb
        have hwq := aTg_wf K c way (fun _ _ => true) (k + 2) hq.1
        generalize hr : aTg ts c way (fun _ _ => true) (k + 2) q = res at *
        obtain ⟨e, q1⟩ := res
        simp only at g1 r1 e1 hb ⊢
        by_cases ez : e = 0
        · rw [if_pos ez]
          obtain ⟨A1, cp1, es1, b1, D1, S1, w1'⟩ := r1 ez
          subst ez
          have ep1 := (S1.2.at ep fp).1
          have tpt1 := ce_t ep1
          have lpt1 : mx_ln h1 pt = 3 := by rw [ce_n ep1]; rfl
          have p21 : mx_el h1 pt 2 = f' := by rw [ce_e ep1]; rfl
          have I := ih f' h1 A1 cp1 es1 q1 b1 (some (.int (aPi (nmf ts k)))) (some (.int 0)) D1 (hq.q hwq) (O.ex S1.2) (pG.ex (fun w u z => cVl.ex S1.2 _ _ _ z) S1.2 _ _ _ G')
          refine (PO.pre I S1 (k1 := 10200) (by omega) (fun v h' z => ?_)).mono (by omega)
          rw [show Int32.ofInt 0 = 0 from rfl] at g1
          simp only [g175_53, g175_53n, g175_56, g175_57, g175_60, g175_63, g175_64, g175_65, g175_67, g175_68, g175_69, g175_80, g175_81, g175_84, g175_87, g175_88, g175_89, g175_90, g175_91, g175_94, g175_97, g175_99, g175_101, g175_104, g175_106, g175_107, g175_108, g175_111, g175_112, mx_isr_ref, mx_isr_null, mx_wt_nil, mx_wt_1, mx_wt_2, mx_wt_3, Option.bind_some, Option.toList_some, Option.toList_none, List.cons_append, List.nil_append, mx_nl_int, mx_nl_ref, mx_nl_null, mx_nl_none, mx_nb0, mx_nb1, mx_fb0, mx_fb1, mx_cat_int, mx_cat_ref, if_true, if_false, not_true_eq_false, not_false_eq_true, mx_wt_4, mx_w4_0, mx_w9_0, mx_w9_1, mx_kn_int, mx_kn_ref, mx_kn_null, Nat.reduceLT, ofn, n10, tpt, lpt, p0, p1, OP, nn.1, RO, to, tp, g1, tpt1, lpt1, p21, isr_kn hf', hf', show ¬ ¬ (0 : Int32) = 0 by decide]
          exact z
        · rw [if_neg ez]
          have ne : ¬ Int32.ofInt e = 0 := fun z => ez (e1.mp z)
          have hw1 : mw h1 + 6 * cp ≤ mw h + 6000 + 10200 * (ks.length + 1) := Nat.le_trans w1 (Nat.add_le_add_left (Nat.le_mul_of_pos_right 10200 (Nat.succ_pos _)) _)
          refine PO.err (h' := h1) (res := (e, q)) ?_ ez F1 hw1
          simp only [g175_53, g175_53n, g175_56, g175_57, g175_60, g175_63, g175_64, g175_65, g175_67, g175_68, g175_69, g175_80, g175_81, g175_84, g175_87, g175_88, g175_89, g175_90, g175_91, g175_94, g175_97, g175_99, g175_101, g175_104, g175_106, mx_isr_ref, mx_isr_null, mx_wt_nil, mx_wt_1, mx_wt_2, mx_wt_3, Option.bind_some, Option.toList_some, Option.toList_none, List.cons_append, List.nil_append, mx_nl_int, mx_nl_ref, mx_nl_null, mx_nl_none, mx_nb0, mx_nb1, mx_fb0, mx_fb1, mx_cat_int, mx_cat_ref, if_true, if_false, not_true_eq_false, not_false_eq_true, mx_wt_4, mx_w4_0, mx_w9_0, mx_w9_1, mx_kn_int, mx_kn_ref, mx_kn_null, Nat.reduceLT, ofn, n10, tpt, lpt, p0, p1, OP, nn.1, RO, to, tp, g1, ne, show ¬ ¬ (0 : Int32) = 0 by decide]
/-- what an operation costs -/
def opC (ts : List tk) (o : opr) : Nat := if o.1 = 45 then 100 else if o.2.1 = 0 then (if tI ts o.2.2.2 123 = true then 10200 * (kd ts o.2.2.2).length else 0) + 100 else 10200
theorem aTg_m {ts : List tk} {n t o way : Nat} {at_ : Int32} {fv vv nx gv : Value} {g : prs → Option Nat → Bool} (NBt : NB ts) (hq : oks q) (D : DR R N h p l A cp es q (mrk (pit q)) b) (h4 : (pit q).length ≤ 4) (O : OC (dM p l A es R) h o (nI 45) at_ fv vv nx) (w1 : 1 ≤ way) (w11 : way ≤ 11) (F : OFv (dM p l A es R) h way fv g) (ha : 6 < way → at_ = atE way ∧ gv = vv) (hvn : gv = .null) (hw6 : way ≠ 6) :
    PO R N h p l A cp es (aTg ts 45 way g t q) 100 (mx_G (d + 26) 176 0 [some (.ref o), some (.ref p), some (.int (atE way)), some gv] [] h) := by
  obtain ⟨to, lo, o0, o1, o2, o3, o4⟩ := OC_f O
  have tp := (PC_f D.1).1
  have hgv : mx_isr gv = true := by rw [hvn]; rfl
  have Fi := F.fvi
  unfold aTg
  by_cases w6 : way < 6
  · rw [if_pos w6]
    unfold OFv at F
    rw [if_pos (by omega)] at F
    rw [F] at o2
    have ea : atE way = nI (way - 1) := by unfold atE; rw [if_neg (by omega), if_pos w6]
    rw [ea]
    have n5 : ∀ k : Nat, 5 ≤ k → k < 8 → ¬ nI (way - 1) = nI k := fun k h1 h2 z => by have := (nI_eq (by omega) (by omega)).mp z; omega
    have II := ja_isIf (d := d + 25) (h := h) (nI (way - 1)) (n5 6 (by decide) (by decide)) (n5 7 (by decide) (by decide))
    have q5 : ¬ nI (way - 1) = 5 := n5 5 (by decide) (by decide)
    have P := jo_plain (d := d + 15) (n := n) (t := t) NBt D O (by decide) w1 (by omega) (fun _ => hvn) (fun z => absurd rfl z)
    refine (PO.pre P (SX.rfl _ _ _) (k1 := 0) (by omega) (fun v h' z => ?_)).mono (by decide)
    simp only [g176_0, g176_1, g176_4, g176_18, g176_19, g176_22, g176_22n, g176_22n, g176_36, g176_37, g176_38, g176_48, g176_49, g176_50, g176_51, g176_52, g176_55, mx_isr_ref, mx_isr_null, mx_wt_nil, mx_wt_1, mx_wt_2, mx_wt_3, Option.bind_some, Option.toList_some, Option.toList_none, List.cons_append, List.nil_append, mx_nl_int, mx_nl_ref, mx_nl_null, mx_nl_none, mx_nb0, mx_nb1, mx_fb0, mx_fb1, mx_cat_int, mx_cat_ref, if_true, if_false, not_true_eq_false, not_false_eq_true, mx_wt_4, mx_w4_0, mx_w9_0, mx_w9_1, mx_kn_int, mx_kn_ref, mx_kn_null, Nat.reduceLT, ofn, n10, II, to, lo, o2, q5, tp, hgv, z]
  · rw [if_neg w6, if_neg hw6]
    obtain ⟨ea, eg⟩ := ha (by omega)
    subst eg
    subst ea
    have hw : way = 7 ∨ way = 8 ∨ way = 9 ∨ way = 10 ∨ way = 11 := by omega
    rcases hw with rfl | rfl | rfl | rfl | rfl
    · rw [if_pos (by decide)]
      rw [if_pos (by decide)] at Fi
      exact jo_targetP (d := d) (n := n) (part := 1) NBt hq D h4 O (by decide) (Or.inl rfl) Fi hgv (fun _ => hvn) (fun z => absurd rfl z)
    · rw [if_pos (by decide)]
      rw [if_pos (by decide)] at Fi
      exact jo_targetP (d := d) (n := n) (part := 2) NBt hq D h4 O (by decide) (Or.inr rfl) Fi hgv (fun _ => hvn) (fun z => absurd rfl z)
    · rw [if_neg (by decide)]
      rw [if_neg (by decide)] at Fi
      unfold OFv at F
      rw [if_neg (by decide)] at F
      obtain ⟨f, cs, rfl, -⟩ := F
      exact jo_targetI (d := d) (n := n) hq D h4 O (by decide) Fi hgv hgv (fun z => absurd rfl z)
    · rw [if_neg (by decide)]
      rw [if_neg (by decide)] at Fi
      exact jo_targetP (d := d) (n := n) (part := 1) NBt hq D h4 O (by decide) (Or.inl rfl) Fi hgv (fun _ => hvn) (fun z => absurd rfl z)
    · rw [if_neg (by decide)]
      rw [if_neg (by decide)] at Fi
      exact jo_targetP (d := d) (n := n) (part := 2) NBt hq D h4 O (by decide) (Or.inr rfl) Fi hgv (fun _ => hvn) (fun z => absurd rfl z)
end
