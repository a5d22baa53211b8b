/-! Person.from. -/
section
variable {d : Nat} {M : List Nat} {ts : List tk}
theorem jv_mkInt {h : mx_H} (hl : 63 ≤ h.length) (k : Int32) : ∃ h', mx_G (d + 1) 116 0 [some (.ref h.length), some (.int k)] [] (h ++ [(.inl 4, [.int 0, .int 0, .null, .null])]) = some (none, h') ∧ h'[h.length]? = some (.inl 4, [.int 1, .int k, .ref 11, .null]) ∧ Fr [] h h' ∧ mw h' = mw h + 16 ∧ h'.length = h.length + 1 := by
  have e := c_app h ((.inl 4 : Nat ⊕ FieldType), [Value.int 0, .int 0, .null, .null])
  obtain ⟨n1, n2, n3⟩ := jv_new h.length hl e (.int 1) (.int k) (.ref 11) .null
  refine ⟨_, jv_116 hl (ce_t e) k, n1, (Fr.app [] h _).trans n2 (fun a ha => by rw [List.mem_singleton] at ha; exact Or.inr (by omega)), by rw [n3, mw_app]; rfl, by rw [mx_len_up, mx_len_up, mx_len_up, mx_len_up]; simp⟩
def fPl (ts : List tk) (l : List Nat) (p : prs) : Option prs := (fS ts l p).bind fun p => if pnm p = [] then none else some p
theorem jp_fromL {n p v : Nat} {y : Int32} (N : NB ts) (hp63 : 63 ≤ p) : ∀ (l : List Nat) (f : Value) (h : mx_H) (q : prs), KK h → 102 ≤ h.length → RB (p :: M) h → PP (p :: M) h p q → pG (cVl ts n (p :: M) h) ts true (p :: M) h f l .null →
    (∀ q', fPl ts l q = some q' → ∃ h', mx_G (d + 12) 119 29 [some (.ref v), some (.int y), some (.ref p), some f] [] h = some (some (.ref p), h') ∧ PP (p :: M) h' p q' ∧ Fr [p] h h' ∧ mw h' ≤ mw h + 10100 * l.length) ∧
    (fPl ts l q = none → ∃ h', mx_G (d + 12) 119 29 [some (.ref v), some (.int y), some (.ref p), some f] [] h = some (some .null, h') ∧ Fr [p] h h' ∧ mw h' ≤ mw h + 10100 * l.length) := by
  intro l
  induction l with
  | nil =>
    intro f h q K hl rM C G
    rw [show f = .null from G]
    obtain ⟨l, C, L⟩ := C
    obtain ⟨tp, lp, p6, i, v', nn, ff, aa, oo, p0, p1, p2, p3, p4, p5, V1, V2, O2, O3, O4, O5⟩ := PC_f C
    show (∀ q', (if pnm q = [] then none else some q) = some q' → _) ∧ ((if pnm q = [] then none else some q) = none → _)
    by_cases c : pnm q = []
    · rw [if_pos c]
      have e2 : nn = .null := by
        unfold nmO at O2
        rw [if_pos c] at O2
        exact O2
      refine ⟨fun q' hq => (by cases hq), fun _ => ⟨h, ?_, Fr.rfl _ _, by simp⟩⟩
      simp only [g119_29, g119_30, g119_30n, g119_61, g119_62, g119_65, g119_65n, g119_68, g119_69, g119_72, g119_73, mx_isr_ref, mx_isr_null, mx_wt_nil, mx_wt_1, mx_wt_2, mx_wt_3, Option.bind_some, Option.toList_some, Option.toList_none, List.cons_append, List.nil_append, mx_nl_int, mx_nl_ref, mx_nl_null, mx_nl_none, mx_nb0, mx_nb1, mx_fb0, mx_fb1, mx_cat_int, mx_cat_ref, if_true, if_false, not_true_eq_false, not_false_eq_true, mx_wt_4, mx_w4_0, mx_w9_0, mx_w9_1, mx_kn_int, mx_kn_ref, mx_kn_null, Nat.reduceLT, ofn, n10, tp, lp, p2, e2]
    · rw [if_neg c]
      obtain ⟨w, e2, -⟩ : ∃ w : Nat, nn = .ref w ∧ True := by
        unfold nmO at O2
        rw [if_neg c] at O2
        obtain ⟨w, e, -⟩ := O2
        exact ⟨w, e, trivial⟩
      refine ⟨fun q' hq => ?_, fun z => (by cases z)⟩
      cases hq
      refine ⟨h, ?_, ⟨l, C, L⟩, Fr.rfl _ _, by simp⟩
      simp only [g119_29, g119_30, g119_30n, g119_61, g119_62, g119_65, g119_65n, g119_68, g119_69, g119_72, g119_73, mx_isr_ref, mx_isr_null, mx_wt_nil, mx_wt_1, mx_wt_2, mx_wt_3, Option.bind_some, Option.toList_some, Option.toList_none, List.cons_append, List.nil_append, mx_nl_int, mx_nl_ref, mx_nl_null, mx_nl_none, mx_nb0, mx_nb1, mx_fb0, mx_fb1, mx_cat_int, mx_cat_ref, if_true, if_false, not_true_eq_false, not_false_eq_true, mx_wt_4, mx_w4_0, mx_w9_0, mx_w9_1, mx_kn_int, mx_kn_ref, mx_kn_null, Nat.reduceLT, ofn, n10, tp, lp, p2, e2]
  | cons m l ih =>
    rintro f h q K hl rM C ⟨pp, s, w, f', rfl, e2, e3, ⟨b, b1, b2, S⟩, V, G⟩
    have hf' : mx_isr f' = true := pG_isr G rfl
    have tp : mx_tag h pp = some (.inl 6) := ce_t e2
    have lp : mx_ln h pp = 3 := by rw [ce_n e2]; rfl
    have p0 : mx_el h pp 0 = .ref s := by rw [ce_e e2]; rfl
    have p1 : mx_el h pp 1 = .ref w := by rw [ce_e e2]; rfl
    have A := ja_ofP (d := d + 9) K.1 S
    rw [if_pos rfl] at A
    rw [show mv true m = m + 2 from rfl] at V
    obtain ⟨j1, j2⟩ := jp_acc (d := d) N K hl rM hp63 (List.mem_cons_self) C V
    have tP : mx_tag h p = some (.inl 7) := by obtain ⟨l0, C0, -⟩ := C; exact (PC_f C0).1
    have hS : fPl ts (m :: l) q = (fS1 ts m q).bind (fPl ts l) := by
      unfold fPl
      rw [fS_cons]
      cases fS1 ts m q <;> rfl
    rw [hS]
    cases hq : fS1 ts m q with
    | none =>
      obtain ⟨h1, y1, y2, y3⟩ := j2 hq
      refine ⟨fun q' hq' => (by cases hq'), fun _ => ⟨h1, ?_, y2, Nat.le_trans y3 (Nat.add_le_add_left (by rw [List.length_cons, Nat.mul_succ]; exact Nat.le_add_left _ _) _)⟩⟩
      simp only [g119_29, g119_30, g119_30n, g119_33, g119_34, g119_35, g119_38, g119_41, g119_42, g119_45, g119_48, g119_51, g119_52, mx_isr_ref, mx_isr_null, mx_wt_nil, mx_wt_1, mx_wt_2, mx_wt_3, Option.bind_some, Option.toList_some, Option.toList_none, List.cons_append, List.nil_append, mx_nl_int, mx_nl_ref, mx_nl_null, mx_nl_none, mx_nb0, mx_nb1, mx_fb0, mx_fb1, mx_cat_int, mx_cat_ref, if_true, if_false, not_true_eq_false, not_false_eq_true, mx_wt_4, mx_w4_0, mx_w9_0, mx_w9_1, mx_kn_int, mx_kn_ref, mx_kn_null, Nat.reduceLT, ofn, n10, tp, lp, p0, p1, A, tP, y1]
    | some q1 =>
      obtain ⟨h1, y1, y2, y3, y4⟩ := j1 q1 hq
      have E : Ex (p :: M) h (p :: M) h1 := y3.ex (fun a ha y => by rw [List.mem_singleton] at ha; exact y.2 (ha ▸ List.mem_cons_self)) (fun a ha => Or.inl ha)
      have l1 := y3.1
      obtain ⟨i1, i2⟩ := ih f' h1 q1 (K.fr y3 (by simpa using hp63)) (by omega) (rM.le l1) y2 (pG.ex (fun w u => cVl.ex E _ _ _) E _ _ _ G)
      have c1 := (E.at e2 e3).1
      have x2 : mx_el h1 pp 2 = f' := by rw [ce_e c1]; rfl
      have xl : mx_ln h1 pp = 3 := by rw [ce_n c1]; rfl
      have hG : mx_G (d + 12) 119 29 [some (.ref v), some (.int y), some (.ref p), some (.ref pp)] [] h = mx_G (d + 12) 119 29 [some (.ref v), some (.int y), some (.ref p), some f'] [] h1 := by
        rw [g119_29 mx_isr_ref]
        simp only [g119_30, g119_30n, g119_33, g119_34, g119_35, g119_38, g119_41, g119_42, g119_45, g119_48, g119_51, g119_52, g119_53, g119_54, g119_57, g119_58, mx_isr_ref, mx_isr_null, mx_wt_nil, mx_wt_1, mx_wt_2, mx_wt_3, Option.bind_some, Option.toList_some, Option.toList_none, List.cons_append, List.nil_append, mx_nl_int, mx_nl_ref, mx_nl_null, mx_nl_none, mx_nb0, mx_nb1, mx_fb0, mx_fb1, mx_cat_int, mx_cat_ref, if_true, if_false, not_true_eq_false, not_false_eq_true, mx_wt_4, mx_w4_0, mx_w9_0, mx_w9_1, mx_kn_int, mx_kn_ref, mx_kn_null, Nat.reduceLT, ofn, n10, tp, lp, p0, p1, A, tP, y1, ce_t c1, xl, x2, hf', isr_kn hf']
      rw [hG, Option.bind_some]
      refine ⟨fun q' hq' => ?_, fun hq' => ?_⟩
      · obtain ⟨h', z1, z2, z3, z4⟩ := i1 q' hq'
        exact ⟨h', z1, z2, y3.trans z3 (fun a ha => Or.inl ha), by rw [List.length_cons, Nat.mul_succ]; omega⟩
      · obtain ⟨h', z1, z3, z4⟩ := i2 hq'
        exact ⟨h', z1, y3.trans z3 (fun a ha => Or.inl ha), by rw [List.length_cons, Nat.mul_succ]; omega⟩
variable {h : mx_H}
/-- a person with nothing but id and version -/
theorem jp_new (K : KK h) (hl : 102 ≤ h.length) (rM : RB M h) (id : Nat) {v : Nat} {f : Value} {n0 : Int32} {s0 : Nat} {k0 : Int32} (hf : mx_isr f = true) (e : h[v]? = some (.inl 4, [.int k0, .int n0, .ref s0, f])) : ∃ h', mx_G (d + 5) 119 0 [some (.ref v), some (.int (nI id)), none, none] [] h = mx_G (d + 5) 119 29 [some (.ref v), some (.int (nI id)), some (.ref h.length), some f] [] h' ∧ PP (h.length :: M) h' h.length (id, 1, [], none, none, []) ∧ Fr [] h h' ∧ mw h' = mw h + 66 := by
  generalize hg0 : h ++ [((.inl 7 : Nat ⊕ FieldType), [Value.null, .null, .null, .null, .null, .null, .null])] = g0
  have l0 : g0.length = h.length + 1 := by rw [← hg0]; simp
  have F0 : Fr [] h g0 := by rw [← hg0]; exact Fr.app _ _ _
  have e0 : g0[h.length]? = some (.inl 7, [.null, .null, .null, .null, .null, .null, .null]) := by rw [← hg0, c_app]
  have w0 : mw g0 = mw h + 19 := by rw [← hg0, mw_app]; rfl
  obtain ⟨g1, a1, a2, a3, a4, a5⟩ := jv_mkInt (d := d + 3) (h := g0) (by omega) (nI id)
  obtain ⟨g2, b1, b2, b3, b4, b5⟩ := jv_mkInt (d := d + 3) (h := g1) (by omega) 1
  have F2 : Fr [] h g2 := (F0.trans a3 (fun a ha => absurd ha (by simp))).trans b3 (fun a ha => absurd ha (by simp))
  obtain ⟨g3, c1, c2, c3, c4, c5⟩ := jl_new (d := d) (K.fr F2 (by simp)) (show 102 ≤ g2.length by omega)
  have F3 : Fr [] h g3 := F2.trans c3 (fun a ha => absurd ha (by simp))
  have e3 : g3[h.length]? = some (.inl 7, [.null, .null, .null, .null, .null, .null, .null]) := c3.at (b3.at (a3.at e0 (by simp)) (by simp)) (by simp)
  have hn : mt_nO ≤ h.length := by rw [show mt_nO = 63 by decide]; omega
  generalize hg4 : mx_up (mx_up (mx_up g3 h.length 6 (.ref g2.length)) h.length 0 (.ref g0.length)) h.length 1 (.ref g1.length) = g4
  have e4 : g4[h.length]? = some (.inl 7, [.ref g0.length, .ref g1.length, .null, .null, .null, .null, .ref g2.length]) := by rw [← hg4, c_up (c_up (c_up e3))]; rfl
  have F34 : Fr [h.length] g3 g4 := by
    rw [← hg4]
    exact ((Fr.up (by simp)).trans (Fr.up (F := [h.length]) (by simp)) (fun a ha => Or.inl ha)).trans (Fr.up (F := [h.length]) (by simp)) (fun a ha => Or.inl ha)
  have F4 : Fr [] h g4 := F3.trans F34 (fun a ha => by rw [List.mem_singleton] at ha; exact Or.inr (by omega))
  have l4 : g4.length = g3.length := by rw [← hg4, mx_len_up, mx_len_up, mx_len_up]
  have K4 := K.fr F4 (by simp)
  have fzN : ∀ x, h.length < x → fz (h.length :: M) x := fun x hx => ⟨by omega, fun z => by
    rcases List.mem_cons.mp z with y | y
    · omega
    · have := (rM x y).2; omega⟩
  have M63 : ∀ a ∈ h.length :: M, 63 ≤ a := by
    intro a ha
    rcases List.mem_cons.mp ha with rfl | z
    · omega
    · exact (rM _ z).1
  have hne : ∀ x, x ≠ h.length → g4[x]? = g3[x]? := fun x hx => by rw [← hg4, c_upn hx, c_upn hx, c_upn hx]
  have v1 : VP (h.length :: M) g4 g0.length (1, ((id : Nat) : Int), []) := ⟨11, by rw [hne _ (by omega), c3.at (b3.at a2 (by simp)) (by simp), oI_nat]; rfl, fzN _ (by omega), KS.str K4.1 M63 2 (by decide)⟩
  have v2 : VP (h.length :: M) g4 g1.length (1, ((1 : Nat) : Int), []) := ⟨11, by rw [hne _ (by omega), c3.at b2 (by simp), oI_nat]; rfl, fzN _ (by omega), KS.str K4.1 M63 2 (by decide)⟩
  refine ⟨g4, ?_, ⟨g2.length, ⟨g0.length, g1.length, .null, .null, .null, .null, e4, v1, v2, rfl, rfl, rfl, rfl⟩, 2, 0, [], AL_fr c2 F34 (by rw [List.mem_singleton]; omega) (by rw [List.mem_singleton]; omega), ⟨rfl, fun k hk => absurd hk (by simp [pit])⟩, fzN _ (by omega), ?_, fun e he => (by cases he)⟩, F4, ?_⟩
  · have ta : mx_tag (g0 ++ [((.inl 4 : Nat ⊕ FieldType), [Value.int 0, .int 0, .null, .null])]) g0.length = some (.inl 4) := by rw [mx_tag_app, if_pos rfl]
    have tb_ : mx_tag (g1 ++ [((.inl 4 : Nat ⊕ FieldType), [Value.int 0, .int 0, .null, .null])]) g1.length = some (.inl 4) := by rw [mx_tag_app, if_pos rfl]
    have tc : mx_tag (g2 ++ [((.inl 3 : Nat ⊕ FieldType), [Value.null, .int 0, .int 0])]) g2.length = some (.inl 3) := by rw [mx_tag_app, if_pos rfl]
    have k120 : mx_G (d + 4) 120 0 [some (.ref h.length), some (.ref g0.length), some (.ref g1.length)] [] g2 = some (none, g4) := by
      simp only [g120_0, g120_1, g120_4, g120_5, g120_8, g120_9, g120_12, g120_15, g120_16, g120_17, g120_20, g120_21, g120_22, g120_25, mx_isr_ref, mx_isr_null, mx_wt_nil, mx_wt_1, mx_wt_2, mx_wt_3, Option.bind_some, Option.toList_some, Option.toList_none, List.cons_append, List.nil_append, mx_nl_int, mx_nl_ref, mx_nl_null, mx_nl_none, mx_nb0, mx_nb1, mx_fb0, mx_fb1, mx_cat_int, mx_cat_ref, if_true, if_false, not_true_eq_false, not_false_eq_true, mx_wt_4, mx_w4_0, mx_w9_0, mx_w9_1, mx_kn_int, mx_kn_ref, mx_kn_null, Nat.reduceLT, ofn, n10, tc, c1, ce_t e3, hn, mx_tag_up, hg4]
    have e2 : mx_tag g2 h.length = some (.inl 7) := ce_t (b3.at (a3.at e0 (by simp)) (by simp))
    have cv := F4.at e (by simp)
    have x3 : mx_el g4 v 3 = f := by rw [ce_e cv]; rfl
    have xl : mx_ln g4 v = 4 := by rw [ce_n cv]; rfl
    simp only [g119_0, g119_3, g119_4, g119_7, g119_8, g119_9, g119_12, g119_15, g119_16, g119_17, g119_20, g119_23, g119_24, g119_25, g119_28, mx_isr_ref, mx_isr_null, mx_wt_nil, mx_wt_1, mx_wt_2, mx_wt_3, Option.bind_some, Option.toList_some, Option.toList_none, List.cons_append, List.nil_append, mx_nl_int, mx_nl_ref, mx_nl_null, mx_nl_none, mx_nb0, mx_nb1, mx_fb0, mx_fb1, mx_cat_int, mx_cat_ref, if_true, if_false, not_true_eq_false, not_false_eq_true, mx_wt_4, mx_w4_0, mx_w9_0, mx_w9_1, mx_kn_int, mx_kn_ref, mx_kn_null, Nat.reduceLT, ofn, n10, hg0, ta, a1, tb_, b1, e2, k120, ce_t cv, xl, x3, hf, isr_kn hf]
  · exact ⟨by omega, fun z => by have := M63 2 z; omega⟩
  · rw [← hg4, mw_up, mw_up, mw_up]
    omega
theorem jp_from {n v t id : Nat} (N : NB ts) (K : KK h) (hl : 102 ≤ h.length) (rM : RB M h) (V : cVl ts n M h v t) (hI : tI ts t 123 = true) :
    (∀ q, fP ts t id 1 = some q → ∃ h', mx_G (d + 12) 119 0 [some (.ref v), some (.int (nI id)), none, none] [] h = some (some (.ref h.length), h') ∧ PP (h.length :: M) h' h.length q ∧ Fr [] h h' ∧ mw h' ≤ mw h + 66 + 10100 * (kd ts t).length) ∧
    (fP ts t id 1 = none → ∃ h', mx_G (d + 12) 119 0 [some (.ref v), some (.int (nI id)), none, none] [] h = some (some .null, h') ∧ Fr [] h h' ∧ mw h' ≤ mw h + 66 + 10100 * (kd ts t).length) := by
  rcases cVl_c V with ⟨h1, n', -, f, s, a1, a2, a3, a4⟩ | ⟨h0, -⟩ | ⟨-, h0, -⟩
  · have hf : mx_isr f = true := pG_isr a4 rfl
    obtain ⟨h1, b1, b2, b3, b4⟩ := jp_new (d := d + 7) K hl rM id hf a1
    have l1 := b3.1
    have hpl : h.length < h1.length := by obtain ⟨l, ⟨_, _, _, _, _, _, e1, _⟩, _⟩ := b2; exact ce_l e1
    have rM1 : RB (h.length :: M) h1 := fun a ha => by
      rcases List.mem_cons.mp ha with rfl | z
      · exact ⟨by omega, hpl⟩
      · exact (rM.le l1) a z
    have E : Ex M h (h.length :: M) h1 := Ex.fresh b3 (fun a ha => by
      rcases List.mem_cons.mp ha with z | z
      · exact Or.inr (by omega)
      · exact Or.inl z)
    obtain ⟨j1, j2⟩ := jp_fromL (d := d) (M := M) (ts := ts) (n := n') (p := h.length) (v := v) (y := nI id) N (by omega) (kd ts t) f h1 _ (K.fr b3 (by simp)) (by omega) rM1 b2 (pG.ex (fun w u => cVl.ex E _ _ _) E _ _ _ a4)
    rw [b1]
    refine ⟨fun q hq => ?_, fun hq => ?_⟩
    · obtain ⟨h', z1, z2, z3, z4⟩ := j1 q hq
      exact ⟨h', z1, z2, b3.trans z3 (fun a ha => by rw [List.mem_singleton] at ha; exact Or.inr (by omega)), by omega⟩
    · obtain ⟨h', z1, z3, z4⟩ := j2 hq
      exact ⟨h', z1, b3.trans z3 (fun a ha => by rw [List.mem_singleton] at ha; exact Or.inr (by omega)), by omega⟩
  · rw [hI] at h0; cases h0
  · rw [hI] at h0; cases h0
end
