/-! Person.copy; applyTo. -/
section
variable {d : Nat} {h : mx_H} {R : List Nat} {N p l A cp : Nat} {es : List Nat} {q : prs} {m : List itf} {b : List Bool}
theorem jo_copyL {pp l0 : Nat} {vs : List Value} (hvl : vs.length = 7) (hv6 : vs.getD 6 .null = .ref l0) (h4 : (pit q).length ≤ 4) : ∀ n i (h : mx_H) (A cp : Nat) (es : List Nat) (l3 : Option Value), n + i = (pit q).length → DR R N h p l A cp es q (mrk ((pit q).take i)) (List.replicate i false) → FL (dM p l A es R) h l0 (pit q) → h[pp]? = some (.inl 7, vs) → fz (dM p l A es R) pp →
    ∃ (h' : mx_H) (A' cp' : Nat) (es' : List Nat), mx_G (d + 8) 174 50 [some (.ref pp), some (.ref p), some (.int (nI i)), l3] [] h = some (some (.ref p), h') ∧ DR R N h' p l A' cp' es' q (mrk (pit q)) (List.replicate (pit q).length false) ∧ SX N (dM p l A es R) h (dM p l A' es' R) h' ∧ mw h' + 6 * cp ≤ mw h + 6 * cp' + 16 * n := by
  intro n
  induction n with
  | zero =>
    intro i h A cp es l3 hi D F ep fp
    have : i = (pit q).length := by omega
    subst this
    rw [List.take_length] at D
    obtain ⟨A0, cp0, es0, L0, I0, -⟩ := F
    have sz := jl_size (d := d + 7) L0
    rw [I0.1] at sz
    have tpp := ce_t ep
    have lpp : mx_ln h pp = 7 := by rw [ce_n ep, hvl]
    have p6 : mx_el h pp 6 = .ref l0 := by rw [ce_e ep, hv6]
    refine ⟨h, A, cp, es, ?_, D, SX.rfl _ _ _, by omega⟩
    simp only [g174_50, g174_51, g174_52, g174_55, g174_58, g174_102, g174_103, mx_isr_ref, mx_isr_null, mx_wt_nil, mx_wt_1, mx_wt_2, mx_wt_3, Option.bind_some, Option.toList_some, Option.toList_none, List.cons_append, List.nil_append, mx_nl_int, mx_nl_ref, mx_nl_null, mx_nl_none, mx_nb0, mx_nb1, mx_fb0, mx_fb1, mx_cat_int, mx_cat_ref, if_true, if_false, not_true_eq_false, not_false_eq_true, mx_wt_4, mx_w4_0, mx_w9_0, mx_w9_1, mx_kn_int, mx_kn_ref, mx_kn_null, Nat.reduceLT, ofn, n10, tpp, lpp, p6, (AL_f L0).1, sz, show nI (pit q).length ≤ nI (pit q).length from nI_le (Nat.le_refl _) (by omega)]
  | succ n ih =>
    intro i h A cp es l3 hi D F ep fp
    have hil : i < (pit q).length := by omega
    obtain ⟨A0, cp0, es0, L0, I0, f1, f2, f3⟩ := id F
    have sz := jl_size (d := d + 7) L0
    rw [I0.1] at sz
    have tpp := ce_t ep
    have lpp : mx_ln h pp = 7 := by rw [ce_n ep, hvl]
    have p6 : mx_el h pp 6 = .ref l0 := by rw [ce_e ep, hv6]
    have c1 : ¬ nI (pit q).length ≤ nI i := nI_ge hil (by omega)
    have hi0 : i < es0.length := by rw [I0.1]; exact hil
    have G := jl_get (d := d + 5) L0 hi0
    obtain ⟨cc, gg, J⟩ := I0.2 i hil
    obtain ⟨a1, a2, te, le, x0, x1, -, -, o1, o2⟩ := IC_f J
    obtain ⟨tp, lp, dp6, -⟩ := PC_f D.1
    have hN := D.2.2.2.2.1
    have hpl := D.pl
    have hml := D.2.2.1.1
    rw [mrk_len, List.length_take] at hml
    -- the new item
    generalize hg1 : h ++ [((.inl 8 : Nat ⊕ FieldType), [Value.null, .null, .int 0, .int 0])] = g1
    have F1 : Fr [] h g1 := by rw [← hg1]; exact Fr.app _ _ _
    have e1 : g1[h.length]? = some (.inl 8, [.null, .null, .int 0, .int 0]) := by rw [← hg1, c_app]
    have wg1 : mw g1 = mw h + 16 := by rw [← hg1, mw_app]; rfl
    have K0 := ji_127 (d := d + 6) (h := g1) (e := h.length) (by omega) (ce_t e1) (a1 := a1) (a2 := a2) o1.isr o2.isr
    generalize hg2 : mx_up (mx_up g1 h.length 0 a1) h.length 1 a2 = g2 at K0
    have F2 : Fr [h.length] g1 g2 := by
      rw [← hg2]
      exact (Fr.up (by simp)).trans (Fr.up (F := [h.length]) (by simp)) (fun a ha => Or.inl ha)
    have e2 : g2[h.length]? = some (.inl 8, [a1, a2, .int 0, .int 0]) := by rw [← hg2, c_up (c_up e1)]; rfl
    have wg2 : mw g2 = mw h + 16 := by rw [← hg2, mw_up, mw_up]; exact wg1
    have F02 : Fr [] h g2 := F1.trans F2 (fun a ha => by rw [List.mem_singleton] at ha; exact Or.inr (by omega))
    obtain ⟨D2, S2⟩ := D.new F02
    have L2 := D2.2.1
    have hE : ∀ e ∈ es, elt g2 e := fun e he => Or.inr (D2.ne he).2.2.2.2.1
    obtain ⟨h4', A', cp', j1, j2, j3, j4, j5, j6⟩ := jl_add (d := d) L2 (by omega) hE (show elt g2 h.length from Or.inr (ce_t e2))
    have hn3 : h.length ∉ fA l A := fun z => by rcases fA_mem z with y | y <;> omega
    have F04 : Fr (fA l A) h h4' := (F02.mono (F' := fA l A) (by simp)).trans j3 (fun a ha => Or.inl ha)
    have hA' : A' = A ∨ h.length ≤ A' := j4.elim Or.inl (fun z => Or.inr (by have := F02.1; omega))
    -- what stands fast on the way
    have S04 : SX N (dM p l A es R) h (dM p l A' (es ++ [h.length]) R) h4' := SX.of F04 hN.2.2.2.2.2 (fun a ha => by
      rcases fA_mem ha with z | z
      · rw [z]; exact Or.inl ⟨hN.2.2.1, dM_l⟩
      · rw [z.1]; exact Or.inl ⟨by omega, dM_A z.2⟩) (fun a ha => by
      rcases dM_mem ha with z | z | z | z | z
      · rw [z]; exact Or.inl dM_p
      · rw [z]; exact Or.inl dM_l
      · rcases hA' with w | w
        · rw [z.1, w]; exact Or.inl (dM_A (by rw [← w]; exact z.2))
        · rw [z.1]; exact Or.inr w
      · rcases List.mem_append.mp z with w | w
        · exact Or.inl (dM_e w)
        · rw [List.mem_singleton] at w; rw [w]; exact Or.inr (Nat.le_refl _)
      · exact Or.inl (dM_R z))
    have J4 : IC (dM p l A' (es ++ [h.length]) R) h4' h.length (some (iG (pit q) i).1) (iG (pit q) i).2 (bI false) (bI false) := ⟨a1, a2, by rw [j3.2 _ (ce_l e2) hn3]; exact e2, o1.ex S04.2, o2.ex S04.2⟩
    obtain ⟨D4, S4⟩ := D.add (Nat.le_refl _) F04 hA' j5 j2 (y := (iG (pit q) i, false)) (c := false) J4
    have em : mrk ((pit q).take i) ++ [(iG (pit q) i, false)] = mrk ((pit q).take (i + 1)) := by
      have e1 : (pit q).take (i + 1) = (pit q).take i ++ [iG (pit q) i] := by
        rw [List.take_add_one]
        unfold iG
        simp [List.getD_eq_getElem?_getD, hil]
      rw [e1]
      unfold mrk
      rw [List.map_append]
      rfl
    have eb : List.replicate i false ++ [false] = List.replicate (i + 1) false := by rw [List.replicate_succ']
    rw [em, eb] at D4
    obtain ⟨h', A2, cp2, es2, i1, i2, i3, i4⟩ := ih (i + 1) h4' A' cp' (es ++ [h.length]) (some (.ref (es0.getD i 0))) (by omega) D4 (F.ex S4.2) (S4.2.at ep fp).1 (S4.2.at ep fp).2
    refine ⟨h', A2, cp2, es2, ?_, i2, S4.trans i3, by omega⟩
    rw [g174_50]
    have te1 : mx_tag g1 (es0.getD i 0) = some (.inl 8) ∧ mx_ln g1 (es0.getD i 0) = 4 ∧ mx_el g1 (es0.getD i 0) 0 = a1 ∧ mx_el g1 (es0.getD i 0) 1 = a2 := by
      have ne : es0.getD i 0 ≠ h.length := by have := J.tag.2; omega
      rw [← hg1]
      exact ⟨by rw [mx_tag_app, if_neg ne]; exact te, by rw [mx_ln_app, if_neg ne]; exact le, by rw [mx_el_app, if_neg ne]; exact x0, by rw [mx_el_app, if_neg ne]; exact x1⟩
    have t8 : mx_tag g1 h.length = some (.inl 8) := ce_t e1
    have tl2 : mx_tag g2 l = some (.inl 3) := (AL_f L2).1
    simp only [g174_51, g174_52, g174_55, g174_58, g174_61, g174_62, g174_65, g174_66, g174_69n, g174_69, g174_72, g174_73, g174_74, g174_77, g174_80, g174_81, g174_82, g174_85, g174_86, g174_89, g174_92, g174_95, g174_96, g174_99, mx_isr_ref, mx_isr_null, mx_wt_nil, mx_wt_1, mx_wt_2, mx_wt_3, Option.bind_some, Option.toList_some, Option.toList_none, List.cons_append, List.nil_append, mx_nl_int, mx_nl_ref, mx_nl_null, mx_nl_none, mx_nb0, mx_nb1, mx_fb0, mx_fb1, mx_cat_int, mx_cat_ref, if_true, if_false, not_true_eq_false, not_false_eq_true, mx_wt_4, mx_w4_0, mx_w9_0, mx_w9_1, mx_kn_int, mx_kn_ref, mx_kn_null, Nat.reduceLT, ofn, n10, tpp, lpp, p6, (AL_f L0).1, sz, c1, G, te, tp, lp, dp6, hg1, t8, te1.1, te1.2.1, te1.2.2.1, te1.2.2.2, isr_kn o1.isr, isr_kn o2.isr, o1.isr, o2.isr, K0, tl2, j1, nI_1]
    exact i1
theorem jo_copy {pp : Nat} (K : KK h) (hl : 102 ≤ h.length) (rR : RB R h) (hq : okP q) (C : PP R h pp q) (fpp : fz R pp) :
    ∃ (h' : mx_H) (l A cp : Nat) (es : List Nat), mx_G (d + 8) 174 0 [some (.ref pp), none, none, none] [] h = some (some (.ref h.length), h') ∧ DR R h.length h' h.length l A cp es q (mrk (pit q)) (List.replicate (pit q).length false) ∧ FrN h.length h h' ∧ Ex R h (dM h.length l A es R) h' ∧ mw h' ≤ mw h + 6 * cp + 98 := by
  obtain ⟨l0, C, F⟩ := C
  obtain ⟨i, v, n, f, a, o, e1, V1, V2, O2, O3, O4, O5⟩ := C
  have tp := ce_t e1
  have lp : mx_ln h pp = 7 := by rw [ce_n e1]; rfl
  have ppl := ce_l e1
  generalize hg0 : h ++ [((.inl 7 : Nat ⊕ FieldType), [Value.null, .null, .null, .null, .null, .null, .null])] = g0
  have l0' : g0.length = h.length + 1 := by rw [← hg0]; simp
  have F0 : Fr [] h g0 := by rw [← hg0]; exact Fr.app _ _ _
  have e0 : g0[h.length]? = some (.inl 7, [.null, .null, .null, .null, .null, .null, .null]) := by rw [← hg0, c_app]
  have w0 : mw g0 = mw h + 19 := by rw [← hg0, mw_app]; rfl
  obtain ⟨g1, c1, c2, c3, c4, c5⟩ := jl_new (d := d + 3) (K.fr F0 (by simp)) (show 102 ≤ g0.length by omega)
  have e1' : g1[h.length]? = some (.inl 7, [.null, .null, .null, .null, .null, .null, .null]) := c3.at e0 (by simp)
  have hn : mt_nO ≤ h.length := by rw [show mt_nO = 63 by decide]; omega
  generalize hg2 : mx_up (mx_up (mx_up g1 h.length 6 (.ref g0.length)) h.length 0 (.ref i)) h.length 1 (.ref v) = g2
  have e2 : g2[h.length]? = some (.inl 7, [.ref i, .ref v, .null, .null, .null, .null, .ref g0.length]) := by rw [← hg2, c_up (c_up (c_up e1'))]; rfl
  have F12 : Fr [h.length] g1 g2 := by
    rw [← hg2]
    exact ((Fr.up (by simp)).trans (Fr.up (F := [h.length]) (by simp)) (fun a ha => Or.inl ha)).trans (Fr.up (F := [h.length]) (by simp)) (fun a ha => Or.inl ha)
  generalize hg3 : mx_up (mx_up (mx_up (mx_up g2 h.length 2 n) h.length 3 f) h.length 4 a) h.length 5 o = g3
  have e3 : g3[h.length]? = some (.inl 7, [.ref i, .ref v, n, f, a, o, .ref g0.length]) := by rw [← hg3, c_up (c_up (c_up (c_up e2)))]; rfl
  have F23 : Fr [h.length] g2 g3 := by
    rw [← hg3]
    exact (((Fr.up (by simp)).trans (Fr.up (F := [h.length]) (by simp)) (fun a ha => Or.inl ha)).trans (Fr.up (F := [h.length]) (by simp)) (fun a ha => Or.inl ha)).trans (Fr.up (F := [h.length]) (by simp)) (fun a ha => Or.inl ha)
  have F13 : Fr [h.length] g1 g3 := F12.trans F23 (fun a ha => Or.inl ha)
  have F3 : Fr [] h g3 := (F0.trans c3 (fun a ha => absurd ha (by simp))).trans F13 (fun a ha => by rw [List.mem_singleton] at ha; exact Or.inr (by omega))
  have w3 : mw g3 = mw h + 34 := by rw [← hg3, mw_up, mw_up, mw_up, mw_up, ← hg2, mw_up, mw_up, mw_up]; omega
  have E : Ex R h (dM h.length g0.length 2 [] R) g3 := Ex.fresh F3 (fun b hb => by
    rcases dM_mem hb with z | z | z | z | z
    · exact Or.inr (by omega)
    · exact Or.inr (by omega)
    · exact absurd rfl z.2
    · cases z
    · exact Or.inl z)
  have D3 : DR R h.length g3 h.length g0.length 2 0 [] q (mrk ((pit q).take 0)) (List.replicate 0 false) := by
    refine ⟨⟨i, v, n, f, a, o, e3, V1.ex E, V2.ex E, O2.ex E, O3.ex E, O4.ex E, O5.ex E⟩, AL_fr c2 F13 (by rw [List.mem_singleton]; omega) (by rw [List.mem_singleton]; omega), ⟨rfl, rfl, fun k hk => (by cases hk)⟩, List.nodup_nil, ⟨hl, Nat.le_refl _, by omega, Or.inl rfl, fun e he => (by cases he), F3.1⟩, rR, K.fr F3 (by simp)⟩
  have FL3 := F.ex E
  have ep3 := (E.at e1 fpp)
  obtain ⟨h', A, cp, es, k1, k2, k3, k4⟩ := jo_copyL (d := d) (pp := pp) (l0 := l0) (vs := [.ref i, .ref v, n, f, a, o, .ref l0]) rfl rfl hq.it (pit q).length 0 g3 2 0 [] none (by omega) D3 FL3 ep3.1 ep3.2
  refine ⟨h', g0.length, A, cp, es, ?_, k2, ?_, E.trans k3.2, by have := hq.it; omega⟩
  · have tc : mx_tag (g0 ++ [((.inl 3 : Nat ⊕ FieldType), [Value.null, .int 0, .int 0])]) g0.length = some (.inl 3) := by rw [mx_tag_app, if_pos rfl]
    have k120 : mx_G (d + 7) 120 0 [some (.ref h.length), some (.ref i), some (.ref v)] [] g0 = some (none, g2) := by
      simp only [g120_0, g120_1, g120_4, g120_5, g120_8, g120_9, g120_12, g120_15, g120_16, g120_17, g120_20, g120_21, g120_22, g120_25, mx_isr_ref, mx_isr_null, mx_wt_nil, mx_wt_1, mx_wt_2, mx_wt_3, Option.bind_some, Option.toList_some, Option.toList_none, List.cons_append, List.nil_append, mx_nl_int, mx_nl_ref, mx_nl_null, mx_nl_none, mx_nb0, mx_nb1, mx_fb0, mx_fb1, mx_cat_int, mx_cat_ref, if_true, if_false, not_true_eq_false, not_false_eq_true, mx_wt_4, mx_w4_0, mx_w9_0, mx_w9_1, mx_kn_int, mx_kn_ref, mx_kn_null, Nat.reduceLT, ofn, n10, tc, c1, ce_t e1', hn, mx_tag_up, hg2]
    have ne : pp ≠ h.length := by omega
    have c0 : g0[pp]? = some (.inl 7, [.ref i, .ref v, n, f, a, o, .ref l0]) := F0.at e1 (by simp)
    have cg2 : g2[pp]? = some (.inl 7, [.ref i, .ref v, n, f, a, o, .ref l0]) := F12.at (c3.at c0 (by simp)) (by rw [List.mem_singleton]; exact ne)
    have u0 : mx_tag g0 pp = some (.inl 7) ∧ mx_ln g0 pp = 7 ∧ mx_el g0 pp 0 = .ref i ∧ mx_el g0 pp 1 = .ref v := ⟨ce_t c0, by rw [ce_n c0]; rfl, by rw [ce_e c0]; rfl, by rw [ce_e c0]; rfl⟩
    have u2 : mx_tag g2 pp = some (.inl 7) ∧ mx_ln g2 pp = 7 := ⟨ce_t cg2, by rw [ce_n cg2]; rfl⟩
    have ug : ∀ k, mx_el g2 pp k = [Value.ref i, .ref v, n, f, a, o, .ref l0].getD k .null := fun k => by rw [ce_e cg2]
    have ne' : ∀ (g : mx_H) (j k : Nat) (w : Value), mx_el (mx_up g h.length j w) pp k = mx_el g pp k := fun g j k w => by rw [mx_el_up, if_neg (fun z => ne z.1)]
    have y2 : mx_el g2 pp 2 = n := by rw [ug]; rfl
    have y3 : mx_el g2 pp 3 = f := by rw [ug]; rfl
    have y4 : mx_el g2 pp 4 = a := by rw [ug]; rfl
    have y5 : mx_el g2 pp 5 = o := by rw [ug]; rfl
    rw [nI_0] at k1
    simp only [g174_0, g174_3, g174_4, g174_5, g174_8, g174_9, g174_12, g174_15, g174_16, g174_17, g174_18, g174_21, g174_24, g174_25, g174_26, g174_29, g174_32, g174_33, g174_34, g174_37, g174_40, g174_41, g174_42, g174_45, g174_48, g174_49, mx_isr_ref, mx_isr_null, mx_wt_nil, mx_wt_1, mx_wt_2, mx_wt_3, Option.bind_some, Option.toList_some, Option.toList_none, List.cons_append, List.nil_append, mx_nl_int, mx_nl_ref, mx_nl_null, mx_nl_none, mx_nb0, mx_nb1, mx_fb0, mx_fb1, mx_cat_int, mx_cat_ref, if_true, if_false, not_true_eq_false, not_false_eq_true, mx_wt_4, mx_w4_0, mx_w9_0, mx_w9_1, mx_kn_int, mx_kn_ref, mx_kn_null, Nat.reduceLT, ofn, n10, hg0, ce_t e0, u0.1, u0.2.1, u0.2.2.1, u0.2.2.2, k120, u2.1, u2.2, mx_tag_up, mx_ln_up, ne', y2, y3, y4, y5, isr_kn O2.isr, isr_kn O3.isr, isr_kn O4.isr, isr_kn O5.isr, O2.isr, O3.isr, O4.isr, O5.isr, ce_t e2, hn, hg3]
    exact k1
  · have := k3.1
    exact ⟨Nat.le_trans F3.1 this.1, fun b hb => (this.2 b hb).trans (F3.2 b hb (by simp))⟩
theorem jo_mail45 {ts : List tk} {t o : Nat} {at_ : Int32} {fv vv nx gv : Value} (D : DR R N h p l A cp es q (mrk (pit q)) b) (O : OC (dM p l A es R) h o (nI 45) at_ fv vv nx) (hgv : mx_isr gv = true) : PO R N h p l A cp es (aMl ts 45 t q) 0 (mx_G (d + 10) 196 0 [some (.ref o), some (.ref p), some gv, none, none] [] h) := by
  obtain ⟨to, lo, o0, o1, o2, o3, o4⟩ := OC_f O
  obtain ⟨tp, lp, p6, -⟩ := PC_f D.1
  have L := D.2.1
  unfold aMl
  rw [if_pos rfl]
  obtain ⟨h1, k1, k2, k3, k4⟩ := jl_clear (d := d + 9) L
  obtain ⟨D1, S1⟩ := D.clr k3 k2
  refine PO.ok (h' := h1) (A' := A) (cp' := cp) (es' := []) (b' := []) ?_ D1 S1 (by omega)
  rw [show nI 45 = 45 from rfl] at o0
  simp only [g196_0, g196_1, g196_4, g196_6, g196_9, g196_10, g196_10n, g196_13, g196_14, g196_17, g196_20, g196_21, mx_isr_ref, mx_isr_null, mx_wt_nil, mx_wt_1, mx_wt_2, mx_wt_3, Option.bind_some, Option.toList_some, Option.toList_none, List.cons_append, List.nil_append, mx_nl_int, mx_nl_ref, mx_nl_null, mx_nl_none, mx_nb0, mx_nb1, mx_fb0, mx_fb1, mx_cat_int, mx_cat_ref, if_true, if_false, not_true_eq_false, not_false_eq_true, mx_wt_4, mx_w4_0, mx_w9_0, mx_w9_1, mx_kn_int, mx_kn_ref, mx_kn_null, Nat.reduceLT, ofn, n10, to, lo, o0, tp, lp, p6, (AL_f L).1, k1]
  rfl
end
