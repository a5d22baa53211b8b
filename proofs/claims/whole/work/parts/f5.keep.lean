/-! keepOnePrimary, finish. -/
theorem mid_set {a c : List itf} (hl : a.length = c.length) {i : Nat} (hi : i < c.length) : (a.take i ++ c.drop i).set i (xG a i) = a.take (i + 1) ++ c.drop (i + 1) := by
  have e1 : (a.take i).length = i := by rw [List.length_take]; omega
  have e2 : a.take (i + 1) = a.take i ++ [xG a i] := by
    rw [List.take_add_one]
    unfold xG
    simp [List.getD_eq_getElem?_getD, show i < a.length by omega]
  rw [drop_xG hi, e2, List.append_assoc]
  have := set_md2 (xG c i) (xG a i) (c.drop (i + 1)) (a.take i)
  rw [e1] at this
  exact this
theorem mid_G {a c : List itf} (hl : a.length = c.length) {i : Nat} (hi : i < c.length) : xG (a.take i ++ c.drop i) i = xG c i := by
  have e1 : (a.take i).length = i := by rw [List.length_take]; omega
  rw [drop_xG hi]
  have := xG_mid (xG c i) (c.drop (i + 1)) (a.take i)
  rw [e1] at this
  exact this
theorem mid_len {a c : List itf} (hl : a.length = c.length) (i : Nat) : (a.take i ++ c.drop i).length = c.length := by
  rw [List.length_append, List.length_take, List.length_drop]
  omega
theorem kp_len (m : List itf) : (kp m).length = m.length := by
  have := congrArg List.length (kp_map m)
  simpa using this
theorem kp_G (m : List itf) {i : Nat} (hi : i < m.length) : iG (kp m) i = match m.findIdx? (fun x => x.2) with | none => (xG m i).1 | some k => if i = k then (xG m i).1 else kpA (xG m i) := by
  unfold kp
  rw [kp1_L]
  cases m.findIdx? (fun x => x.2) with
  | none => exact xG_1 m i
  | some k => exact kpL_G m k i hi
theorem fxk_0 (m : List itf) : fxk m 0 = match m.findIdx? (fun x => x.2) with | none => -1 | some k => nI k := by
  unfold fxk fxN
  rw [List.drop_zero]
  cases m.findIdx? (fun x => x.2) with
  | none => rfl
  | some k => show nI (0 + k) = nI k; rw [Nat.zero_add]
theorem fxk_end {m : List itf} {k : Nat} (h : m.length ≤ k) : fxk m k = -1 := by
  unfold fxk fxN
  rw [List.drop_of_length_le h]
  rfl
section
variable {d : Nat} {h : mx_H} {R : List Nat} {N p l A cp : Nat} {es : List Nat} {q : prs} {m : List itf} {b : List Bool}
theorem jv_mkB {h : mx_H} (hl : 63 ≤ h.length) (b : Bool) : ∃ h', mx_G (d + 1) 114 0 [some (.ref h.length), some (.int (if b = true then 1 else 0))] [] (h ++ [(.inl 4, [.int 0, .int 0, .null, .null])]) = some (none, h') ∧ h'[h.length]? = some (.inl 4, [.int 0, .int (if b = true then 1 else 0), .ref 11, .null]) ∧ Fr [] h h' ∧ mw h' = mw h + 16 ∧ h'.length = h.length + 1 := by
  have e : (h ++ [((.inl 4 : Nat ⊕ FieldType), [Value.int 0, .int 0, .null, .null])])[h.length]? = some (.inl 4, [.int 0, .int 0, .null, .null]) := by rw [c_app]
  obtain ⟨n1, n2, n3⟩ := jv_new h.length hl e (.int 0) (.int (if b = true then 1 else 0)) (.ref 11) .null
  refine ⟨_, jv_114 (d := d) hl (ce_t e) b, n1, (Fr.app [] h _).trans n2 (fun a ha => by rw [List.mem_singleton] at ha; exact Or.inr (by omega)), by rw [n3, mw_app]; rfl, by rw [mx_len_up, mx_len_up, mx_len_up, mx_len_up]; simp⟩
theorem jo_kpA (D : DR R N h p l A cp es q m b) {l3 : Option Value} : ∀ k, k ≤ m.length → mx_G (d + 3) 189 12 [some (.ref p), some (.int (fxk m k)), some (.int (nI k + (-1))), l3] [] h = mx_G (d + 3) 189 41 [some (.ref p), some (.int (fxk m 0)), some (.int (-1)), l3] [] h := by
  obtain ⟨tp, lp, p6, -⟩ := PC_f D.1
  have L := D.2.1
  have hl := D.2.2.1.1
  have h1000 := L.2.2.2.1
  have hcp := L.2.2.1
  intro k
  induction k with
  | zero =>
    intro _
    rw [show nI 0 + (-1) = -1 by decide]
    simp only [g189_12, g189_13, mx_isr_ref, mx_isr_null, mx_wt_nil, mx_wt_1, mx_wt_2, mx_wt_3, Option.bind_some, Option.toList_some, Option.toList_none, List.cons_append, List.nil_append, mx_nl_int, mx_nl_ref, mx_nl_null, mx_nl_none, mx_nb0, mx_nb1, mx_fb0, mx_fb1, mx_cat_int, mx_cat_ref, if_true, if_false, not_true_eq_false, not_false_eq_true, mx_wt_4, mx_w4_0, mx_w9_0, mx_w9_1, mx_kn_int, mx_kn_ref, mx_kn_null, Nat.reduceLT, ofn, n10, show (-1 : Int32) < 0 by decide]
  | succ k ih =>
    intro hk
    rw [nI_prd2]
    have G := jl_get (d := d) L (show k < es.length by omega)
    have J := D.2.2.1.2.2 k (by omega)
    obtain ⟨a1, a2, te, le, x0, x1, x2, x3, -⟩ := IC_f J
    have q1 : ¬ nI k < 0 := nI_pos (by omega)
    rw [g189_12]
    rw [fxk_s m k] at ih
    cases hB : (xG m k).2
    · rw [hB] at x3 ih
      have b1 : bI false = 0 := rfl
      rw [b1] at x3
      rw [if_neg (by decide)] at ih
      simp only [g189_13, g189_16, g189_17, g189_20, g189_21, g189_24n, g189_24, g189_27, g189_30, g189_35, g189_38, mx_isr_ref, mx_isr_null, mx_wt_nil, mx_wt_1, mx_wt_2, mx_wt_3, Option.bind_some, Option.toList_some, Option.toList_none, List.cons_append, List.nil_append, mx_nl_int, mx_nl_ref, mx_nl_null, mx_nl_none, mx_nb0, mx_nb1, mx_fb0, mx_fb1, mx_cat_int, mx_cat_ref, if_true, if_false, not_true_eq_false, not_false_eq_true, mx_wt_4, mx_w4_0, mx_w9_0, mx_w9_1, mx_kn_int, mx_kn_ref, mx_kn_null, Nat.reduceLT, ofn, n10, q1, tp, lp, p6, (AL_f L).1, G, te, le, x3]
      exact ih (by omega)
    · rw [hB] at x3 ih
      have b1 : bI true = 1 := rfl
      rw [b1] at x3
      rw [if_pos rfl] at ih
      simp only [g189_13, g189_16, g189_17, g189_20, g189_21, g189_24n, g189_24, g189_27, g189_30, g189_33, g189_34, g189_35, g189_38, mx_isr_ref, mx_isr_null, mx_wt_nil, mx_wt_1, mx_wt_2, mx_wt_3, Option.bind_some, Option.toList_some, Option.toList_none, List.cons_append, List.nil_append, mx_nl_int, mx_nl_ref, mx_nl_null, mx_nl_none, mx_nb0, mx_nb1, mx_fb0, mx_fb1, mx_cat_int, mx_cat_ref, if_true, if_false, not_true_eq_false, not_false_eq_true, mx_wt_4, mx_w4_0, mx_w9_0, mx_w9_1, mx_kn_int, mx_kn_ref, mx_kn_null, Nat.reduceLT, ofn, n10, q1, tp, lp, p6, (AL_f L).1, G, te, le, x3, show ¬ (1 : Int32) = 0 by decide]
      exact ih (by omega)
theorem jo_kpB (m : List itf) : ∀ n i (h : mx_H) (l3 : Option Value), n + i = m.length → DR R N h p l A cp es q ((mrk (kp m)).take i ++ m.drop i) b →
    ∃ h', mx_G (d + 3) 189 43 [some (.ref p), some (.int (fxk m 0)), some (.int (nI i)), l3] [] h = some (none, h') ∧ DR R N h' p l A cp es q (mrk (kp m)) b ∧ SX N (dM p l A es R) h (dM p l A es R) h' ∧ mw h' ≤ mw h + 16 * n := by
  have kl : (mrk (kp m)).length = m.length := by rw [mrk_len, kp_len]
  intro n
  induction n with
  | zero =>
    intro i h l3 hi D
    have : i = m.length := by omega
    subst this
    have L := D.2.1
    have hl := D.2.2.1.1
    rw [mid_len kl] at hl
    have h1000 := L.2.2.2.1
    have hcp := L.2.2.1
    obtain ⟨tp, lp, p6, -⟩ := PC_f D.1
    have sz := jl_size (d := d + 2) L
    rw [hl] at sz
    have e1 : (mrk (kp m)).take m.length ++ m.drop m.length = mrk (kp m) := by rw [List.drop_length, List.append_nil, List.take_of_length_le (by omega)]
    rw [e1] at D
    refine ⟨h, ?_, D, SX.rfl _ _ _, by omega⟩
    simp only [g189_43, g189_44, g189_45, g189_48, g189_51, g189_106, mx_isr_ref, mx_isr_null, mx_wt_nil, mx_wt_1, mx_wt_2, mx_wt_3, Option.bind_some, Option.toList_some, Option.toList_none, List.cons_append, List.nil_append, mx_nl_int, mx_nl_ref, mx_nl_null, mx_nl_none, mx_nb0, mx_nb1, mx_fb0, mx_fb1, mx_cat_int, mx_cat_ref, if_true, if_false, not_true_eq_false, not_false_eq_true, mx_wt_4, mx_w4_0, mx_w9_0, mx_w9_1, mx_kn_int, mx_kn_ref, mx_kn_null, Nat.reduceLT, ofn, n10, tp, lp, p6, (AL_f L).1, sz, show nI m.length ≤ nI m.length from nI_le (Nat.le_refl _) (by omega)]
  | succ n ih =>
    intro i h l3 hi D
    have hil : i < m.length := by omega
    have L := D.2.1
    have hl := D.2.2.1.1
    have hbl := D.2.2.1.2.1
    rw [mid_len kl] at hl hbl
    have h1000 := L.2.2.2.1
    have hcp := L.2.2.1
    obtain ⟨tp, lp, p6, -⟩ := PC_f D.1
    have sz := jl_size (d := d + 2) L
    rw [hl] at sz
    have c1 : ¬ nI m.length ≤ nI i := nI_ge hil (by omega)
    have G := jl_get (d := d) L (show i < es.length by omega)
    have J := D.2.2.1.2.2 i (by rw [mid_len kl]; exact hil)
    rw [mid_G kl hil] at J
    have hm : es.getD i 0 ∈ es := gd_mem' (by omega)
    have hne := D.ne hm
    have te := J.tag.1
    have h63' : 63 ≤ es.getD i 0 := by have := D.2.2.2.2.1; omega
    have h63 : mt_nO ≤ es.getD i 0 := by rw [show mt_nO = 63 by decide]; exact h63'
    obtain ⟨a1, a2, e1, q1, q2⟩ := id J
    generalize hh : mx_up h (es.getD i 0) 3 (.int 0) = h1
    have F1 : Fr [es.getD i 0] h h1 := by rw [← hh]; exact Fr.up (by simp)
    have E1 : Ex (dM p l A es R) h (dM p l A es R) h1 := by rw [← hh]; exact Ex.up1 (dM_e hm)
    have J1 : IC (dM p l A es R) h1 (es.getD i 0) (some (xG m i).1.1) (xG m i).1.2 (bI (b.getD i false)) (bI false) := ⟨a1, a2, by rw [← hh, c_up e1]; rfl, q1.ex E1, q2.ex E1⟩
    have w1 : mw h1 = mw h := by rw [← hh, mw_up]
    have pr := ji_prim (d := d + 2) J1
    have te1 := J1.tag.1
    -- the item as it is, or without its p true
    have go : ∀ (h2 : mx_H) (F : List Nat) (y : itm), Fr F h h2 → (∀ a ∈ F, a = es.getD i 0 ∨ h.length ≤ a) → IC (dM p l A es R) h2 (es.getD i 0) (some y.1) y.2 (bI (b.getD i false)) (bI false) → iG (kp m) i = y → mw h2 ≤ mw h + 16 → mx_G (d + 3) 189 43 [some (.ref p), some (.int (fxk m 0)), some (.int (nI i)), l3] [] h = mx_G (d + 3) 189 100 [some (.ref p), some (.int (fxk m 0)), some (.int (nI i)), some (.ref (es.getD i 0))] [] h2 →
        ∃ h', mx_G (d + 3) 189 43 [some (.ref p), some (.int (fxk m 0)), some (.int (nI i)), l3] [] h = some (none, h') ∧ DR R N h' p l A cp es q (mrk (kp m)) b ∧ SX N (dM p l A es R) h (dM p l A es R) h' ∧ mw h' ≤ mw h + 16 * (n + 1) := by
      intro h2 F y f hF J2 hy hw hG
      obtain ⟨D2, S2⟩ := D.item (i := i) (by rw [mid_len kl]; exact hil) f hF (y := (y, false)) (c := b.getD i false) J2
      rw [bset_self (by omega)] at D2
      have ey : (y, false) = xG (mrk (kp m)) i := by rw [xG_mrk, hy]
      rw [ey, mid_set kl hil] at D2
      obtain ⟨h', i1, i2, i3, i4⟩ := ih (i + 1) h2 (some (.ref (es.getD i 0))) (by omega) D2
      refine ⟨h', ?_, i2, S2.trans i3, by omega⟩
      rw [hG]
      simp only [g189_100, g189_103, mx_isr_ref, mx_isr_null, mx_wt_nil, mx_wt_1, mx_wt_2, mx_wt_3, Option.bind_some, Option.toList_some, Option.toList_none, List.cons_append, List.nil_append, mx_nl_int, mx_nl_ref, mx_nl_null, mx_nl_none, mx_nb0, mx_nb1, mx_fb0, mx_fb1, mx_cat_int, mx_cat_ref, if_true, if_false, not_true_eq_false, not_false_eq_true, mx_wt_4, mx_w4_0, mx_w9_0, mx_w9_1, mx_kn_int, mx_kn_ref, mx_kn_null, Nat.reduceLT, ofn, n10, nI_1]
      exact i1
    have kg := kp_G m hil
    have hf0 := fxk_0 m
    have keep : iG (kp m) i = (xG m i).1 → mx_G (d + 3) 189 43 [some (.ref p), some (.int (fxk m 0)), some (.int (nI i)), l3] [] h = mx_G (d + 3) 189 100 [some (.ref p), some (.int (fxk m 0)), some (.int (nI i)), some (.ref (es.getD i 0))] [] h1 → _ := fun e1 e2 => go h1 _ _ F1 (fun a ha => Or.inl (List.mem_singleton.mp ha)) J1 e1 (by omega) e2
    have nb0' : narrow .boolean (.int 0) = .int 0 ∧ fits .boolean (.int 0) = true := bI_ok false
    cases hI : m.findIdx? (fun x => x.2) with
    | none =>
      rw [hI] at kg hf0
      simp only at kg hf0
      refine keep kg ?_
      rw [hf0, g189_43]
      simp only [g189_44, g189_45, g189_48, g189_51, g189_54, g189_55, g189_58, g189_59, g189_62n, g189_62, g189_65, g189_66, g189_67, g189_68, g189_71, g189_72, g189_73, mx_isr_ref, mx_isr_null, mx_wt_nil, mx_wt_1, mx_wt_2, mx_wt_3, Option.bind_some, Option.toList_some, Option.toList_none, List.cons_append, List.nil_append, mx_nl_int, mx_nl_ref, mx_nl_null, mx_nl_none, mx_nb0, mx_nb1, mx_fb0, mx_fb1, mx_cat_int, mx_cat_ref, if_true, if_false, not_true_eq_false, not_false_eq_true, mx_wt_4, mx_w4_0, mx_w9_0, mx_w9_1, mx_kn_int, mx_kn_ref, mx_kn_null, Nat.reduceLT, ofn, n10, tp, lp, p6, (AL_f L).1, sz, c1, G, te, h63, nb0'.1, nb0'.2, hh]
    | some k =>
      rw [hI] at kg hf0
      simp only at kg hf0
      have hkm : k < m.length := by
        have := List.findIdx?_eq_some_iff_getElem.mp hI
        exact this.1
      have nk : ¬ nI k = -1 := fun z => by
        have := congrArg Int32.toInt z
        rw [nI_toInt (by omega)] at this
        have e : (-1 : Int32).toInt = -1 := rfl
        omega
      by_cases eik : i = k
      · rw [if_pos eik] at kg
        refine keep kg ?_
        rw [hf0, g189_43]
        subst eik
        simp only [g189_44, g189_45, g189_48, g189_51, g189_54, g189_55, g189_58, g189_59, g189_62n, g189_62, g189_65, g189_66, g189_67, g189_68, g189_71, g189_72, g189_73, g189_76, g189_77, g189_78, mx_isr_ref, mx_isr_null, mx_wt_nil, mx_wt_1, mx_wt_2, mx_wt_3, Option.bind_some, Option.toList_some, Option.toList_none, List.cons_append, List.nil_append, mx_nl_int, mx_nl_ref, mx_nl_null, mx_nl_none, mx_nb0, mx_nb1, mx_fb0, mx_fb1, mx_cat_int, mx_cat_ref, if_true, if_false, not_true_eq_false, not_false_eq_true, mx_wt_4, mx_w4_0, mx_w9_0, mx_w9_1, mx_kn_int, mx_kn_ref, mx_kn_null, Nat.reduceLT, ofn, n10, tp, lp, p6, (AL_f L).1, sz, c1, G, te, h63, nb0'.1, nb0'.2, hh, nk]
      · rw [if_neg eik] at kg
        have nik : ¬ nI i = nI k := fun z => eik ((nI_eq (by omega) (by omega)).mp z)
        cases ht : tr1 (xG m i).1.2
        · have e0 : kpA (xG m i) = (xG m i).1 := by unfold kpA; rw [ht]; rfl
          rw [e0] at kg
          rw [ht] at pr
          simp only [Bool.false_eq_true, if_false] at pr
          refine keep kg ?_
          rw [hf0, g189_43]
          simp only [g189_44, g189_45, g189_48, g189_51, g189_54, g189_55, g189_58, g189_59, g189_62n, g189_62, g189_65, g189_66, g189_67, g189_68, g189_71, g189_72, g189_73, g189_76, g189_77, g189_78, g189_81, g189_82, g189_85, mx_isr_ref, mx_isr_null, mx_wt_nil, mx_wt_1, mx_wt_2, mx_wt_3, Option.bind_some, Option.toList_some, Option.toList_none, List.cons_append, List.nil_append, mx_nl_int, mx_nl_ref, mx_nl_null, mx_nl_none, mx_nb0, mx_nb1, mx_fb0, mx_fb1, mx_cat_int, mx_cat_ref, if_true, if_false, not_true_eq_false, not_false_eq_true, mx_wt_4, mx_w4_0, mx_w9_0, mx_w9_1, mx_kn_int, mx_kn_ref, mx_kn_null, Nat.reduceLT, ofn, n10, tp, lp, p6, (AL_f L).1, sz, c1, G, te, h63, nb0'.1, nb0'.2, hh, nk, nik, te1, pr]
        · have e0 : kpA (xG m i) = ((xG m i).1.1, some false) := by unfold kpA; rw [ht]; rfl
          rw [e0] at kg
          rw [ht] at pr
          simp only [if_true] at pr
          have hN := D.2.2.2.2.1
          have l1 : h1.length = h.length := by rw [← hh, mx_len_up]
          obtain ⟨h2, m1, m2, m3, m4, m5⟩ := jv_mkB (d := d + 1) (h := h1) (by omega) false
          have E2 : Ex (dM p l A es R) h1 (dM p l A es R) h2 := Ex.fresh m3 (fun a ha => Or.inl ha)
          have J2 := J1.ex E2 (m3.2 _ J1.tag.2 (by simp))
          have rb := D.rb
          have K2 : KK h2 := (D.2.2.2.2.2.2.fr F1 (by simpa using h63')).fr m3 (by simp)
          have fzN : fz (dM p l A es R) h1.length := ⟨by omega, fun z => by have := (rb _ z).2; omega⟩
          have OVf : OV (dM p l A es R) h2 (.ref h1.length) (vB (some false)) := ⟨h1.length, rfl, ⟨11, m2, fzN, KS.str K2.1 (fun a ha => (rb a ha).1) 2 (by decide)⟩, nb0⟩
          have E3 := Ex.up1 (h := h2) (k := 1) (v := .ref h1.length) (dM_e (p := p) (l := l) (A := A) (R := R) hm)
          obtain ⟨b1, b2, e2, r1, r2⟩ := J2
          have tg1 : mx_tag (h1 ++ [((.inl 4 : Nat ⊕ FieldType), [Value.int 0, .int 0, .null, .null])]) h1.length = some (.inl 4) := by rw [mx_tag_app, if_pos rfl]
          have te2 := ce_t e2
          simp only [Bool.false_eq_true, if_false] at m1
          refine go (mx_up h2 (es.getD i 0) 1 (.ref h1.length)) [es.getD i 0] ((xG m i).1.1, some false) ((F1.trans m3 (by simp)).trans (Fr.up (F := [es.getD i 0]) (by simp)) (fun a ha => Or.inl ha)) (fun a ha => Or.inl (List.mem_singleton.mp ha)) ⟨b1, .ref h1.length, by rw [c_up e2]; rfl, r1.ex E3, OVf.ex E3⟩ kg (by rw [mw_up]; omega) ?_
          rw [hf0, g189_43]
          simp only [g189_44, g189_45, g189_48, g189_51, g189_54, g189_55, g189_58, g189_59, g189_62n, g189_62, g189_65, g189_66, g189_67, g189_68, g189_71, g189_72, g189_73, g189_76, g189_77, g189_78, g189_81, g189_82, g189_85, g189_88, g189_89, g189_92, g189_93, g189_94, g189_97, mx_isr_ref, mx_isr_null, mx_wt_nil, mx_wt_1, mx_wt_2, mx_wt_3, Option.bind_some, Option.toList_some, Option.toList_none, List.cons_append, List.nil_append, mx_nl_int, mx_nl_ref, mx_nl_null, mx_nl_none, mx_nb0, mx_nb1, mx_fb0, mx_fb1, mx_cat_int, mx_cat_ref, if_true, if_false, not_true_eq_false, not_false_eq_true, mx_wt_4, mx_w4_0, mx_w9_0, mx_w9_1, mx_kn_int, mx_kn_ref, mx_kn_null, Nat.reduceLT, ofn, n10, tp, lp, p6, (AL_f L).1, sz, c1, G, te, h63, nb0'.1, nb0'.2, hh, nk, nik, te1, pr, show ¬ (1 : Int32) = 0 by decide, tg1, m1, te2]
theorem jo_keep (D : DR R N h p l A cp es q m b) : ∃ h', mx_G (d + 3) 189 0 [some (.ref p), none, none, none] [] h = some (none, h') ∧ DR R N h' p l A cp es q (mrk (kp m)) b ∧ SX N (dM p l A es R) h (dM p l A es R) h' ∧ mw h' ≤ mw h + 16 * m.length := by
  obtain ⟨tp, lp, p6, -⟩ := PC_f D.1
  have L := D.2.1
  have hl := D.2.2.1.1
  have sz := jl_size (d := d + 2) L
  rw [hl] at sz
  have A1 := jo_kpA (d := d) D (l3 := none) m.length (Nat.le_refl _)
  rw [fxk_end (Nat.le_refl _)] at A1
  have e0 : nI m.length - 1 = nI m.length + (-1) := by rw [Int32.sub_eq_add_neg]
  obtain ⟨h', i1, i2⟩ := jo_kpB (d := d) m m.length 0 h none (by omega) (by simpa using D)
  refine ⟨h', ?_, i2⟩
  rw [nI_0] at i1
  simp only [g189_0, g189_1, g189_2, g189_3, g189_6, g189_9, g189_10, g189_11, mx_isr_ref, mx_isr_null, mx_wt_nil, mx_wt_1, mx_wt_2, mx_wt_3, Option.bind_some, Option.toList_some, Option.toList_none, List.cons_append, List.nil_append, mx_nl_int, mx_nl_ref, mx_nl_null, mx_nl_none, mx_nb0, mx_nb1, mx_fb0, mx_fb1, mx_cat_int, mx_cat_ref, if_true, if_false, not_true_eq_false, not_false_eq_true, mx_wt_4, mx_w4_0, mx_w9_0, mx_w9_1, mx_kn_int, mx_kn_ref, mx_kn_null, Nat.reduceLT, ofn, n10, tp, lp, p6, (AL_f L).1, sz, e0]
  rw [A1]
  simp only [g189_41, g189_42, mx_isr_ref, mx_isr_null, mx_wt_nil, mx_wt_1, mx_wt_2, mx_wt_3, Option.bind_some, Option.toList_some, Option.toList_none, List.cons_append, List.nil_append, mx_nl_int, mx_nl_ref, mx_nl_null, mx_nl_none, mx_nb0, mx_nb1, mx_fb0, mx_fb1, mx_cat_int, mx_cat_ref, if_true, if_false, not_true_eq_false, not_false_eq_true, mx_wt_4, mx_w4_0, mx_w9_0, mx_w9_1, mx_kn_int, mx_kn_ref, mx_kn_null, Nat.reduceLT, ofn, n10]
  exact i1
theorem jo_fin (D : DR R N h p l A cp es q m b) : ∃ h', mx_G (d + 7) 188 0 [some (.ref p)] [] h = some (some (.int (Int32.ofInt (fin q m).1)), h') ∧ DR R N h' p l A cp es (sIt q (kp m)) (mrk (kp m)) b ∧ SX N (dM p l A es R) h (dM p l A es R) h' ∧ mw h' ≤ mw h + 16 * m.length := by
  obtain ⟨h', k1, k2, k3, k4⟩ := jo_keep (d := d + 3) D
  have tp := (PC_f D.1).1
  obtain ⟨tp', lp', p6', -⟩ := PC_f k2.1
  have I := k2.2.2.1.its
  rw [mrk_1] at I
  have hl : (kp m).length ≤ 1000 := by
    have h1 := k2.2.1.2.2.1
    have h2 := k2.2.1.2.2.2.1
    have h3 := I.1
    omega
  have T := jp_twins (d := d) tp' lp' p6' k2.2.1 I hl
  refine ⟨h', ?_, k2, k3, k4⟩
  unfold fin
  by_cases c : twn (kp m) = true
  · rw [if_pos c] at T ⊢
    simp only [g188_0, g188_1, g188_4, g188_5, g188_8, g188_11, g188_14, g188_17, g188_18, mx_isr_ref, mx_isr_null, mx_wt_nil, mx_wt_1, mx_wt_2, mx_wt_3, Option.bind_some, Option.toList_some, Option.toList_none, List.cons_append, List.nil_append, mx_nl_int, mx_nl_ref, mx_nl_null, mx_nl_none, mx_nb0, mx_nb1, mx_fb0, mx_fb1, mx_cat_int, mx_cat_ref, if_true, if_false, not_true_eq_false, not_false_eq_true, mx_wt_4, mx_w4_0, mx_w9_0, mx_w9_1, mx_kn_int, mx_kn_ref, mx_kn_null, Nat.reduceLT, ofn, n10, tp, k1, tp', T, show ¬ (1 : Int32) = 0 by decide]
    rfl
  · rw [if_neg c] at T ⊢
    simp only [g188_0, g188_1, g188_4, g188_5, g188_8, g188_11, g188_14, g188_17, g188_18, mx_isr_ref, mx_isr_null, mx_wt_nil, mx_wt_1, mx_wt_2, mx_wt_3, Option.bind_some, Option.toList_some, Option.toList_none, List.cons_append, List.nil_append, mx_nl_int, mx_nl_ref, mx_nl_null, mx_nl_none, mx_nb0, mx_nb1, mx_fb0, mx_fb1, mx_cat_int, mx_cat_ref, if_true, if_false, not_true_eq_false, not_false_eq_true, mx_wt_4, mx_w4_0, mx_w9_0, mx_w9_1, mx_kn_int, mx_kn_ref, mx_kn_null, Nat.reduceLT, ofn, n10, tp, k1, tp', T]
    rfl
end
