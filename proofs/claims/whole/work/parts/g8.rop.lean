/-! Operation.readValue; one operation is read. -/
def OPX (M : List Nat) (h : mx_H) (ts : List tk) (o : Nat) (r : opr) (nx : Value) : Prop := ∃ fv vv, h[o]? = some (.inl 9, [.int (nI r.1), .int (atE r.2.1), fv, vv, nx]) ∧ OFv M h r.2.1 fv r.2.2.1.2 ∧ r.1 < 128 ∧ r.2.1 ≤ 11 ∧ (r.1 = 45 → vv = .null ∧ r.2.1 ≠ 0) ∧ (r.1 ≠ 45 → ∃ v, vv = .ref v ∧ cVl ts 3 M h v r.2.2.2)
section
variable {d : Nat} {h : mx_H} {x cp c k : Nat} {ts : List tk} {R : List Nat}
theorem jr_value {o : Nat} {a1 : Int32} {fv : Value} (hc : c < 128) (T : BT h x cp ts k) (r : RB (o :: R) h) (o102 : 102 ≤ o) (eo : h[o]? = some (.inl 9, [.int (nI c), .int a1, fv, .null, .null])) (hfv : mx_isr fv = true) :
    (c = 45 → mx_G (d + 20) 173 0 [some (.ref o), some (.ref 64)] [] h = some (some (.int 1), h)) ∧
    (c ≠ 45 → ∀ e, tI ts k 58 = true → pV ts 3 (k + 1) = some e → ∃ (h' : mx_H) (x' cp' v : Nat), mx_G (d + 20) 173 0 [some (.ref o), some (.ref 64)] [] h = some (some (.int 1), h') ∧ BT h' x' cp' ts e ∧ h'[o]? = some (.inl 9, [.int (nI c), .int a1, fv, .ref v, .null]) ∧ cVl ts 3 (x' :: o :: R) h' v (k + 1) ∧ PXo ts o h x cp k h' x' cp' e 0) ∧
    (c ≠ 45 → (tI ts k 58 = false ∨ pV ts 3 (k + 1) = none) → ∃ (h' : mx_H) (x' cp' k' : Nat), mx_G (d + 20) 173 0 [some (.ref o), some (.ref 64)] [] h = some (some (.int 0), h') ∧ BT h' x' cp' ts k' ∧ PXo ts o h x cp k h' x' cp' k' 0) := by
  obtain ⟨t9, l9, e0, e1, e2, e3, e4⟩ := oc_f eo
  have g64 := T.kind.1
  have ox : o ≠ x := T.ne eo (by simp)
  have hn : mt_nO ≤ o := by rw [show mt_nO = 63 by decide]; omega
  have n45 : nI c = 45 ↔ c = 45 := nI_eq (b := 45) (by omega) (by decide)
  refine ⟨fun z => ?_, fun c45 => ?_, fun c45 => ?_⟩
  · simp only [g173_0, g173_1, g173_4, g173_6, g173_9, g173_10, mx_isr_ref, mx_isr_null, mx_wt_nil, mx_wt_1, mx_wt_2, mx_wt_3, Option.bind_some, Option.toList_some, Option.toList_none, List.cons_append, List.nil_append, mx_nl_int, mx_nl_ref, mx_nl_null, mx_nl_none, mx_nb0, mx_nb1, mx_fb0, mx_fb1, mx_cat_int, mx_cat_ref, if_true, if_false, not_true_eq_false, not_false_eq_true, mx_wt_4, mx_w4_0, mx_w9_0, mx_w9_1, mx_kn_int, mx_kn_ref, mx_kn_null, Nat.reduceLT, ofn, n10, t9, l9, e0, n45.mpr z, show ¬ ¬ (45 : Int32) = 45 by decide]
  · intro e d58 hp
    have n : ¬ nI c = 45 := fun z => c45 (n45.mp z)
    obtain ⟨h1, b1, T1, F1, W1⟩ := jt_take (d := d + 18) T (k := 58) (by decide) (by decide)
    rw [show nI 58 = 58 from rfl] at b1
    rw [if_pos d58] at b1 T1
    obtain ⟨Y1, -⟩ := rd_3 (d := d) (ts := ts) h1 x cp (k + 1) (o :: R) T1 (r.le F1.1)
    rw [show nI (3 - 3) = 0 from rfl] at Y1
    obtain ⟨h2, x2, cp2, v, y1, T2, V, hv, P2⟩ := Y1 e hp
    have eo1 := F1.at eo (by simp; omega)
    have eo2 := P2.1.at eo1 (by simp; omega)
    have ox2 : o ≠ x2 := T2.ne eo2 (by simp)
    have P01 : PXo ts o h x cp k h1 x cp (k + 1) 0 := (PXo.rfl ts o h x cp k 0).f64 F1 W1 (by omega)
    have P02 := ((P01.px P2).up 3 (.ref v)).mono (s' := 0) (by omega)
    have eo3 : (mx_up h2 o 3 (.ref v))[o]? = some (.inl 9, [.int (nI c), .int a1, fv, .ref v, .null]) := by rw [c_up eo2]; rfl
    obtain ⟨t93, l93, -, -, -, e33, -⟩ := oc_f eo3
    refine ⟨_, x2, cp2, v, ?_, T2.fr (Fr.up (F := [o]) (by simp)) (by simp; omega), eo3, cVl.ex (Ex.up1 (by simp)) _ _ _ V, P02⟩
    simp only [g173_0, g173_1, g173_4, g173_6, g173_11, g173_12, g173_13, g173_15, g173_18, g173_21, g173_22, g173_23, g173_26, g173_29, g173_30, g173_33, g173_34, g173_37, g173_37n, g173_40, g173_41, g173_45, mx_isr_ref, mx_isr_null, mx_wt_nil, mx_wt_1, mx_wt_2, mx_wt_3, Option.bind_some, Option.toList_some, Option.toList_none, List.cons_append, List.nil_append, mx_nl_int, mx_nl_ref, mx_nl_null, mx_nl_none, mx_nb0, mx_nb1, mx_fb0, mx_fb1, mx_cat_int, mx_cat_ref, if_true, if_false, not_true_eq_false, not_false_eq_true, mx_wt_4, mx_w4_0, mx_w9_0, mx_w9_1, mx_kn_int, mx_kn_ref, mx_kn_null, Nat.reduceLT, ofn, n10, t9, l9, e0, n, g64, b1, y1, ce_t eo2, hn, t93, l93, e33, show ¬ (1 : Int32) = 0 by decide]
  · intro hno
    have n : ¬ nI c = 45 := fun z => c45 (n45.mp z)
    obtain ⟨h1, b1, T1, F1, W1⟩ := jt_take (d := d + 18) T (k := 58) (by decide) (by decide)
    rw [show nI 58 = 58 from rfl] at b1
    have eo1 := F1.at eo (by simp; omega)
    by_cases d58 : tI ts k 58 = true
    · rw [if_pos d58] at b1 T1
      have hp : pV ts 3 (k + 1) = none := by
        rcases hno with z | z
        · rw [d58] at z; cases z
        · exact z
      obtain ⟨-, Y2⟩ := rd_3 (d := d) (ts := ts) h1 x cp (k + 1) (o :: R) T1 (r.le F1.1)
      rw [show nI (3 - 3) = 0 from rfl] at Y2
      obtain ⟨h2, x2, cp2, c2, y1, T2, P2⟩ := Y2 hp
      have eo2 := P2.1.at eo1 (by simp; omega)
      have ox2 : o ≠ x2 := T2.ne eo2 (by simp)
      have P01 : PXo ts o h x cp k h1 x cp (k + 1) 0 := (PXo.rfl ts o h x cp k 0).f64 F1 W1 (by omega)
      have P02 := ((P01.px P2).up 3 .null).mono (s' := 0) (by omega)
      have eo3 : (mx_up h2 o 3 .null)[o]? = some (.inl 9, [.int (nI c), .int a1, fv, .null, .null]) := by rw [c_up eo2]; rfl
      obtain ⟨t93, l93, -, -, -, e33, -⟩ := oc_f eo3
      refine ⟨_, x2, cp2, c2, ?_, T2.fr (Fr.up (F := [o]) (by simp)) (by simp; omega), P02⟩
      simp only [g173_0, g173_1, g173_4, g173_6, g173_11, g173_12, g173_13, g173_15, g173_18, g173_21, g173_22, g173_23, g173_26, g173_29, g173_30, g173_33, g173_34, g173_37, g173_37n, g173_37n, g173_44, g173_45, mx_isr_ref, mx_isr_null, mx_wt_nil, mx_wt_1, mx_wt_2, mx_wt_3, Option.bind_some, Option.toList_some, Option.toList_none, List.cons_append, List.nil_append, mx_nl_int, mx_nl_ref, mx_nl_null, mx_nl_none, mx_nb0, mx_nb1, mx_fb0, mx_fb1, mx_cat_int, mx_cat_ref, if_true, if_false, not_true_eq_false, not_false_eq_true, mx_wt_4, mx_w4_0, mx_w9_0, mx_w9_1, mx_kn_int, mx_kn_ref, mx_kn_null, Nat.reduceLT, ofn, n10, t9, l9, e0, n, g64, b1, y1, ce_t eo2, hn, t93, l93, e33, show ¬ (1 : Int32) = 0 by decide]
    · rw [if_neg d58] at b1 T1
      have P01 := ((PXo.rfl ts o h x cp k 0).f64 F1 W1 (Nat.le_refl _)).up 3 .null
      have eo3 : (mx_up h1 o 3 .null)[o]? = some (.inl 9, [.int (nI c), .int a1, fv, .null, .null]) := by rw [c_up eo1]; rfl
      obtain ⟨t93, l93, -, -, -, e33, -⟩ := oc_f eo3
      refine ⟨_, x, cp, k, ?_, T1.fr (Fr.up (F := [o]) (by simp)) (by simp; omega), P01⟩
      simp only [g173_0, g173_1, g173_4, g173_6, g173_9, g173_10, g173_11, g173_12, g173_13, g173_15, g173_18, g173_29, g173_30, g173_33, g173_34, g173_37, g173_37n, g173_37n, g173_44, g173_45, mx_isr_ref, mx_isr_null, mx_wt_nil, mx_wt_1, mx_wt_2, mx_wt_3, Option.bind_some, Option.toList_some, Option.toList_none, List.cons_append, List.nil_append, mx_nl_int, mx_nl_ref, mx_nl_null, mx_nl_none, mx_nb0, mx_nb1, mx_fb0, mx_fb1, mx_cat_int, mx_cat_ref, if_true, if_false, not_true_eq_false, not_false_eq_true, mx_wt_4, mx_w4_0, mx_w9_0, mx_w9_1, mx_kn_int, mx_kn_ref, mx_kn_null, Nat.reduceLT, ofn, n10, t9, l9, e0, n, g64, b1, ce_t eo1, hn, t93, l93, e33]
theorem OFv.isr {M : List Nat} {way : Nat} {fv : Value} {g : prs → Option Nat → Bool} (F : OFv M h way fv g) : mx_isr fv = true := by
  unfold OFv at F
  split at F
  · rw [F]; rfl
  · obtain ⟨f, cs, rfl, -⟩ := F; rfl
theorem PXo.comp {o : Nat} {h' h'' : mx_H} {x' x'' cp' cp'' k' k'' s s' : Nat} (a : PXo ts o h x cp k h' x' cp' k' s) (b : PXo ts o h' x' cp' k' h'' x'' cp'' k'' s') : PXo ts o h x cp k h'' x'' cp'' k'' (s + s') := by
  have a4 := a.2.2.2
  have b4 := b.2.2.2
  refine ⟨a.1.trans b.1 (fun q hq => ?_), ?_, Nat.le_trans a.2.2.1 b.2.2.1, by omega⟩
  · simp only [List.mem_cons, List.not_mem_nil, or_false] at hq ⊢
    rcases hq with z | z | z | z
    · exact Or.inl (Or.inl z)
    · exact Or.inl (Or.inr (Or.inl z))
    · rcases a.2.1 with w | w
      · exact Or.inl (Or.inr (Or.inr (Or.inl (by rw [z, w]))))
      · exact Or.inr (by omega)
    · exact Or.inl (Or.inr (Or.inr (Or.inr z)))
  · have := a.1.1
    rcases b.2.1 with w | w
    · rw [w]; exact a.2.1
    · exact Or.inr (by omega)
theorem jr_op {first last : Value} (N : NB ts) (T : BT h x cp ts k) (r : RB R h) (K : KK h) {i : Int32} {l4 : Option Value} (hf : mx_isr first = true) (hl : mx_isr last = true) :
    (∀ q, rOp ts k = some q → ∃ (h' : mx_H) (x' cp' : Nat), mx_G (d + 29) 157 16 [some (.ref 64), some first, some last, some (.int i), l4] [] h = mx_G (d + 29) 157 61 [some (.ref 64), some first, some last, some (.int i), some (.ref h.length)] [] h' ∧ BT h' x' cp' ts q.2 ∧ OPX (x' :: h.length :: R) h' ts h.length q.1 .null ∧ KK h' ∧ k < ts.length ∧ PX ts h x cp k h' x' cp' q.2 0) ∧
    (rOp ts k = none → ∃ (h' : mx_H) (x' cp' k' : Nat), mx_G (d + 29) 157 16 [some (.ref 64), some first, some last, some (.int i), l4] [] h = some (some .null, h') ∧ BT h' x' cp' ts k' ∧ PXd ts h x cp k h' x' cp' k' 53) := by
  have xl := T.xlt
  have g64 := T.kind.1
  have hkd := T.kind.2.2.2.2.2.2.2.2.1
  generalize hg1 : h ++ [((.inl 9 : Nat ⊕ FieldType), [Value.int 0, .int 0, .null, .null, .null])] = g1
  have F1 : Fr [] h g1 := by rw [← hg1]; exact Fr.app _ _ _
  have eo1 : g1[h.length]? = some (.inl 9, [.int 0, .int 0, .null, .null, .null]) := by rw [← hg1, c_app]
  have w1 : mw g1 = mw h + 17 := by rw [← hg1, mw_app]; rfl
  have l1 : g1.length = h.length + 1 := by rw [← hg1]; simp
  have T1 : BT g1 x cp ts k := T.fr F1 (by simp)
  have KD1 := jt_kind (d := d + 28) T1
  have hn : mt_nO ≤ h.length := by rw [show mt_nO = 63 by decide]; omega
  generalize hg2 : mx_up (mx_up g1 h.length 1 (.int (-1))) h.length 0 (.int (nI (tA ts k).1)) = g2
  have eo2 : g2[h.length]? = some (.inl 9, [.int (nI (tA ts k).1), .int (-1), .null, .null, .null]) := by rw [← hg2, c_up (c_up eo1)]; rfl
  have F12 : Fr [h.length] g1 g2 := by
    rw [← hg2]
    exact (Fr.up (by simp)).trans (Fr.up (F := [h.length]) (by simp)) (fun a ha => Or.inl ha)
  have I159 : mx_G (d + 28) 159 0 [some (.ref h.length), some (.int (nI (tA ts k).1))] [] g1 = some (none, g2) := by
    simp only [g159_0, g159_1, g159_4, g159_5, g159_6, g159_9, g159_10, g159_11, g159_14, mx_isr_ref, mx_isr_null, mx_wt_nil, mx_wt_1, mx_wt_2, mx_wt_3, Option.bind_some, Option.toList_some, Option.toList_none, List.cons_append, List.nil_append, mx_nl_int, mx_nl_ref, mx_nl_null, mx_nl_none, mx_nb0, mx_nb1, mx_fb0, mx_fb1, mx_cat_int, mx_cat_ref, if_true, if_false, not_true_eq_false, not_false_eq_true, mx_wt_4, mx_w4_0, mx_w9_0, mx_w9_1, mx_kn_int, mx_kn_ref, mx_kn_null, Nat.reduceLT, ofn, n10, ce_t eo1, hn, mx_tag_up, hg2]
  have F02 : Fr [] h g2 := F1.trans F12 (fun a ha => by rw [List.mem_singleton] at ha; exact Or.inr (by omega))
  have T2 : BT g2 x cp ts k := T.fr F02 (by simp)
  have w2 : mw g2 = mw h + 17 := by rw [← hg2, mw_up, mw_up]; exact w1
  obtain ⟨h3, c1, T3, F3, W3⟩ := jt_next (d := d + 28) T2
  have eo3 := F3.at eo2 (by simp; omega)
  have F03 : Fr [64] h h3 := (F02.mono (F' := [64]) (by simp)).trans F3 (fun a ha => Or.inl ha)
  have K3 : KK h3 := K.fr F03 (by simp)
  have l3 := F3.1
  have l02 := F02.1
  have lo3 : h.length < h3.length := ce_l eo3
  have r3 : RB (h.length :: R) h3 := by
    intro a ha
    rcases List.mem_cons.mp ha with rfl | z
    · exact ⟨by omega, lo3⟩
    · have := r _ z; exact ⟨this.1, by omega⟩
  have SG := jr_sign (d := d + 28) hkd eo3
  have t93 := ce_t eo3
  have g641 := T1.kind.1
  have g642 := T2.kind.1
  -- the operation is new: what is written there is no matter of h
  have toPX : ∀ {h' : mx_H} {x' cp' k1 k' s s' : Nat}, k ≤ k1 → mw h3 + Wt ts k + s ≤ mw h + Wt ts k1 + s' + 0 → PXo ts h.length h3 x cp k1 h' x' cp' k' s → PXd ts h x cp k h' x' cp' k' s' := by
    intro h' x' cp' k1 k' s s' hk hw P
    obtain ⟨p1, p2, p3, p4⟩ := P
    refine ⟨(F03.mono (F' := [64, 69, x]) (by simp)).trans p1 (fun a ha => ?_), p2.elim Or.inl (fun z => Or.inr (by omega)), by omega, by omega⟩
    simp only [List.mem_cons, List.not_mem_nil, or_false] at ha ⊢
    rcases ha with z | z | z | z
    · exact Or.inl (Or.inl z)
    · exact Or.inl (Or.inr (Or.inl z))
    · exact Or.inl (Or.inr (Or.inr z))
    · exact Or.inr (by omega)
  unfold rOp
  by_cases hs : tI ts k 43 = false ∧ tI ts k 45 = false ∧ tI ts k 61 = false
  · rw [if_pos hs]
    refine ⟨fun q hq => (by cases hq), fun _ => ⟨h3, x, cp, _, ?_, T3, toPX (k1 := min (k + 1) ts.length) (s := 0) (by have := T.kind.2.2.2.2.2.2.2.2.2.2.2; omega) ?_ (PXo.rfl ..)⟩⟩
    · have hno : ¬ ((tA ts k).1 = 43 ∨ (tA ts k).1 = 45 ∨ (tA ts k).1 = 61) := by
        intro z
        rcases z with z | z | z
        · have := tI_eq.mpr z; rw [this] at hs; cases hs.1
        · have := tI_eq.mpr z; rw [this] at hs; cases hs.2.1
        · have := tI_eq.mpr z; rw [this] at hs; cases hs.2.2
      rw [if_neg hno] at SG
      simp only [g157_16, g157_19, g157_20, g157_21, g157_24, g157_27, g157_29, g157_30, g157_33, g157_35, g157_38, g157_59, g157_60, mx_isr_ref, mx_isr_null, mx_wt_nil, mx_wt_1, mx_wt_2, mx_wt_3, Option.bind_some, Option.toList_some, Option.toList_none, List.cons_append, List.nil_append, mx_nl_int, mx_nl_ref, mx_nl_null, mx_nl_none, mx_nb0, mx_nb1, mx_fb0, mx_fb1, mx_cat_int, mx_cat_ref, if_true, if_false, not_true_eq_false, not_false_eq_true, mx_wt_4, mx_w4_0, mx_w9_0, mx_w9_1, mx_kn_int, mx_kn_ref, mx_kn_null, Nat.reduceLT, ofn, n10, hg1, g641, KD1, ce_t eo1, I159, g642, c1, t93, SG]
    · have := Wt_mono (ts := ts) (show k ≤ min (k + 1) ts.length by have := T.kind.2.2.2.2.2.2.2.2.2.2.2; omega)
      omega
  · rw [if_neg hs]
    have hsg : (tA ts k).1 = 43 ∨ (tA ts k).1 = 45 ∨ (tA ts k).1 = 61 := by
      by_cases a : tI ts k 43 = true
      · exact Or.inl (tI_eq.mp a)
      · by_cases b : tI ts k 45 = true
        · exact Or.inr (Or.inl (tI_eq.mp b))
        · by_cases e : tI ts k 61 = true
          · exact Or.inr (Or.inr (tI_eq.mp e))
          · exact absurd ⟨by simpa using a, by simpa using b, by simpa using e⟩ hs
    rw [if_pos hsg] at SG
    have klt : k < ts.length := by
      by_cases z : k < ts.length
      · exact z
      · rw [tA_big (by omega)] at hsg; rcases hsg with y | y | y <;> cases y
    rw [show min (k + 1) ts.length = k + 1 by omega] at T3
    have hW := Wt_succ klt
    obtain ⟨Y1, Y2⟩ := jr_target (d := d) hkd N T3 r3 K3 (by omega) eo3
    have pre : ∀ X, (mx_G (d + 28) 161 0 [some (.ref h.length), some (.ref 64)] [] h3 = X) → mx_G (d + 29) 157 16 [some (.ref 64), some first, some last, some (.int i), l4] [] h = X.bind fun q => mx_G (d + 29) 157 47 [some (.ref 64), some first, some last, some (.int i), some (.ref h.length)] (q.1.toList) q.2 := by
      intro X hX
      have : mx_G (d + 29) 157 16 [some (.ref 64), some first, some last, some (.int i), l4] [] h = (mx_G (d + 28) 161 0 [some (.ref h.length), some (.ref 64)] [] h3).bind fun q => mx_G (d + 29) 157 47 [some (.ref 64), some first, some last, some (.int i), some (.ref h.length)] (q.1.toList ++ []) q.2 := by
        simp only [g157_16, g157_19, g157_20, g157_21, g157_24, g157_27, g157_29, g157_30, g157_33, g157_35, g157_38, g157_41, g157_43, g157_44, mx_isr_ref, mx_isr_null, mx_wt_nil, mx_wt_1, mx_wt_2, mx_wt_3, Option.bind_some, Option.toList_some, Option.toList_none, List.cons_append, List.nil_append, mx_nl_int, mx_nl_ref, mx_nl_null, mx_nl_none, mx_nb0, mx_nb1, mx_fb0, mx_fb1, mx_cat_int, mx_cat_ref, if_true, if_false, not_true_eq_false, not_false_eq_true, mx_wt_4, mx_w4_0, mx_w9_0, mx_w9_1, mx_kn_int, mx_kn_ref, mx_kn_null, Nat.reduceLT, ofn, n10, hg1, g641, KD1, ce_t eo1, I159, g642, c1, t93, SG, show ¬ (1 : Int32) = 0 by decide]
      rw [this, hX]
      simp only [List.append_nil]
    cases hT : rTg ts (tA ts k).1 (k + 1) with
    | none =>
      refine ⟨fun q hq => (by cases hq), fun _ => ?_⟩
      rcases Y2 hT with ⟨h4, x4, cp4, k4, j1, j2, j3⟩ | ⟨j1, j2, j3⟩
      · refine ⟨h4, x4, cp4, k4, ?_, j2, toPX (k1 := k + 1) (s := 36) (by omega) (by omega) j3⟩
        rw [pre _ j1]
        simp only [g157_47, g157_59, g157_60, mx_isr_ref, mx_isr_null, mx_wt_nil, mx_wt_1, mx_wt_2, mx_wt_3, Option.bind_some, Option.toList_some, Option.toList_none, List.cons_append, List.nil_append, mx_nl_int, mx_nl_ref, mx_nl_null, mx_nl_none, mx_nb0, mx_nb1, mx_fb0, mx_fb1, mx_cat_int, mx_cat_ref, if_true, if_false, not_true_eq_false, not_false_eq_true, mx_wt_4, mx_w4_0, mx_w9_0, mx_w9_1, mx_kn_int, mx_kn_ref, mx_kn_null, Nat.reduceLT, ofn, n10]
      · obtain ⟨-, -, V3⟩ := jr_value (d := d + 8) hkd T3 r3 (by omega) eo3 rfl
        obtain ⟨h4, x4, cp4, k4, i1, i2, i3⟩ := V3 j3 (Or.inl j2)
        refine ⟨h4, x4, cp4, k4, ?_, i2, toPX (k1 := k + 1) (s := 0) (by omega) (by omega) i3⟩
        rw [pre _ j1]
        simp only [g157_47, g157_50, g157_52, g157_53, g157_56, g157_59, g157_60, mx_isr_ref, mx_isr_null, mx_wt_nil, mx_wt_1, mx_wt_2, mx_wt_3, Option.bind_some, Option.toList_some, Option.toList_none, List.cons_append, List.nil_append, mx_nl_int, mx_nl_ref, mx_nl_null, mx_nl_none, mx_nb0, mx_nb1, mx_fb0, mx_fb1, mx_cat_int, mx_cat_ref, if_true, if_false, not_true_eq_false, not_false_eq_true, mx_wt_4, mx_w4_0, mx_w9_0, mx_w9_1, mx_kn_int, mx_kn_ref, mx_kn_null, Nat.reduceLT, ofn, n10, t93, i1, show ¬ (1 : Int32) = 0 by decide, show ¬ ¬ (0 : Int32) = 0 by decide]
    | some b =>
      obtain ⟨h4, x4, cp4, fv, j1, T4, eo4, F4, P4, w11, w0⟩ := Y1 b hT
      have r4 : RB (h.length :: R) h4 := r3.le P4.1.1
      have K4 : KK h4 := K3.fr P4.1 (fun a ha => by simp at ha; omega)
      obtain ⟨V1, V2, V3⟩ := jr_value (d := d + 8) hkd T4 r4 (by omega) eo4 F4.isr
      have t94 := ce_t eo4
      show (∀ q, (if (tA ts k).1 = 45 then some (((tA ts k).1, b.1.1, b.1.2, 0), b.2) else if tI ts b.2 58 = false then none else (pV ts 3 (b.2 + 1)).map fun e => (((tA ts k).1, b.1.1, b.1.2, b.2 + 1), e) : Option (opr × Nat)) = some q → _) ∧ ((if (tA ts k).1 = 45 then some (((tA ts k).1, b.1.1, b.1.2, 0), b.2) else if tI ts b.2 58 = false then none else (pV ts 3 (b.2 + 1)).map fun e => (((tA ts k).1, b.1.1, b.1.2, b.2 + 1), e) : Option (opr × Nat)) = none → _)
      by_cases c45 : (tA ts k).1 = 45
      · rw [if_pos c45]
        refine ⟨fun q hq => ?_, fun z => (by cases z)⟩
        cases hq
        have P := toPX (k1 := k + 1) (s := 0) (s' := 0) (by omega) (by omega) P4
        refine ⟨h4, x4, cp4, ?_, T4, ⟨fv, .null, eo4, F4, hkd, w11, fun _ => ⟨rfl, w0 c45⟩, fun z => absurd c45 z⟩, K4, klt, P.px⟩
        rw [pre _ j1]
        simp only [g157_47, g157_50, g157_52, g157_53, g157_56, mx_isr_ref, mx_isr_null, mx_wt_nil, mx_wt_1, mx_wt_2, mx_wt_3, Option.bind_some, Option.toList_some, Option.toList_none, List.cons_append, List.nil_append, mx_nl_int, mx_nl_ref, mx_nl_null, mx_nl_none, mx_nb0, mx_nb1, mx_fb0, mx_fb1, mx_cat_int, mx_cat_ref, if_true, if_false, not_true_eq_false, not_false_eq_true, mx_wt_4, mx_w4_0, mx_w9_0, mx_w9_1, mx_kn_int, mx_kn_ref, mx_kn_null, Nat.reduceLT, ofn, n10, t94, V1 c45, show ¬ (1 : Int32) = 0 by decide]
      · rw [if_neg c45]
        by_cases d58 : tI ts b.2 58 = true
        · rw [if_neg (by rw [d58]; decide)]
          cases hp : pV ts 3 (b.2 + 1) with
          | none =>
            refine ⟨fun q hq => (by cases hq), fun _ => ?_⟩
            obtain ⟨h5, x5, cp5, k5, i1, i2, i3⟩ := V3 c45 (Or.inr hp)
            refine ⟨h5, x5, cp5, k5, ?_, i2, toPX (k1 := k + 1) (s := 0) (by omega) (by omega) (P4.comp i3)⟩
            rw [pre _ j1]
            simp only [g157_47, g157_50, g157_52, g157_53, g157_56, g157_59, g157_60, mx_isr_ref, mx_isr_null, mx_wt_nil, mx_wt_1, mx_wt_2, mx_wt_3, Option.bind_some, Option.toList_some, Option.toList_none, List.cons_append, List.nil_append, mx_nl_int, mx_nl_ref, mx_nl_null, mx_nl_none, mx_nb0, mx_nb1, mx_fb0, mx_fb1, mx_cat_int, mx_cat_ref, if_true, if_false, not_true_eq_false, not_false_eq_true, mx_wt_4, mx_w4_0, mx_w9_0, mx_w9_1, mx_kn_int, mx_kn_ref, mx_kn_null, Nat.reduceLT, ofn, n10, t94, i1, show ¬ (1 : Int32) = 0 by decide, show ¬ ¬ (0 : Int32) = 0 by decide]
          | some e =>
            refine ⟨fun q hq => ?_, fun z => (by cases z)⟩
            cases hq
            obtain ⟨h5, x5, cp5, v, i1, T5, eo5, V, P5⟩ := V2 c45 e d58 hp
            have P := toPX (k1 := k + 1) (s := 0) (s' := 0) (by omega) (by omega) (P4.comp P5)
            have xl4 := T4.xlt
            refine ⟨h5, x5, cp5, ?_, T5, ⟨fv, .ref v, eo5, F4.ex (P5.ex r4 List.mem_cons_self), hkd, w11, fun z => absurd z c45, fun _ => ⟨v, rfl, V⟩⟩, K4.fr P5.1 (fun a ha => by simp at ha; omega), klt, P.px⟩
            rw [pre _ j1]
            simp only [g157_47, g157_50, g157_52, g157_53, g157_56, mx_isr_ref, mx_isr_null, mx_wt_nil, mx_wt_1, mx_wt_2, mx_wt_3, Option.bind_some, Option.toList_some, Option.toList_none, List.cons_append, List.nil_append, mx_nl_int, mx_nl_ref, mx_nl_null, mx_nl_none, mx_nb0, mx_nb1, mx_fb0, mx_fb1, mx_cat_int, mx_cat_ref, if_true, if_false, not_true_eq_false, not_false_eq_true, mx_wt_4, mx_w4_0, mx_w9_0, mx_w9_1, mx_kn_int, mx_kn_ref, mx_kn_null, Nat.reduceLT, ofn, n10, t94, i1, show ¬ (1 : Int32) = 0 by decide]
        · rw [if_pos (by simpa using d58)]
          refine ⟨fun q hq => (by cases hq), fun _ => ?_⟩
          obtain ⟨h5, x5, cp5, k5, i1, i2, i3⟩ := V3 c45 (Or.inl (by simpa using d58))
          refine ⟨h5, x5, cp5, k5, ?_, i2, toPX (k1 := k + 1) (s := 0) (by omega) (by omega) (P4.comp i3)⟩
          rw [pre _ j1]
          simp only [g157_47, g157_50, g157_52, g157_53, g157_56, g157_59, g157_60, mx_isr_ref, mx_isr_null, mx_wt_nil, mx_wt_1, mx_wt_2, mx_wt_3, Option.bind_some, Option.toList_some, Option.toList_none, List.cons_append, List.nil_append, mx_nl_int, mx_nl_ref, mx_nl_null, mx_nl_none, mx_nb0, mx_nb1, mx_fb0, mx_fb1, mx_cat_int, mx_cat_ref, if_true, if_false, not_true_eq_false, not_false_eq_true, mx_wt_4, mx_w4_0, mx_w9_0, mx_w9_1, mx_kn_int, mx_kn_ref, mx_kn_null, Nat.reduceLT, ofn, n10, t94, i1, show ¬ (1 : Int32) = 0 by decide, show ¬ ¬ (0 : Int32) = 0 by decide]
end
