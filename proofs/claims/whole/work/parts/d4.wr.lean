/-! Writing, into the builder at 74. -/
def WB (h : mx_H) (x cp : Nat) (w : List Nat) : Prop := ∃ us, SB h 74 x w.length us ∧ us.length = cp ∧ us.take w.length = w ∧ (x = 75 ∨ 102 ≤ x) ∧ KK h ∧ KD h ∧ 102 ≤ h.length
def WX (h : mx_H) (x cp : Nat) (h' : mx_H) (x' cp' : Nat) : Prop := Fr [74, x] h h' ∧ (x' = x ∨ h.length ≤ x') ∧ mw h' + 3 * cp ≤ mw h + 3 * cp'
theorem WX.rfl (h : mx_H) (x cp : Nat) : WX h x cp h x cp := ⟨Fr.rfl _ _, Or.inl (Eq.refl _), Nat.le_refl _⟩
theorem WX.trans {h h' h'' : mx_H} {x x' x'' cp cp' cp'' : Nat} (a : WX h x cp h' x' cp') (b : WX h' x' cp' h'' x'' cp'') : WX h x cp h'' x'' cp'' := by
  obtain ⟨a1, a2, a3⟩ := a
  obtain ⟨b1, b2, b3⟩ := b
  have := a1.1
  refine ⟨a1.trans b1 (fun q hq => ?_), ?_, by omega⟩
  · simp only [List.mem_cons, List.not_mem_nil, or_false] at hq ⊢
    rcases hq with rfl | rfl
    · exact Or.inl (Or.inl (Eq.refl _))
    · exact a2.elim (fun z => Or.inl (Or.inr z)) (fun z => Or.inr z)
  · rcases b2 with rfl | z
    · exact a2
    · exact Or.inr (by omega)
theorem WX.ex {h h' : mx_H} {x x' cp cp' : Nat} {R : List Nat} (a : WX h x cp h' x' cp') : Ex (x :: R) h (x' :: R) h' := by
  refine a.1.ex (fun q hq z => ?_) (fun q hq => ?_)
  · simp only [List.mem_cons, List.not_mem_nil, or_false] at hq
    rcases hq with rfl | rfl
    · exact z.1 (by omega)
    · exact z.2 List.mem_cons_self
  · rcases List.mem_cons.mp hq with rfl | z
    · exact a.2.1.elim (fun z => Or.inl (by rw [z]; exact List.mem_cons_self)) Or.inr
    · exact Or.inl (List.mem_cons_of_mem _ z)
section
variable {d : Nat} {h : mx_H} {x cp : Nat} {w : List Nat} {R : List Nat}
theorem WB.tag (W : WB h x cp w) : mx_tag h 74 = some (.inl 2) := by
  obtain ⟨us, S, -⟩ := W
  exact (SB_f S).1
/-- what an append comes to -/
theorem WB.mk {us us' l : List Nat} {h' : mx_H} {x' : Nat} (W : WB h x cp w) (hus : us.length = cp) (htk : us.take w.length = w) (S' : SB h' 74 x' (w.length + l.length) us') (ht : us'.take (w.length + l.length) = us.take w.length ++ l) (X : SBx h 74 x us h' x' us') : WB h' x' us'.length (w ++ l) ∧ WX h x cp h' x' us'.length := by
  obtain ⟨us0, S, c1, c2, c3, K, KDh, hl⟩ := W
  obtain ⟨x1, x2, x3⟩ := X
  have hF : ∀ a ∈ [74, x], 63 ≤ a := fun a ha => by
    simp only [List.mem_cons, List.not_mem_nil, or_false] at ha
    omega
  refine ⟨⟨us', by rw [List.length_append]; exact S', Eq.refl _, by rw [List.length_append, ht, htk], ?_, K.fr x1 hF, KDh.fr x1 hF, Nat.le_trans hl x1.1⟩, x1, x2, by rw [hus] at x3; exact x3⟩
  rcases x2 with z | z
  · rw [z]; exact c3
  · exact Or.inr (by omega)
theorem jw_c (W : WB h x cp w) {c : Nat} (hc : c < 128) (hn : w.length + 1 ≤ 450) : ∃ (h' : mx_H) (x' cp' : Nat), mx_G (d + 5) 68 0 [some (.ref 74), some (.int (nI c))] [] h = some (some (.ref 74), h') ∧ WB h' x' cp' (w ++ [c]) ∧ WX h x cp h' x' cp' := by
  obtain ⟨us, S, c1, c2, r⟩ := id W
  obtain ⟨h', x', us', a1, a2, a3, a4⟩ := jb_app (d := d) S hc hn
  obtain ⟨m1, m2⟩ := W.mk (l := [c]) c1 c2 a2 a3 a4
  exact ⟨h', x', us'.length, a1, m1, m2⟩
theorem jw_s (W : WB h x cp w) {s b : Nat} {cs : List Nat} (T : sB h s b cs) (hb : b ≠ x) (hn : w.length + cs.length ≤ 450) : ∃ (h' : mx_H) (x' cp' : Nat), mx_G (d + 5) 216 0 [some (.ref 74), some (.ref s)] [] h = some (some (.ref 74), h') ∧ WB h' x' cp' (w ++ cs) ∧ WX h x cp h' x' cp' := by
  obtain ⟨us, S, c1, c2, r⟩ := id W
  obtain ⟨h', x', us', a1, a2, a3, a4⟩ := jb_appS (d := d) S T hb hn
  obtain ⟨m1, m2⟩ := W.mk (l := cs) c1 c2 a2 a3 a4
  exact ⟨h', x', us'.length, a1, m1, m2⟩
theorem jw_k (W : WB h x cp w) {k : Nat} (hk : k < 28) (hn : w.length + (kts.getD k []).length ≤ 450) : ∃ (h' : mx_H) (x' cp' : Nat), mx_G (d + 5) 216 0 [some (.ref 74), some (.ref (7 + 2 * k))] [] h = some (some (.ref 74), h') ∧ WB h' x' cp' (w ++ kts.getD k []) ∧ WX h x cp h' x' cp' := by
  obtain ⟨us, S, c1, c2, c3, K, -⟩ := id W
  exact jw_s W (K.1 k hk) (by omega) hn
theorem jw_i (W : WB h x cp w) {v : Int} (hv : nb v) (hn : w.length + (wI v).length ≤ 450) : ∃ (h' : mx_H) (x' cp' : Nat), mx_G (d + 5) 224 0 [some (.ref 74), some (.int (Int32.ofInt v))] [] h = some (some (.ref 74), h') ∧ WB h' x' cp' (w ++ wI v) ∧ WX h x cp h' x' cp' := by
  obtain ⟨us, S, c1, c2, c3, K, KDh, -⟩ := id W
  obtain ⟨h', x', us', a1, a2, a3, a4⟩ := jb_appI (d := d) KDh hv S hn
  obtain ⟨m1, m2⟩ := W.mk (l := wI v) c1 c2 a2 a3 a4
  exact ⟨h', x', us'.length, a1, m1, m2⟩
theorem wT_esc (l : List Nat) : wT l = [34] ++ l.flatMap esc ++ [34] := rfl
theorem VC.ex {M M' : List Nat} {h h' : mx_H} {v k : Nat} {n : Int32} {cs : List Nat} (V : VC M h v k n cs) (x : Ex M h M' h') : VC M' h' v k n cs := by
  obtain ⟨s, f, e, z, S, i⟩ := V
  exact ⟨s, f, (x.at e z).1, (x.at e z).2, S.ex x, i⟩
theorem jw_textL {v k : Nat} {num : Int32} {cs : List Nat} : ∀ n i (h : mx_H) (x cp : Nat) (w : List Nat) (l3 : Option Value), n + i = cs.length → WB h x cp w → VC (x :: R) h v k num cs → w.length + ((cs.drop i).flatMap esc).length ≤ 450 →
    ∃ (h' : mx_H) (x' cp' : Nat) (l3' : Option Value), mx_G (d + 6) 230 9 [some (.ref v), some (.ref 74), some (.int (nI i)), l3] [] h = mx_G (d + 6) 230 60 [some (.ref v), some (.ref 74), some (.int (nI cs.length)), l3'] [] h' ∧ WB h' x' cp' (w ++ (cs.drop i).flatMap esc) ∧ WX h x cp h' x' cp' := by
  intro n
  induction n with
  | zero =>
    intro i h x cp w l3 hi W V hn
    have : i = cs.length := by omega
    subst this
    obtain ⟨s, b, f, t, l, e0, e1, e2, e3, e4, S⟩ := VC_f V
    have hl := S.2.2.2.1
    rw [List.drop_length]
    refine ⟨h, x, cp, l3, ?_, by simpa using W, WX.rfl _ _ _⟩
    simp only [g230_9, g230_10, g230_11, g230_14, g230_17, mx_isr_ref, mx_isr_null, mx_wt_nil, mx_wt_1, mx_wt_2, mx_wt_3, Option.bind_some, Option.toList_some, Option.toList_none, List.cons_append, List.nil_append, mx_nl_int, mx_nl_ref, mx_nl_null, mx_nl_none, mx_nb0, mx_nb1, mx_fb0, mx_fb1, mx_cat_int, mx_cat_ref, if_true, if_false, not_true_eq_false, not_false_eq_true, mx_wt_4, mx_w4_0, mx_w9_0, mx_w9_1, mx_kn_int, mx_kn_ref, mx_kn_null, Nat.reduceLT, ofn, n10, t, l, e2, (sB_f S).1, js_len S, show nI cs.length ≤ nI cs.length from nI_le (Nat.le_refl _) (by omega)]
  | succ n ih =>
    intro i h x cp w l3 hi W V hn
    have hi2 : i < cs.length := by omega
    obtain ⟨s, b, f, t, l, e0, e1, e2, e3, e4, S⟩ := VC_f V
    have hl := S.2.2.2.1
    have hc := sB_lt S i
    have hd : cs.drop i = cs.getD i 0 :: cs.drop (i + 1) := by
      rw [List.drop_eq_getElem_cons hi2]
      simp [List.getD_eq_getElem?_getD, hi2]
    rw [hd, List.flatMap_cons] at hn ⊢
    rw [List.length_append] at hn
    have q : ¬ nI cs.length ≤ nI i := nI_ge hi2 (by omega)
    have t74 := W.tag
    by_cases c : cs.getD i 0 = 34 ∨ cs.getD i 0 = 92
    · have he : esc (cs.getD i 0) = [92, cs.getD i 0] := by unfold esc; rw [if_pos c]
      rw [he] at hn ⊢
      simp only [List.length_cons, List.length_nil] at hn
      obtain ⟨h1, x1, cp1, a1, a2, a3⟩ := jw_c (d := d) W (c := 92) (by decide) (by omega)
      rw [show nI 92 = 92 from rfl] at a1
      obtain ⟨h2, x2, cp2, b1, b2, b3⟩ := jw_c (d := d) a2 hc (by simp; omega)
      have X := a3.trans b3
      obtain ⟨h', x', cp', l3', i1, i2, i3⟩ := ih (i + 1) h2 x2 cp2 _ (some (.int (nI (cs.getD i 0)))) (by omega) b2 (V.ex X.ex) (by simp only [List.length_append, List.length_cons, List.length_nil, List.drop_zero]; omega)
      refine ⟨h', x', cp', l3', ?_, by simpa using i2, X.trans i3⟩
      rw [← i1, g230_9]
      by_cases c1 : cs.getD i 0 = 34
      · have q1 : nI (cs.getD i 0) = 34 := by rw [c1]; rfl
        simp only [g230_10, g230_11, g230_14, g230_17, g230_20, g230_21, g230_24, g230_25, g230_28, g230_29, g230_30, g230_32, g230_35, g230_36, g230_38, g230_41, g230_42, g230_44, g230_47, g230_48, g230_49, g230_50, g230_53, g230_54, g230_57, mx_isr_ref, mx_isr_null, mx_wt_nil, mx_wt_1, mx_wt_2, mx_wt_3, Option.bind_some, Option.toList_some, Option.toList_none, List.cons_append, List.nil_append, mx_nl_int, mx_nl_ref, mx_nl_null, mx_nl_none, mx_nb0, mx_nb1, mx_fb0, mx_fb1, mx_cat_int, mx_cat_ref, if_true, if_false, not_true_eq_false, not_false_eq_true, mx_wt_4, mx_w4_0, mx_w9_0, mx_w9_1, mx_kn_int, mx_kn_ref, mx_kn_null, Nat.reduceLT, ofn, n10, q, t, l, e2, (sB_f S).1, js_len S, js_char S hi2, q1, t74, a1, a2.tag, nI_1]
        rw [q1] at b1
        simp only [b1, g230_53, g230_54, g230_57, mx_isr_ref, mx_isr_null, mx_wt_nil, mx_wt_1, mx_wt_2, mx_wt_3, Option.bind_some, Option.toList_some, Option.toList_none, List.cons_append, List.nil_append, mx_nl_int, mx_nl_ref, mx_nl_null, mx_nl_none, mx_nb0, mx_nb1, mx_fb0, mx_fb1, mx_cat_int, mx_cat_ref, if_true, if_false, not_true_eq_false, not_false_eq_true, mx_wt_4, mx_w4_0, mx_w9_0, mx_w9_1, mx_kn_int, mx_kn_ref, mx_kn_null, Nat.reduceLT, ofn, n10, nI_1]
      · have q1 : ¬ nI (cs.getD i 0) = 34 := fun z => c1 ((nI_eq (b := 34) (by omega) (by decide)).mp z)
        have q2 : nI (cs.getD i 0) = 92 := by rw [c.resolve_left c1]; rfl
        simp only [g230_10, g230_11, g230_14, g230_17, g230_20, g230_21, g230_24, g230_25, g230_28, g230_29, g230_30, g230_32, g230_35, g230_36, g230_38, g230_41, g230_42, g230_44, g230_47, g230_48, g230_49, g230_50, g230_53, g230_54, g230_57, mx_isr_ref, mx_isr_null, mx_wt_nil, mx_wt_1, mx_wt_2, mx_wt_3, Option.bind_some, Option.toList_some, Option.toList_none, List.cons_append, List.nil_append, mx_nl_int, mx_nl_ref, mx_nl_null, mx_nl_none, mx_nb0, mx_nb1, mx_fb0, mx_fb1, mx_cat_int, mx_cat_ref, if_true, if_false, not_true_eq_false, not_false_eq_true, mx_wt_4, mx_w4_0, mx_w9_0, mx_w9_1, mx_kn_int, mx_kn_ref, mx_kn_null, Nat.reduceLT, ofn, n10, q, t, l, e2, (sB_f S).1, js_len S, js_char S hi2, q2, show ¬ (92 : Int32) = 34 by decide, show ¬ (¬ (92 : Int32) = 92) by decide, t74, a1, a2.tag, nI_1]
        rw [q2] at b1
        simp only [b1, g230_53, g230_54, g230_57, mx_isr_ref, mx_isr_null, mx_wt_nil, mx_wt_1, mx_wt_2, mx_wt_3, Option.bind_some, Option.toList_some, Option.toList_none, List.cons_append, List.nil_append, mx_nl_int, mx_nl_ref, mx_nl_null, mx_nl_none, mx_nb0, mx_nb1, mx_fb0, mx_fb1, mx_cat_int, mx_cat_ref, if_true, if_false, not_true_eq_false, not_false_eq_true, mx_wt_4, mx_w4_0, mx_w9_0, mx_w9_1, mx_kn_int, mx_kn_ref, mx_kn_null, Nat.reduceLT, ofn, n10, nI_1]
    · have he : esc (cs.getD i 0) = [cs.getD i 0] := by unfold esc; rw [if_neg c]
      rw [he] at hn ⊢
      simp only [List.length_cons, List.length_nil] at hn
      obtain ⟨h2, x2, cp2, b1, b2, b3⟩ := jw_c (d := d) W hc (by omega)
      obtain ⟨h', x', cp', l3', i1, i2, i3⟩ := ih (i + 1) h2 x2 cp2 _ (some (.int (nI (cs.getD i 0)))) (by omega) b2 (V.ex b3.ex) (by simp only [List.length_append, List.length_cons, List.length_nil, List.drop_zero]; omega)
      refine ⟨h', x', cp', l3', ?_, by simpa using i2, b3.trans i3⟩
      have q1 : ¬ nI (cs.getD i 0) = 34 := fun z => c (Or.inl ((nI_eq (b := 34) (by omega) (by decide)).mp z))
      have q2 : ¬ nI (cs.getD i 0) = 92 := fun z => c (Or.inr ((nI_eq (b := 92) (by omega) (by decide)).mp z))
      rw [← i1, g230_9]
      simp only [g230_10, g230_11, g230_14, g230_17, g230_20, g230_21, g230_24, g230_25, g230_28, g230_29, g230_30, g230_32, g230_35, g230_36, g230_38, g230_41, g230_42, g230_44, g230_47, g230_48, g230_49, g230_50, g230_53, g230_54, g230_57, mx_isr_ref, mx_isr_null, mx_wt_nil, mx_wt_1, mx_wt_2, mx_wt_3, Option.bind_some, Option.toList_some, Option.toList_none, List.cons_append, List.nil_append, mx_nl_int, mx_nl_ref, mx_nl_null, mx_nl_none, mx_nb0, mx_nb1, mx_fb0, mx_fb1, mx_cat_int, mx_cat_ref, if_true, if_false, not_true_eq_false, not_false_eq_true, mx_wt_4, mx_w4_0, mx_w9_0, mx_w9_1, mx_kn_int, mx_kn_ref, mx_kn_null, Nat.reduceLT, ofn, n10, q, t, l, e2, (sB_f S).1, js_len S, js_char S hi2, q1, q2, t74, b1, nI_1]
theorem jw_text {v k : Nat} {num : Int32} {cs : List Nat} (W : WB h x cp w) (V : VC (x :: R) h v k num cs) (hn : w.length + (wT cs).length ≤ 450) : ∃ (h' : mx_H) (x' cp' : Nat), mx_G (d + 6) 230 0 [some (.ref v), some (.ref 74), none, none] [] h = some (none, h') ∧ WB h' x' cp' (w ++ wT cs) ∧ WX h x cp h' x' cp' := by
  rw [wT_esc] at hn ⊢
  simp only [List.length_append, List.length_cons, List.length_nil] at hn
  obtain ⟨h1, x1, cp1, a1, a2, a3⟩ := jw_c (d := d) W (c := 34) (by decide) (by omega)
  rw [show nI 34 = 34 from rfl] at a1
  obtain ⟨h2, x2, cp2, l3, b1, b2, b3⟩ := jw_textL (d := d) (R := R) cs.length 0 h1 x1 cp1 _ none (by omega) a2 (V.ex a3.ex) (by simp only [List.length_append, List.length_cons, List.length_nil, List.drop_zero]; omega)
  obtain ⟨h3, x3, cp3, c1, c2, c3⟩ := jw_c (d := d) b2 (c := 34) (by decide) (by simp only [List.length_append, List.length_cons, List.length_nil, List.drop_zero]; omega)
  rw [show nI 34 = 34 from rfl] at c1
  refine ⟨h3, x3, cp3, ?_, by simpa using c2, (a3.trans b3).trans c3⟩
  rw [nI_0] at b1
  simp only [g230_0, g230_1, g230_3, g230_6, g230_7, g230_8, mx_isr_ref, mx_isr_null, mx_wt_nil, mx_wt_1, mx_wt_2, mx_wt_3, Option.bind_some, Option.toList_some, Option.toList_none, List.cons_append, List.nil_append, mx_nl_int, mx_nl_ref, mx_nl_null, mx_nl_none, mx_nb0, mx_nb1, mx_fb0, mx_fb1, mx_cat_int, mx_cat_ref, if_true, if_false, not_true_eq_false, not_false_eq_true, mx_wt_4, mx_w4_0, mx_w9_0, mx_w9_1, mx_kn_int, mx_kn_ref, mx_kn_null, Nat.reduceLT, ofn, n10, W.tag, a1]
  rw [b1]
  simp only [g230_60, g230_61, g230_63, g230_66, g230_67, mx_isr_ref, mx_isr_null, mx_wt_nil, mx_wt_1, mx_wt_2, mx_wt_3, Option.bind_some, Option.toList_some, Option.toList_none, List.cons_append, List.nil_append, mx_nl_int, mx_nl_ref, mx_nl_null, mx_nl_none, mx_nb0, mx_nb1, mx_fb0, mx_fb1, mx_cat_int, mx_cat_ref, if_true, if_false, not_true_eq_false, not_false_eq_true, mx_wt_4, mx_w4_0, mx_w9_0, mx_w9_1, mx_kn_int, mx_kn_ref, mx_kn_null, Nat.reduceLT, ofn, n10, b2.tag, c1]
/-- a plain value as it is written -/
def wV (q : Nat × Int × List Nat) : List Nat := if q.1 = 1 then wI q.2.1 else if q.1 = 0 then (if q.2.1 = 1 then w_true else w_false) else wT q.2.2
theorem jw_val {v : Nat} {q : Nat × Int × List Nat} (W : WB h x cp w) (V : VP (x :: R) h v q) (hq : q.1 < 3) (hv : nb q.2.1) (hn : w.length + (wV q).length ≤ 450) : ∃ (h' : mx_H) (x' cp' : Nat), mx_G (d + 7) 223 0 [some (.ref v), some (.ref 74)] [] h = some (none, h') ∧ WB h' x' cp' (w ++ wV q) ∧ WX h x cp h' x' cp' := by
  obtain ⟨s, b, f, t, l, e0, e1, e2, e3, e4, S⟩ := VC_f V.vc
  have t74 := W.tag
  unfold wV at hn ⊢
  by_cases c1 : q.1 = 1
  · rw [if_pos c1] at hn ⊢
    obtain ⟨h1, x1, cp1, a1, a2, a3⟩ := jw_i (d := d + 1) W hv hn
    refine ⟨h1, x1, cp1, ?_, a2, a3⟩
    rw [c1, show nI 1 = 1 from rfl] at e0
    simp only [g223_0, g223_1, g223_4, g223_5, g223_8, g223_9, g223_10, g223_13, g223_16, g223_17, g223_20, g223_21, g223_24, g223_27, g223_28, g223_29, g223_32, g223_33, g223_36, g223_38, g223_41, g223_43, g223_46, g223_47, g223_50, g223_51, g223_52, g223_55, mx_isr_ref, mx_isr_null, mx_wt_nil, mx_wt_1, mx_wt_2, mx_wt_3, Option.bind_some, Option.toList_some, Option.toList_none, List.cons_append, List.nil_append, mx_nl_int, mx_nl_ref, mx_nl_null, mx_nl_none, mx_nb0, mx_nb1, mx_fb0, mx_fb1, mx_cat_int, mx_cat_ref, if_true, if_false, not_true_eq_false, not_false_eq_true, mx_wt_4, mx_w4_0, mx_w9_0, mx_w9_1, mx_kn_int, mx_kn_ref, mx_kn_null, Nat.reduceLT, ofn, n10, t, l, e0, e1, t74, a1]
  · rw [if_neg c1] at hn ⊢
    by_cases c0 : q.1 = 0
    · rw [if_pos c0] at hn ⊢
      rw [c0, show nI 0 = 0 from rfl] at e0
      by_cases cb : q.2.1 = 1
      · rw [if_pos cb] at hn ⊢
        obtain ⟨h1, x1, cp1, a1, a2, a3⟩ := jw_k (d := d + 1) W (k := 3) (by decide) hn
        refine ⟨h1, x1, cp1, ?_, a2, a3⟩
        have q1 : Int32.ofInt q.2.1 = 1 := by rw [cb]; rfl
        rw [q1] at e1
        simp only [g223_0, g223_1, g223_4, g223_5, g223_8, g223_9, g223_10, g223_13, g223_16, g223_17, g223_20, g223_21, g223_24, g223_27, g223_28, g223_29, g223_32, g223_33, g223_36, g223_38, g223_41, g223_43, g223_46, g223_47, g223_50, g223_51, g223_52, g223_55, mx_isr_ref, mx_isr_null, mx_wt_nil, mx_wt_1, mx_wt_2, mx_wt_3, Option.bind_some, Option.toList_some, Option.toList_none, List.cons_append, List.nil_append, mx_nl_int, mx_nl_ref, mx_nl_null, mx_nl_none, mx_nb0, mx_nb1, mx_fb0, mx_fb1, mx_cat_int, mx_cat_ref, if_true, if_false, not_true_eq_false, not_false_eq_true, mx_wt_4, mx_w4_0, mx_w9_0, mx_w9_1, mx_kn_int, mx_kn_ref, mx_kn_null, Nat.reduceLT, ofn, n10, t, l, e0, show ¬ (0 : Int32) = 1 by decide, e1, t74, a1]
      · rw [if_neg cb] at hn ⊢
        obtain ⟨h1, x1, cp1, a1, a2, a3⟩ := jw_k (d := d + 1) W (k := 4) (by decide) hn
        refine ⟨h1, x1, cp1, ?_, a2, a3⟩
        have q1 : ¬ Int32.ofInt q.2.1 = 1 := fun z => cb (by
          have := congrArg Int32.toInt z
          rw [i32_toInt hv] at this
          exact this)
        simp only [g223_0, g223_1, g223_4, g223_5, g223_8, g223_9, g223_10, g223_13, g223_16, g223_17, g223_20, g223_21, g223_24, g223_27, g223_28, g223_29, g223_32, g223_33, g223_36, g223_38, g223_41, g223_43, g223_46, g223_47, g223_50, g223_51, g223_52, g223_55, mx_isr_ref, mx_isr_null, mx_wt_nil, mx_wt_1, mx_wt_2, mx_wt_3, Option.bind_some, Option.toList_some, Option.toList_none, List.cons_append, List.nil_append, mx_nl_int, mx_nl_ref, mx_nl_null, mx_nl_none, mx_nb0, mx_nb1, mx_fb0, mx_fb1, mx_cat_int, mx_cat_ref, if_true, if_false, not_true_eq_false, not_false_eq_true, mx_wt_4, mx_w4_0, mx_w9_0, mx_w9_1, mx_kn_int, mx_kn_ref, mx_kn_null, Nat.reduceLT, ofn, n10, t, l, e0, show ¬ (0 : Int32) = 1 by decide, e1, q1, t74, a1]
    · rw [if_neg c0] at hn ⊢
      obtain ⟨h1, x1, cp1, a1, a2, a3⟩ := jw_text (d := d) W V.vc hn
      refine ⟨h1, x1, cp1, ?_, a2, a3⟩
      have q1 : ¬ nI q.1 = 1 := fun z => c1 ((nI_eq (b := 1) (by omega) (by decide)).mp z)
      have q0 : ¬ nI q.1 = 0 := fun z => c0 ((nI_eq (b := 0) (by omega) (by decide)).mp z)
      simp only [g223_0, g223_1, g223_4, g223_5, g223_8, g223_9, g223_10, g223_13, g223_16, g223_17, g223_20, g223_21, g223_24, g223_27, g223_28, g223_29, g223_32, g223_33, g223_36, g223_38, g223_41, g223_43, g223_46, g223_47, g223_50, g223_51, g223_52, g223_55, mx_isr_ref, mx_isr_null, mx_wt_nil, mx_wt_1, mx_wt_2, mx_wt_3, Option.bind_some, Option.toList_some, Option.toList_none, List.cons_append, List.nil_append, mx_nl_int, mx_nl_ref, mx_nl_null, mx_nl_none, mx_nb0, mx_nb1, mx_fb0, mx_fb1, mx_cat_int, mx_cat_ref, if_true, if_false, not_true_eq_false, not_false_eq_true, mx_wt_4, mx_w4_0, mx_w9_0, mx_w9_1, mx_kn_int, mx_kn_ref, mx_kn_null, Nat.reduceLT, ofn, n10, t, l, e0, q1, q0, a1]
def knm (k : Nat) : List Nat := kts.getD (5 + k) []
def wM (k : Nat) : Option (Nat × Int × List Nat) → List Nat
  | none => []
  | some q => (if k = 0 ∨ k = 6 then [] else [44]) ++ wN (knm k) ++ wV q
theorem jw_mem {a : Value} {o : Option (Nat × Int × List Nat)} (W : WB h x cp w) (O : OV (x :: R) h a o) (hq : ∀ q, o = some q → q.1 < 3) {k : Nat} (hk : k < 8) (hn : w.length + (wM k o).length ≤ 450) : ∃ (h' : mx_H) (x' cp' : Nat), mx_G (d + 8) 215 0 [some (.ref 74), some (.int (nI k)), some a] [] h = some (none, h') ∧ WB h' x' cp' (w ++ wM k o) ∧ WX h x cp h' x' cp' := by
  cases o with
  | none =>
    rw [show a = .null from O]
    refine ⟨h, x, cp, ?_, by simpa [wM] using W, WX.rfl _ _ _⟩
    simp only [g215_0, g215_1, g215_1n, g215_4, mx_isr_ref, mx_isr_null, mx_wt_nil, mx_wt_1, mx_wt_2, mx_wt_3, Option.bind_some, Option.toList_some, Option.toList_none, List.cons_append, List.nil_append, mx_nl_int, mx_nl_ref, mx_nl_null, mx_nl_none, mx_nb0, mx_nb1, mx_fb0, mx_fb1, mx_cat_int, mx_cat_ref, if_true, if_false, not_true_eq_false, not_false_eq_true, mx_wt_4, mx_w4_0, mx_w9_0, mx_w9_1, mx_kn_int, mx_kn_ref, mx_kn_null, Nat.reduceLT, ofn, n10]
  | some q =>
    obtain ⟨v, rfl, V, hv⟩ := O
    unfold wM wN at hn ⊢
    -- perhaps a comma
    obtain ⟨h1, x1, cp1, g1, W1, X1⟩ : ∃ (h1 : mx_H) (x1 cp1 : Nat), mx_G (d + 8) 215 0 [some (.ref 74), some (.int (nI k)), some (.ref v)] [] h = mx_G (d + 8) 215 22 [some (.ref 74), some (.int (nI k)), some (.ref v)] [] h1 ∧ WB h1 x1 cp1 (w ++ if k = 0 ∨ k = 6 then [] else [44]) ∧ WX h x cp h1 x1 cp1 := by
      by_cases c : k = 0 ∨ k = 6
      · rw [if_pos c]
        refine ⟨h, x, cp, ?_, by simpa using W, WX.rfl _ _ _⟩
        rcases c with rfl | rfl
        · simp only [g215_0, g215_1, g215_1n, g215_4, g215_5, g215_6, mx_isr_ref, mx_isr_null, mx_wt_nil, mx_wt_1, mx_wt_2, mx_wt_3, Option.bind_some, Option.toList_some, Option.toList_none, List.cons_append, List.nil_append, mx_nl_int, mx_nl_ref, mx_nl_null, mx_nl_none, mx_nb0, mx_nb1, mx_fb0, mx_fb1, mx_cat_int, mx_cat_ref, if_true, if_false, not_true_eq_false, not_false_eq_true, mx_wt_4, mx_w4_0, mx_w9_0, mx_w9_1, mx_kn_int, mx_kn_ref, mx_kn_null, Nat.reduceLT, ofn, n10, show nI 0 = 0 from rfl]
        · simp only [g215_0, g215_1, g215_1n, g215_4, g215_5, g215_6, g215_9, g215_10, g215_12, mx_isr_ref, mx_isr_null, mx_wt_nil, mx_wt_1, mx_wt_2, mx_wt_3, Option.bind_some, Option.toList_some, Option.toList_none, List.cons_append, List.nil_append, mx_nl_int, mx_nl_ref, mx_nl_null, mx_nl_none, mx_nb0, mx_nb1, mx_fb0, mx_fb1, mx_cat_int, mx_cat_ref, if_true, if_false, not_true_eq_false, not_false_eq_true, mx_wt_4, mx_w4_0, mx_w9_0, mx_w9_1, mx_kn_int, mx_kn_ref, mx_kn_null, Nat.reduceLT, ofn, n10, show nI 6 = 6 from rfl, show ¬ (6 : Int32) = 0 by decide]
      · rw [if_neg c] at hn ⊢
        simp only [List.length_append, List.length_cons, List.length_nil] at hn
        obtain ⟨h1, x1, cp1, a1, a2, a3⟩ := jw_c (d := d + 2) W (c := 44) (by decide) (by omega)
        rw [show nI 44 = 44 from rfl] at a1
        refine ⟨h1, x1, cp1, ?_, a2, a3⟩
        have q0 : ¬ nI k = 0 := fun z => c (Or.inl ((nI_eq (b := 0) (by omega) (by decide)).mp z))
        have q6 : ¬ nI k = 6 := fun z => c (Or.inr ((nI_eq (b := 6) (by omega) (by decide)).mp z))
        simp only [g215_0, g215_1, g215_1n, g215_4, g215_5, g215_6, g215_9, g215_10, g215_12, g215_15, g215_16, g215_18, g215_21, mx_isr_ref, mx_isr_null, mx_wt_nil, mx_wt_1, mx_wt_2, mx_wt_3, Option.bind_some, Option.toList_some, Option.toList_none, List.cons_append, List.nil_append, mx_nl_int, mx_nl_ref, mx_nl_null, mx_nl_none, mx_nb0, mx_nb1, mx_fb0, mx_fb1, mx_cat_int, mx_cat_ref, if_true, if_false, not_true_eq_false, not_false_eq_true, mx_wt_4, mx_w4_0, mx_w9_0, mx_w9_1, mx_kn_int, mx_kn_ref, mx_kn_null, Nat.reduceLT, ofn, n10, q0, q6, W.tag, a1]
    generalize hc : (if k = 0 ∨ k = 6 then ([] : List Nat) else [44]) = cm at *
    simp only [List.length_append, List.length_cons, List.length_nil] at hn
    have k26 : (kts.getD 26 []).length = 2 := rfl
    obtain ⟨h2, x2, cp2, a1, a2, a3⟩ := jw_c (d := d + 2) W1 (c := 34) (by decide) (by simp; omega)
    rw [show nI 34 = 34 from rfl] at a1
    obtain ⟨h3, x3, cp3, b1, b2, b3⟩ := jw_k (d := d + 2) a2 (k := 5 + k) (by omega) (by simp only [List.length_append, List.length_cons, List.length_nil, k26]; unfold knm at hn; omega)
    obtain ⟨h4, x4, cp4, c1, c2, c3⟩ := jw_k (d := d + 2) b2 (k := 26) (by decide) (by simp only [List.length_append, List.length_cons, List.length_nil, k26]; unfold knm at hn; omega)
    have X := ((X1.trans a3).trans b3).trans c3
    obtain ⟨h5, x5, cp5, e1, e2, e3⟩ := jw_val (d := d) c2 (V.ex X.ex) (hq q rfl) hv (by simp only [List.length_append, List.length_cons, List.length_nil, k26]; unfold knm at hn; omega)
    refine ⟨h5, x5, cp5, ?_, ?_, X.trans e3⟩
    · have tv_ : mx_tag h4 v = some (.inl 4) := by obtain ⟨s, e, -⟩ := V.ex X.ex; exact ce_t e
      rw [g1]
      simp only [g215_22, g215_23, g215_25, g215_28, g215_29, g215_30, g215_31, g215_34, g215_37, g215_38, g215_39, g215_41, g215_44, g215_45, g215_46, g215_47, g215_50, mx_isr_ref, mx_isr_null, mx_wt_nil, mx_wt_1, mx_wt_2, mx_wt_3, Option.bind_some, Option.toList_some, Option.toList_none, List.cons_append, List.nil_append, mx_nl_int, mx_nl_ref, mx_nl_null, mx_nl_none, mx_nb0, mx_nb1, mx_fb0, mx_fb1, mx_cat_int, mx_cat_ref, if_true, if_false, not_true_eq_false, not_false_eq_true, mx_wt_4, mx_w4_0, mx_w9_0, mx_w9_1, mx_kn_int, mx_kn_ref, mx_kn_null, Nat.reduceLT, ofn, n10, W1.tag, a1, ja_name k hk, a2.tag, b1, b2.tag, c1, tv_, e1]
    · have : w ++ cm ++ [34] ++ kts.getD (5 + k) [] ++ kts.getD 26 [] ++ wV q = w ++ (cm ++ ([34] ++ knm k ++ [34, 58]) ++ wV q) := by simp [knm, kts]
      rw [← this]
      exact e2
end
