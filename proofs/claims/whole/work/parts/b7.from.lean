/-! Item.from and Item.wholeOnes. -/
def MB (M : List Nat) (h : mx_H) : Prop := ∀ a ∈ M, a < h.length
theorem MB.le {M : List Nat} {h h' : mx_H} (m : MB M h) (l : h.length ≤ h'.length) : MB M h' := fun a ha => Nat.lt_of_lt_of_le (m a ha) l
theorem Ex.up1 {M : List Nat} {h : mx_H} {e k : Nat} {v : Value} (he : e ∈ M) : Ex M h M (mx_up h e k v) := (Fr.up (F := [e]) (by simp)).ex (fun a ha z => by rw [List.mem_singleton] at ha; exact z.2 (ha ▸ he)) (fun a ha => Or.inl ha)
section
variable {d : Nat} {M : List Nat} {ts : List tk}
theorem ji_fromL {n v e : Nat} (he : 63 ≤ e) : ∀ (l : List Nat) (f : Value) (h : mx_H) (a : Option (List Nat) × Option Bool) (l3 : Option Value), KK h → pG (cVl ts n (e :: M) h) ts true (e :: M) h f l .null → IC (e :: M) h e a.1 a.2 0 0 →
    (∀ q, iS ts l a = some q → ∃ h', mx_G (d + 3) 126 25 [some (.ref v), some (.ref e), some f, l3] [] h = some (some (.ref e), h') ∧ IC (e :: M) h' e q.1 q.2 0 0 ∧ Fr [e] h h' ∧ mw h' = mw h) ∧
    (iS ts l a = none → ∃ h', mx_G (d + 3) 126 25 [some (.ref v), some (.ref e), some f, l3] [] h = some (some .null, h') ∧ Fr [e] h h' ∧ mw h' = mw h) := by
  have hnO : mt_nO ≤ e := by rw [show mt_nO = 63 by decide]; exact he
  intro l
  induction l with
  | nil =>
    intro f h a l3 K G I
    rw [show f = .null from G]
    refine ⟨fun q hq => ?_, fun z => by cases z⟩
    cases hq
    refine ⟨h, ?_, I, Fr.rfl _ _, rfl⟩
    simp only [g126_25, g126_26, g126_26n, g126_83, g126_84, mx_isr_ref, mx_isr_null, mx_wt_nil, mx_wt_1, mx_wt_2, mx_wt_3, Option.bind_some, Option.toList_some, Option.toList_none, List.cons_append, List.nil_append, mx_nl_int, mx_nl_ref, mx_nl_null, mx_nl_none, mx_nb0, mx_nb1, mx_fb0, mx_fb1, mx_cat_int, mx_cat_ref, if_true, if_false, not_true_eq_false, not_false_eq_true, mx_wt_4, mx_w4_0, mx_w9_0, mx_w9_1, mx_kn_int, mx_kn_ref, mx_kn_null, Nat.reduceLT, ofn, n10]
  | cons m l ih =>
    rintro f h a l3 K ⟨p, s, w, f', rfl, e2, e3, ⟨b, b1, b2, S⟩, V, G⟩ I
    have hf' : mx_isr f' = true := pG_isr G rfl
    obtain ⟨num, VC1, hk5⟩ := cVl_vc V
    have tp : mx_tag h p = some (.inl 6) := ce_t e2
    have lp : mx_ln h p = 3 := by rw [ce_n e2]; rfl
    have p0 : mx_el h p 0 = .ref s := by rw [ce_e e2]; rfl
    have p1 : mx_el h p 1 = .ref w := by rw [ce_e e2]; rfl
    have p2 : mx_el h p 2 = f' := by rw [ce_e e2]; rfl
    have A := ja_ofI (d := d) K.1 S
    have pe : p ≠ e := fun z => e3.2 (by rw [z]; simp)
    obtain ⟨a1, a2, i1, i2, i3⟩ := I
    have te : mx_tag h e = some (.inl 8) := ce_t i1
    rw [if_pos rfl] at A
    have q67 : ¬ (¬ (6 : Int32) = 6) := by decide
    have q77 : ¬ (7 : Int32) = 6 := by decide
    have hmv : mv true m = m + 2 := rfl
    rw [hmv] at V VC1 hk5
    unfold iS
    by_cases c1 : nmf ts m = w_v
    · have A1 : aIi (nmf ts m) = 6 := by unfold aIi; rw [if_pos c1]
      rw [A1] at A
      rw [if_pos c1]
      have Fi := ja_fits (d := d) K VC1 hk5 (at_ := 6) (by decide)
      have key := vk_2 V
      rw [show nI 6 = 6 from rfl, show kdA 6 = 2 from rfl] at Fi
      by_cases c2 : ftx ts (m + 2) = true
      · rw [if_pos (key.mpr c2)] at Fi
        rw [if_pos c2]
        have hsc : sc ts (m + 2) = 2 := by unfold ftx at c2; exact (of_decide_eq_true c2).1
        have O := cVl_ov V (fun z => by omega) (by omega)
        have hpk : pk ts (m + 2) = (2, 0, tx ts (m + 2)) := by unfold pk; rw [hsc]; rfl
        rw [hpk] at O
        have E := Ex.up1 (h := h) (k := 0) (v := .ref w) (show e ∈ e :: M by simp)
        have K' : KK (mx_up h e 0 (.ref w)) := K.fr (Fr.up (F := [e]) (by simp)) (by simpa using he)
        obtain ⟨j1, j2⟩ := ih f' (mx_up h e 0 (.ref w)) (some (tx ts (m + 2)), a.2) (some (.int 6)) K' (pG.ex (fun w u => cVl.ex E _ _ _) E _ _ _ G) ⟨.ref w, a2, by rw [c_up i1]; rfl, O.ex E, i3.ex E⟩
        have p2' : mx_el (mx_up h e 0 (.ref w)) p 2 = f' := by rw [mx_el_up, if_neg (fun z => pe z.1)]; exact p2
        have hG : mx_G (d + 3) 126 25 [some (.ref v), some (.ref e), some (.ref p), l3] [] h = mx_G (d + 3) 126 25 [some (.ref v), some (.ref e), some f', some (.int 6)] [] (mx_up h e 0 (.ref w)) := by
          rw [g126_25 mx_isr_ref]
          simp only [g126_26, g126_26n, g126_29, g126_30, g126_33, g126_36, g126_37, g126_38, g126_39, g126_42, g126_45, g126_48, g126_49, g126_50, g126_51, g126_53, g126_56, g126_57, g126_58, g126_61, g126_64, g126_67, g126_68, g126_69, g126_72, g126_75, g126_76, g126_79, g126_80, mx_isr_ref, mx_isr_null, mx_wt_nil, mx_wt_1, mx_wt_2, mx_wt_3, Option.bind_some, Option.toList_some, Option.toList_none, List.cons_append, List.nil_append, mx_nl_int, mx_nl_ref, mx_nl_null, mx_nl_none, mx_nb0, mx_nb1, mx_fb0, mx_fb1, mx_cat_int, mx_cat_ref, if_true, if_false, not_true_eq_false, not_false_eq_true, mx_wt_4, mx_w4_0, mx_w9_0, mx_w9_1, mx_kn_int, mx_kn_ref, mx_kn_null, Nat.reduceLT, ofn, n10, tp, lp, p0, p1, A, Fi, q67, te, hnO, mx_tag_up, mx_ln_up, p2', hf', isr_kn hf']
        rw [hG]
        refine ⟨fun q hq => ?_, fun hq => ?_⟩
        · obtain ⟨h', y1, y2, y3, y4⟩ := j1 q hq
          exact ⟨h', y1, y2, (Fr.up (by simp)).trans y3 (fun x hx => Or.inl hx), by rw [y4, mw_up]⟩
        · obtain ⟨h', y1, y3, y4⟩ := j2 hq
          exact ⟨h', y1, (Fr.up (by simp)).trans y3 (fun x hx => Or.inl hx), by rw [y4, mw_up]⟩
      · rw [if_neg (fun z => c2 (key.mp z))] at Fi
        rw [if_neg c2]
        refine ⟨fun q hq => (by cases hq), fun _ => ⟨h, ?_, Fr.rfl _ _, rfl⟩⟩
        simp only [g126_25, g126_26, g126_26n, g126_29, g126_30, g126_33, g126_36, g126_37, g126_38, g126_39, g126_42, g126_45, g126_48, g126_49, mx_isr_ref, mx_isr_null, mx_wt_nil, mx_wt_1, mx_wt_2, mx_wt_3, Option.bind_some, Option.toList_some, Option.toList_none, List.cons_append, List.nil_append, mx_nl_int, mx_nl_ref, mx_nl_null, mx_nl_none, mx_nb0, mx_nb1, mx_fb0, mx_fb1, mx_cat_int, mx_cat_ref, if_true, if_false, not_true_eq_false, not_false_eq_true, mx_wt_4, mx_w4_0, mx_w9_0, mx_w9_1, mx_kn_int, mx_kn_ref, mx_kn_null, Nat.reduceLT, ofn, n10, tp, lp, p0, p1, A, Fi]
    · rw [if_neg c1]
      by_cases c3 : nmf ts m = w_p
      · have A1 : aIi (nmf ts m) = 7 := by unfold aIi; rw [if_neg c1, if_pos c3]
        rw [A1] at A
        rw [if_pos c3]
        have Fi := ja_fits (d := d) K VC1 hk5 (at_ := 7) (by decide)
        have key := vk_0 V
        rw [show nI 7 = 7 from rfl, show kdA 7 = 0 from rfl] at Fi
        by_cases c2 : sc ts (m + 2) = 3
        · rw [if_pos (key.mpr c2)] at Fi
          rw [if_pos c2]
          have O := cVl_ov V (fun z => by omega) (by omega)
          have hpk : pk ts (m + 2) = (0, if tb ts (m + 2) = true then 1 else 0, []) := by unfold pk; rw [c2]; rfl
          rw [hpk] at O
          have E := Ex.up1 (h := h) (k := 1) (v := .ref w) (show e ∈ e :: M by simp)
          have K' : KK (mx_up h e 1 (.ref w)) := K.fr (Fr.up (F := [e]) (by simp)) (by simpa using he)
          obtain ⟨j1, j2⟩ := ih f' (mx_up h e 1 (.ref w)) (a.1, some (tb ts (m + 2))) (some (.int 7)) K' (pG.ex (fun w u => cVl.ex E _ _ _) E _ _ _ G) ⟨a1, .ref w, by rw [c_up i1]; rfl, i2.ex E, O.ex E⟩
          have p2' : mx_el (mx_up h e 1 (.ref w)) p 2 = f' := by rw [mx_el_up, if_neg (fun z => pe z.1)]; exact p2
          have hG : mx_G (d + 3) 126 25 [some (.ref v), some (.ref e), some (.ref p), l3] [] h = mx_G (d + 3) 126 25 [some (.ref v), some (.ref e), some f', some (.int 7)] [] (mx_up h e 1 (.ref w)) := by
            rw [g126_25 mx_isr_ref]
            simp only [g126_26, g126_26n, g126_29, g126_30, g126_33, g126_36, g126_37, g126_38, g126_39, g126_42, g126_45, g126_48, g126_49, g126_50, g126_51, g126_53, g126_56, g126_57, g126_58, g126_61, g126_64, g126_67, g126_68, g126_69, g126_72, g126_75, g126_76, g126_79, g126_80, mx_isr_ref, mx_isr_null, mx_wt_nil, mx_wt_1, mx_wt_2, mx_wt_3, Option.bind_some, Option.toList_some, Option.toList_none, List.cons_append, List.nil_append, mx_nl_int, mx_nl_ref, mx_nl_null, mx_nl_none, mx_nb0, mx_nb1, mx_fb0, mx_fb1, mx_cat_int, mx_cat_ref, if_true, if_false, not_true_eq_false, not_false_eq_true, mx_wt_4, mx_w4_0, mx_w9_0, mx_w9_1, mx_kn_int, mx_kn_ref, mx_kn_null, Nat.reduceLT, ofn, n10, tp, lp, p0, p1, A, Fi, q77, te, hnO, mx_tag_up, mx_ln_up, p2', hf', isr_kn hf']
          rw [hG]
          refine ⟨fun q hq => ?_, fun hq => ?_⟩
          · obtain ⟨h', y1, y2, y3, y4⟩ := j1 q hq
            exact ⟨h', y1, y2, (Fr.up (by simp)).trans y3 (fun x hx => Or.inl hx), by rw [y4, mw_up]⟩
          · obtain ⟨h', y1, y3, y4⟩ := j2 hq
            exact ⟨h', y1, (Fr.up (by simp)).trans y3 (fun x hx => Or.inl hx), by rw [y4, mw_up]⟩
        · rw [if_neg (fun z => c2 (key.mp z))] at Fi
          rw [if_neg c2]
          refine ⟨fun q hq => (by cases hq), fun _ => ⟨h, ?_, Fr.rfl _ _, rfl⟩⟩
          simp only [g126_25, g126_26, g126_26n, g126_29, g126_30, g126_33, g126_36, g126_37, g126_38, g126_39, g126_42, g126_45, g126_48, g126_49, mx_isr_ref, mx_isr_null, mx_wt_nil, mx_wt_1, mx_wt_2, mx_wt_3, Option.bind_some, Option.toList_some, Option.toList_none, List.cons_append, List.nil_append, mx_nl_int, mx_nl_ref, mx_nl_null, mx_nl_none, mx_nb0, mx_nb1, mx_fb0, mx_fb1, mx_cat_int, mx_cat_ref, if_true, if_false, not_true_eq_false, not_false_eq_true, mx_wt_4, mx_w4_0, mx_w9_0, mx_w9_1, mx_kn_int, mx_kn_ref, mx_kn_null, Nat.reduceLT, ofn, n10, tp, lp, p0, p1, A, Fi]
      · have A1 : aIi (nmf ts m) = -1 := by unfold aIi; rw [if_neg c1, if_neg c3]
        rw [A1] at A
        rw [if_neg c3]
        have Fi := ja_fitsN (d := d) VC1 hk5
        refine ⟨fun q hq => (by cases hq), fun _ => ⟨h, ?_, Fr.rfl _ _, rfl⟩⟩
        simp only [g126_25, g126_26, g126_26n, g126_29, g126_30, g126_33, g126_36, g126_37, g126_38, g126_39, g126_42, g126_45, g126_48, g126_49, mx_isr_ref, mx_isr_null, mx_wt_nil, mx_wt_1, mx_wt_2, mx_wt_3, Option.bind_some, Option.toList_some, Option.toList_none, List.cons_append, List.nil_append, mx_nl_int, mx_nl_ref, mx_nl_null, mx_nl_none, mx_nb0, mx_nb1, mx_fb0, mx_fb1, mx_cat_int, mx_cat_ref, if_true, if_false, not_true_eq_false, not_false_eq_true, mx_wt_4, mx_w4_0, mx_w9_0, mx_w9_1, mx_kn_int, mx_kn_ref, mx_kn_null, Nat.reduceLT, ofn, n10, tp, lp, p0, p1, A, Fi]
variable {h : mx_H}
/-- new things are no part of what stood fast -/
theorem Ex.fresh {M' : List Nat} {h h' : mx_H} (f : Fr [] h h') (hM : ∀ a ∈ M', a ∈ M ∨ h.length ≤ a) : Ex M h M' h' := f.ex (fun a ha => absurd ha (by simp)) hM
theorem ji_from {n v t : Nat} (K : KK h) (hl : 102 ≤ h.length) (V : cVl ts n M h v t) :
    (∀ q, iO ts t = some q → ∃ h', mx_G (d + 3) 126 0 [some (.ref v), none, none, none] [] h = some (some (.ref h.length), h') ∧ IC (h.length :: M) h' h.length q.1 q.2 0 0 ∧ Fr [] h h' ∧ mw h' = mw h + 16 ∧ h.length < h'.length) ∧
    (iO ts t = none → ∃ h', mx_G (d + 3) 126 0 [some (.ref v), none, none, none] [] h = some (some .null, h') ∧ Fr [] h h' ∧ mw h' ≤ mw h + 16) := by
  obtain ⟨num, VC1, hk5⟩ := cVl_vc V
  obtain ⟨s0, b0, f0, tv_, lv, v0, v1, v2, v3, hf0, S0⟩ := VC_f VC1
  unfold iO
  by_cases c : tI ts t 123 = true
  · rw [if_pos c]
    have hvk : vkd ts t = 3 := by unfold vkd; rw [if_pos c]
    rw [hvk, show nI 3 = 3 from rfl] at v0
    rcases cVl_c V with ⟨h1, n', -, f, s, a1, a2, a3, a4⟩ | ⟨h0, h1, -⟩ | ⟨-, h1, -⟩
    · generalize hg : h ++ [((.inl 8 : Nat ⊕ FieldType), [Value.null, .null, .int 0, .int 0])] = g
      have eg : g[h.length]? = some (.inl 8, [.null, .null, .int 0, .int 0]) := by rw [← hg, c_app]
      have Fg : Fr [] h g := by rw [← hg]; exact Fr.app _ _ _
      have gl : g.length = h.length + 1 := by rw [← hg]; simp
      have gw : mw g = mw h + 16 := by rw [← hg, mw_app]; rfl
      generalize hg2 : mx_up (mx_up g h.length 0 .null) h.length 1 .null = g2
      have eg2 : g2[h.length]? = some (.inl 8, [.null, .null, .int 0, .int 0]) := by rw [← hg2, c_up (c_up eg)]; rfl
      have F2 : Fr [] h g2 := Fg.trans (show Fr [h.length] g g2 by rw [← hg2]; exact (Fr.up (by simp)).trans (Fr.up (F := [h.length]) (by simp)) (fun x hx => Or.inl hx)) (fun x hx => by rw [List.mem_singleton] at hx; exact Or.inr (by omega))
      have g2w : mw g2 = mw h + 16 := by rw [← hg2, mw_up, mw_up, gw]
      have g2l : g2.length = h.length + 1 := by rw [← hg2, mx_len_up, mx_len_up, gl]
      have E : Ex M h (h.length :: M) g2 := Ex.fresh F2 (fun a ha => by
        rcases List.mem_cons.mp ha with z | z
        · exact Or.inr (by omega)
        · exact Or.inl z)
      have hfi : mx_isr f = true := pG_isr a4 rfl
      obtain ⟨j1, j2⟩ := ji_fromL (d := d) (M := M) (n := n') (v := v) (e := h.length) (by omega) (kd ts t) f g2 (none, none) none (K.fr F2 (by simp)) (pG.ex (fun w u => cVl.ex E _ _ _) E _ _ _ a4) ⟨.null, .null, eg2, rfl, rfl⟩
      have hn8 : mt_nO ≤ h.length := by rw [show mt_nO = 63 by decide]; omega
      have J127 : mx_G (d + 2) 127 0 [some (.ref h.length), some .null, some .null] [] g = some (none, g2) := by
        simp only [g127_0, g127_1, g127_4, g127_5, g127_6, g127_9, g127_10, g127_11, g127_14, mx_isr_ref, mx_isr_null, mx_wt_nil, mx_wt_1, mx_wt_2, mx_wt_3, Option.bind_some, Option.toList_some, Option.toList_none, List.cons_append, List.nil_append, mx_nl_int, mx_nl_ref, mx_nl_null, mx_nl_none, mx_nb0, mx_nb1, mx_fb0, mx_fb1, mx_cat_int, mx_cat_ref, if_true, if_false, not_true_eq_false, not_false_eq_true, mx_wt_4, mx_w4_0, mx_w9_0, mx_w9_1, mx_kn_int, mx_kn_ref, mx_kn_null, Nat.reduceLT, ofn, n10, ce_t eg, hn8, mx_tag_up, hg2]
      have cv2 := F2.at a1 (by simp)
      have hG : mx_G (d + 3) 126 0 [some (.ref v), none, none, none] [] h = mx_G (d + 3) 126 25 [some (.ref v), some (.ref h.length), some f, none] [] g2 := by
        have x3 : mx_el g2 v 3 = f := by rw [ce_e cv2]; rfl
        have xl : mx_ln g2 v = 4 := by rw [ce_n cv2]; rfl
        simp only [g126_0, g126_1, g126_4, g126_5, g126_8, g126_9, g126_10, g126_13, g126_14, g126_15, g126_16, g126_19, g126_20, g126_21, g126_24, mx_isr_ref, mx_isr_null, mx_wt_nil, mx_wt_1, mx_wt_2, mx_wt_3, Option.bind_some, Option.toList_some, Option.toList_none, List.cons_append, List.nil_append, mx_nl_int, mx_nl_ref, mx_nl_null, mx_nl_none, mx_nb0, mx_nb1, mx_fb0, mx_fb1, mx_cat_int, mx_cat_ref, if_true, if_false, not_true_eq_false, not_false_eq_true, mx_wt_4, mx_w4_0, mx_w9_0, mx_w9_1, mx_kn_int, mx_kn_ref, mx_kn_null, Nat.reduceLT, ofn, n10, tv_, lv, v0, hg, ce_t eg, J127, ce_t cv2, xl, x3, hfi, isr_kn hfi]
      rw [hG]
      refine ⟨fun q hq => ?_, fun hq => ?_⟩
      · obtain ⟨h', y1, y2, y3, y4⟩ := j1 q hq
        have := y3.1
        exact ⟨h', y1, y2, F2.trans y3 (fun x hx => by rw [List.mem_singleton] at hx; exact Or.inr (by omega)), by omega, by omega⟩
      · obtain ⟨h', y1, y3, y4⟩ := j2 hq
        exact ⟨h', y1, F2.trans y3 (fun x hx => by rw [List.mem_singleton] at hx; exact Or.inr (by omega)), by omega⟩
    · rw [c] at h0; cases h0
    · rw [c] at h1; cases h1
  · rw [if_neg c]
    refine ⟨fun q hq => (by cases hq), fun _ => ⟨h, ?_, Fr.rfl _ _, by omega⟩⟩
    have hvk : ¬ vkd ts t = 3 := by
      unfold vkd
      rw [if_neg c]
      split
      · decide
      · unfold pk
        split
        · show ¬ 1 = 3; decide
        · split
          · show ¬ 2 = 3; decide
          · show ¬ 0 = 3; decide
    have q : ¬ nI (vkd ts t) = 3 := fun z => hvk ((nI_eq (b := 3) (by omega) (by decide)).mp z)
    simp only [g126_0, g126_1, g126_4, g126_5, g126_8, g126_9, mx_isr_ref, mx_isr_null, mx_wt_nil, mx_wt_1, mx_wt_2, mx_wt_3, Option.bind_some, Option.toList_some, Option.toList_none, List.cons_append, List.nil_append, mx_nl_int, mx_nl_ref, mx_nl_null, mx_nl_none, mx_nb0, mx_nb1, mx_fb0, mx_fb1, mx_cat_int, mx_cat_ref, if_true, if_false, not_true_eq_false, not_false_eq_true, mx_wt_4, mx_w4_0, mx_w9_0, mx_w9_1, mx_kn_int, mx_kn_ref, mx_kn_null, Nat.reduceLT, ofn, n10, tv_, lv, v0, q]
end
