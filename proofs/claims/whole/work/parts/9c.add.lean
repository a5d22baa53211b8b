section
variable {d : Nat} {h : mx_H} {ts : List tk}
def xG (l : List itf) (k : Nat) : itf := l.getD k (([], none), false)
/-- the draft's items and their marks -/
def dI (h : mx_H) (l : List itf) : Prop := l.length ≤ 4 ∧ mi h 77 659 = nI l.length ∧ (∀ x ∈ l, txOk x.1.1) ∧ (∀ k, k < l.length → itR h 8 k (xG l k).1) ∧ ∀ k, k < 5 → mi h 99 k = if (xG l k).2 = true then 1 else 0
theorem xG_1 (l : List itf) (k : Nat) : iG (l.map fun x => x.1) k = (xG l k).1 := by
  unfold iG xG
  rw [List.getD_eq_getElem?_getD, List.getD_eq_getElem?_getD, List.getElem?_map]
  cases l[k]? <;> rfl
theorem dI_w {l : List itf} (D : dI h l) : wIt8 h (l.map fun x => x.1) := by
  obtain ⟨a, b, c, e, -⟩ := D
  refine ⟨by rw [List.length_map]; exact a, by rw [List.length_map]; exact b, fun x hx => ?_, fun k hk => ?_⟩
  · obtain ⟨y, hy, rfl⟩ := List.mem_map.1 hx
    exact c y hy
  · rw [xG_1]
    rw [List.length_map] at hk
    exact e k hk
theorem xG_set {l : List itf} {i : Nat} (hi : i < l.length) (x : itf) (k : Nat) : xG (l.set i x) k = if k = i then x else xG l k := by
  unfold xG
  rw [List.getD_eq_getElem?_getD, List.getD_eq_getElem?_getD, List.getElem?_set]
  by_cases e : i = k
  · subst e
    rw [if_pos rfl, if_pos hi, if_pos rfl]
    rfl
  · rw [if_neg e, if_neg (fun z => e z.symm)]
theorem xG_app (l : List itf) (x : itf) (k : Nat) : xG (l ++ [x]) k = if k = l.length then x else xG l k := by
  unfold xG
  rw [List.getD_eq_getElem?_getD, List.getD_eq_getElem?_getD, List.getElem?_append]
  by_cases e : k < l.length
  · rw [if_pos e, if_neg (by omega)]
  · rw [if_neg e]
    by_cases e2 : k = l.length
    · rw [if_pos e2, show k - l.length = 0 by omega]
      rfl
    · rw [if_neg e2, List.getElem?_eq_none (by simp only [List.length_cons, List.length_nil]; omega), List.getElem?_eq_none (by omega)]
theorem xG_out {l : List itf} {k : Nat} (hk : l.length ≤ k) : xG l k = (([], none), false) := by
  unfold xG
  rw [List.getD_eq_getElem?_getD, List.getElem?_eq_none hk]
  rfl
theorem mgs_wix (x : itm) : ∀ l, mgs x l = if wix x.1 (l.map fun y => y.1) < l.length then some (l.set (wix x.1 (l.map fun y => y.1)) (gai (xG l (wix x.1 (l.map fun y => y.1))) none x.2)) else none := by
  intro l
  induction l with
  | nil => rfl
  | cons y l ih =>
    rw [mgs, List.map_cons, wix]
    by_cases c : y.1.1 = x.1
    · rw [if_pos c, if_pos c, if_pos (by simp)]
      rfl
    · rw [if_neg c, if_neg c, ih]
      by_cases c2 : wix x.1 (l.map fun y => y.1) < l.length
      · rw [if_pos c2, if_pos (by simp only [List.length_cons]; omega)]
        rfl
      · rw [if_neg c2, if_neg (by simp only [List.length_cons]; omega)]
        rfl
theorem wix_lt {v : List Nat} : ∀ {l : List itm}, wix v l < l.length → (iG l (wix v l)).1 = v := by
  intro l
  induction l with
  | nil => intro z; exact absurd z (Nat.lt_irrefl _)
  | cons y l ih =>
    intro z
    rw [wix] at z ⊢
    by_cases c : y.1 = v
    · rw [if_pos c]; exact c
    · rw [if_neg c] at z ⊢
      exact ih (by simp only [List.length_cons] at z; omega)
theorem gl_v {t m : Nat} (hg : (kd ts t).all (gl ts) = true) (hm : fnd ts (kd ts t) w_v = some m) : ftx ts (m + 2) = true := by
  obtain ⟨a, b⟩ := fnd_mem hm
  have := List.all_eq_true.1 hg m a
  unfold gl at this
  have h2 : ¬ nmf ts m = w_p := by rw [b]; decide
  simp [b, h2] at this
  rcases this with z | z
  · exact z
  · exact absurd z.1 (by decide)
/-- a whole item's places -/
theorem iW_some {t : Nat} (hv : vOk ts t) {x : itm} (e : iW ts t = some x) : tI ts t 123 = true ∧ (kd ts t).all (gl ts) = true ∧ (∃ m, fnd ts (kd ts t) w_v = some m ∧ ftx ts (m + 2) = true ∧ x.1 = tx ts (m + 2)) ∧ itO ts t = (some x.1, x.2) := by
  rw [iW_val hv] at e
  by_cases c : tI ts t 123 = true ∧ (kd ts t).all (gl ts) = true
  · rw [if_pos c] at e
    unfold itO at e ⊢
    cases z : fnd ts (kd ts t) w_v with
    | none => rw [z] at e; cases e
    | some m =>
      rw [z] at e
      have e : (tx ts (m + 2), (fnd ts (kd ts t) w_p).map fun m => tb ts (m + 2)) = x := Option.some.inj e
      refine ⟨c.1, c.2, ⟨m, rfl, gl_v c.2 z, by rw [← e]⟩, by rw [← e]; rfl⟩
  · rw [if_neg c] at e
    cases e
theorem rm_addItem (S : rm_TK h ts) (K : tkOK ts) {l : List itf} (D : dI h l) {t : Nat} (hv : vOk ts t) {x : itm} (hx : iW ts t = some x) :
    ∃ h', mx_G (d + 5) 315 0 [some (.ref 76), some (.int (nI t)), none, none, none] [] h = some (some (.int (if (mg l x).isSome = true then 1 else 0)), h') ∧ mf P79 h h' ∧ (∀ i, i < 659 → mi h' 77 i = mi h 77 i) ∧ ∀ l', mg l x = some l' → dI h' l' := by
  have T := S.1.1
  have hl := S.1.2.1
  obtain ⟨d1, d2, d3, d4, d5⟩ := id D
  have W := dI_w D
  obtain ⟨ho, hg, ⟨m, hm, hf, xm⟩, io⟩ := iW_some hv hx
  have io1 : (itO ts t).1 = some x.1 := by rw [io]
  have io2 : (itO ts t).2 = x.2 := by rw [io]
  have iw := rm_itemWith (d := d) S K W hv ho hm hf
  rw [← xm] at iw
  have f19 := rm_f19 (d := d + 4) T W
  rw [List.length_map] at f19
  have mp := rm_member (d := d + 1) S hv ho w_p_ok.2.2 w_p_ok.1 w_p_ok.2.1
  unfold mbi at mp
  have il := wix_le x.1 (l.map fun y => y.1)
  rw [List.length_map] at il
  unfold mg
  rw [mgs_wix]
  generalize ei : wix x.1 (l.map fun y => y.1) = i at *
  by_cases c : i < l.length
  · rw [if_pos c]
    have e1 : ¬ nI l.length ≤ nI i := nI_ge c (by omega)
    cases z : fnd ts (kd ts t) w_p with
    | none =>
      rw [z] at mp
      have x2 : x.2 = none := by rw [← io2]; unfold itO; rw [z]; rfl
      have gg : l.set i (gai (xG l i) none x.2) = l := by
        rw [x2]
        show l.set i (xG l i) = l
        unfold xG
        rw [List.getD_eq_getElem?_getD, List.getElem?_eq_getElem c]
        exact List.set_getElem_self c
      refine ⟨h, ?_, mf_rfl T, fun _ _ => rfl, fun l' e => ?_⟩
      · simp only [r315_0, r315_1, r315_3, r315_5, r315_8, r315_9, r315_10, r315_11, r315_14, r315_15, r315_16, r315_17, r315_20, r315_23, r315_25, r315_26, r315_27, r315_30, r315_32, r315_35, r315_36, r315_37, r315_38, r315_40, r315_43, r315_46, r315_47, mx_isr_ref, mx_isr_null, mx_wt_nil, mx_wt_1, mx_wt_2, mx_wt_3, Option.bind_some, Option.toList_some, Option.toList_none, List.cons_append, List.nil_append, mx_nl_int, mx_nl_ref, mx_nl_null, mx_nl_none, mx_nb0, mx_nb1, mx_fb0, mx_fb1, mx_cat_int, mx_cat_ref, if_true, if_false, not_true_eq_false, not_false_eq_true, T, f19, iw, mp, e1, show (-1 : Int32) < 0 by decide]
        rfl
      · rw [gg] at e
        exact Option.some.inj e ▸ D
    | some q =>
      rw [z] at mp
      have vq := (vOk_obj hv ho).2 q (fnd_mem z).1
      have ql := vOk_lt vq.2
      have x2 : x.2 = some (tb ts (q + 2)) := by rw [← io2]; unfold itO; rw [z]; rfl
      have n1 : ¬ nI (q + 2) < 0 := nI_pos (by omega)
      have to := rm_truthOf (d := d + 3) S (t := q + 2) (by omega)
      have p3 : pB (some (tb ts (q + 2))) < 2 ^ 30 := by cases tb ts (q + 2) <;> decide
      obtain ⟨h', r, mm, g7, g9⟩ := rm_setTruth (d := d + 3) T (k := i) (by omega) p3
      refine ⟨h', ?_, mm, fun j hj => ?_, fun l' e => ?_⟩
      · simp only [r315_0, r315_1, r315_3, r315_5, r315_8, r315_9, r315_10, r315_11, r315_14, r315_15, r315_16, r315_17, r315_20, r315_23, r315_25, r315_26, r315_27, r315_30, r315_32, r315_35, r315_36, r315_37, r315_38, r315_40, r315_43, r315_46, r315_47, mx_isr_ref, mx_isr_null, mx_wt_nil, mx_wt_1, mx_wt_2, mx_wt_3, Option.bind_some, Option.toList_some, Option.toList_none, List.cons_append, List.nil_append, mx_nl_int, mx_nl_ref, mx_nl_null, mx_nl_none, mx_nb0, mx_nb1, mx_fb0, mx_fb1, mx_cat_int, mx_cat_ref, if_true, if_false, not_true_eq_false, not_false_eq_true, T, mm.1, f19, iw, mp, e1, n1, to, r]
        rfl
      · rw [g7, if_neg (by omega)]
      · have e := Option.some.inj e
        subst e
        have ex : (gai (xG l i) none x.2) = (((xG l i).1.1, some (tb ts (q + 2))), tr1 (some (tb ts (q + 2)))) := by rw [x2]; rfl
        rw [ex]
        refine ⟨by rw [List.length_set]; exact d1, by rw [g7, if_neg (by omega), List.length_set]; exact d2, fun y hy => ?_, fun k hk j hj => ?_, fun k hk => ?_⟩
        · rcases List.mem_or_eq_of_mem_set hy with y1 | y1
          · exact d3 y y1
          · rw [y1]
            have := wIt8_te W (k := i) (j := 0)
            have := W.2.2.1 _ (iG_mem (l := l.map fun y => y.1) (k := i) (by rw [List.length_map]; exact c))
            rw [xG_1] at this
            exact this
        · rw [List.length_set] at hk
          rw [g7, xG_set c]
          have := d4 k hk j hj
          by_cases ek : k = i
          · subst ek
            rw [if_pos rfl]
            by_cases e13 : j = 13
            · subst e13
              rw [if_pos (by omega)]
              rfl
            · rw [if_neg (by omega), this]
              unfold ie
              rw [if_pos (by omega), if_pos (by omega)]
          · rw [if_neg (by omega), if_neg ek]
            exact this
        · rw [g9, xG_set c]
          by_cases ek : k = i
          · rw [if_pos ek, if_pos ek]
            cases tb ts (q + 2) <;> rfl
          · rw [if_neg ek, if_neg ek]
            exact d5 k hk
  · rw [if_neg c]
    have ii : i = l.length := by omega
    have e1 : nI l.length ≤ nI i := nI_le (by omega) (by omega)
    have pv : ∃ pv, mx_G (d + 4) 267 0 [some (.ref 76), some (.int (nI t)), some (.long 16), none, none] [] h = some (some (.int pv), h) := ⟨_, mp⟩
    obtain ⟨pv, mp'⟩ := pv
    by_cases c4 : 4 ≤ l.length
    · have l4 : nI l.length = 4 := by rw [show l.length = 4 by omega]; rfl
      refine ⟨h, ?_, mf_rfl T, fun _ _ => rfl, fun l' e => ?_⟩
      · simp only [r315_0, r315_1, r315_3, r315_5, r315_8, r315_9, r315_10, r315_11, r315_14, r315_15, r315_16, r315_17, r315_20, r315_23, r315_25, r315_26, r315_27, r315_30, r315_32, r315_35, r315_36, r315_37, r315_38, r315_40, r315_43, r315_46, r315_47, r315_48, r315_49, r315_50, r315_53, r315_54, mx_isr_ref, mx_isr_null, mx_wt_nil, mx_wt_1, mx_wt_2, mx_wt_3, Option.bind_some, Option.toList_some, Option.toList_none, List.cons_append, List.nil_append, mx_nl_int, mx_nl_ref, mx_nl_null, mx_nl_none, mx_nb0, mx_nb1, mx_fb0, mx_fb1, mx_cat_int, mx_cat_ref, if_true, if_false, not_true_eq_false, not_false_eq_true, T, f19, iw, mp', e1, eq_true l4, c4]
        rfl
      · simp only [if_pos c4] at e
        cases e
    · have l4 : ¬ nI l.length = 4 := fun z => c4 (by have := (nI_eq (b := 4) (by omega) (by decide)).mp z; omega)
      have s1 := rm_set (d := d + 4) T (s := 8) (o := 19) (v := nI (l.length + 1)) (by decide)
      rw [show nI 8 = 8 from rfl, show nI 19 = 19 from rfl] at s1
      have m1 : mf P79 h (mx_up h 77 (80 * 8 + 19) (.int (nI (l.length + 1)))) := mf_up (mf_rfl T) (by decide) (P79_t (by decide))
      have T1 := m1.1
      have im := rm_item (d := d + 4) (h := mx_up h 77 (80 * 8 + 19) (.int (nI (l.length + 1)))) (k := l.length)
      have e2 : nI (20 + 14 * l.length) + 13 = nI (20 + 14 * l.length + 13) := nI_add (20 + 14 * l.length) 13
      have s2 := rm_set (d := d + 4) T1 (s := 8) (o := 20 + 14 * l.length + 13) (v := 0) (by omega)
      rw [show nI 8 = 8 from rfl] at s2
      have m2 := mf_up (a := 77) (k := 80 * 8 + (20 + 14 * l.length + 13)) (x := 0) m1 (by decide) (P79_t (by omega))
      have r1 : ∀ j, mi (mx_up (mx_up h 77 (80 * 8 + 19) (.int (nI (l.length + 1)))) 77 (80 * 8 + (20 + 14 * l.length + 13)) (.int 0)) 77 j = if j = 80 * 8 + (20 + 14 * l.length + 13) then 0 else if j = 659 then nI (l.length + 1) else mi h 77 j := fun j => by rw [mi_r T1 (by omega), mi_r T (by decide)]
      have r9 : ∀ j, mi (mx_up (mx_up h 77 (80 * 8 + 19) (.int (nI (l.length + 1)))) 77 (80 * 8 + (20 + 14 * l.length + 13)) (.int 0)) 99 j = mi h 99 j := fun j => by rw [mi_up, if_neg (by omega), mi_up, if_neg (by omega)]
      generalize mx_up (mx_up h 77 (80 * 8 + 19) (.int (nI (l.length + 1)))) 77 (80 * 8 + (20 + 14 * l.length + 13)) (.int 0) = h2 at *
      generalize mx_up h 77 (80 * 8 + 19) (.int (nI (l.length + 1))) = h1 at *
      have T2 := m2.1
      obtain ⟨h', r, mm, g7, g9⟩ := rm_give (d := d) (TK_mf S m2 tk79) (k := l.length) (by omega) hv ho hg
      rw [io1, io2] at g7
      rw [io2] at g9
      have M := mf_trans m2 mm
      refine ⟨h', ?_, M, fun j hj => ?_, fun l' e => ?_⟩
      · simp only [r315_0, r315_1, r315_3, r315_5, r315_8, r315_9, r315_10, r315_11, r315_14, r315_15, r315_16, r315_17, r315_20, r315_23, r315_25, r315_26, r315_27, r315_30, r315_32, r315_35, r315_36, r315_37, r315_38, r315_40, r315_43, r315_46, r315_47, r315_48, r315_49, r315_50, r315_53, r315_54, r315_55, r315_56, r315_58, r315_60, r315_61, r315_62, r315_63, r315_66, r315_67, r315_69, r315_70, r315_71, r315_74, r315_76, r315_77, r315_78, r315_81, r315_82, r315_83, r315_84, r315_87, r315_88, mx_isr_ref, mx_isr_null, mx_wt_nil, mx_wt_1, mx_wt_2, mx_wt_3, Option.bind_some, Option.toList_some, Option.toList_none, List.cons_append, List.nil_append, mx_nl_int, mx_nl_ref, mx_nl_null, mx_nl_none, mx_nb0, mx_nb1, mx_fb0, mx_fb1, mx_cat_int, mx_cat_ref, if_true, if_false, not_true_eq_false, not_false_eq_true, T, T1, T2, M.1, f19, iw, mp', e1, eq_false l4, c4, nI_1, s1, im, e2, s2, r]
        rfl
      · rw [g7, if_neg (by omega), if_neg (by omega), r1, if_neg (by omega), if_neg (by omega)]
      · simp only [if_neg c4] at e
        have e := Option.some.inj e
        subst e
        refine ⟨by simp only [List.length_append, List.length_cons, List.length_nil]; omega, ?_, fun y hy => ?_, fun k hk j hj => ?_, fun k hk => ?_⟩
        · rw [g7, if_neg (by omega), if_neg (by omega), r1, if_neg (by omega), if_pos rfl, List.length_append]
          rfl
        · rcases List.mem_append.1 hy with y1 | y1
          · exact d3 y y1
          · rw [List.mem_singleton.1 y1]
            exact iW_ok K hx
        · rw [xG_app, g7]
          by_cases ek : k = l.length
          · subst ek
            rw [if_pos rfl]
            unfold ie
            by_cases e13 : j = 13
            · subst e13
              rw [if_neg (by omega), if_pos (by omega), if_neg (by omega)]
              cases zz : x.2 with
              | none =>
                show mi h2 77 _ = nI 0
                rw [r1, if_pos (by omega)]
                rfl
              | some b => rfl
            · rw [if_pos (by omega), if_pos (by omega)]
              show te x.1 _ = te x.1 j
              congr 1
              omega
          · have hk : k < l.length := by simp only [List.length_append, List.length_cons, List.length_nil] at hk; omega
            rw [if_neg ek, if_neg (by omega), if_neg (by omega), r1, if_neg (by omega), if_neg (by omega)]
            exact d4 k hk j hj
        · rw [xG_app, g9]
          by_cases ek : k = l.length
          · rw [if_pos ek, if_pos ek]
            cases zz : x.2 with
            | none =>
              show mi h2 99 k = _
              rw [r9, d5 k hk, xG_out (by omega)]
              rfl
            | some b => cases b <;> rfl
          · rw [if_neg ek, if_neg ek, r9]
            exact d5 k hk
end
