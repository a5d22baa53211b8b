section
variable {d : Nat} {h : mx_H} {ts : List tk}
theorem w79 : ∀ a k, P79 a k = false → P77 a k = false := fun a k e => by unfold P79 at e; unfold P77; simp at e ⊢; exact e.1
theorem iG_app {l : List itm} {x : itm} : iG (l ++ [x]) l.length = x := by
  unfold iG
  rw [List.getD_eq_getElem?_getD, List.getElem?_append_right (Nat.le_refl _), Nat.sub_self]
  rfl
theorem iG_app_l {l r : List itm} {k : Nat} (hk : k < l.length) : iG (l ++ r) k = iG l k := by
  unfold iG
  rw [List.getD_eq_getElem?_getD, List.getD_eq_getElem?_getD, List.getElem?_append_left hk]
theorem itR_keep {h h' : mx_H} {s k : Nat} {x : itm} (I : itR h s k x) (e : ∀ j, j < 14 → mi h' 77 (80 * s + 20 + 14 * k + j) = mi h 77 (80 * s + 20 + 14 * k + j)) : itR h' s k x := fun j hj => (e j hj).trans (I j hj)
theorem rm_fiL (S : rm_TK h ts) (K : tkOK ts) {t : Nat} : ∀ l done r h1, chn ts 3 false l → (∀ m ∈ l, vOk ts m) → iL ts l = some r → done.length ≤ 4 → (∀ x ∈ done, txOk x.1) → (∀ k, k < done.length → itR h1 8 k (iG done k)) → mf P79 h h1 →
    ∃ h', mx_G (d + 5) 264 18 [some (.ref 76), some (.int (nI t)), some (.int (nI done.length)), some (.int (nx l))] [] h1 = some (some (.int (if (done ++ r).length ≤ 4 ∧ twn (done ++ r) = false ∧ trs (done ++ r) < 2 then 1 else 0)), h') ∧ mf P79 h h' ∧ (∀ i, i < 659 → mi h' 77 i = mi h1 77 i) ∧ ((done ++ r).length ≤ 4 → wIt8 h' (done ++ r)) := by
  have hl := S.1.2.1
  intro l
  induction l with
  | nil =>
    intro done r h1 _ _ hr hd hx hi m
    cases hr
    have T := m.1
    rw [List.append_nil]
    have st := rm_set (d := d + 4) T (s := 8) (o := 19) (v := nI done.length) (by decide)
    rw [show nI 8 = 8 from rfl, show nI 19 = 19 from rfl, show 80 * 8 + 19 = 659 from rfl] at st
    have m2 : mf P79 h (mx_up h1 77 659 (.int (nI done.length))) := mf_up m (by decide) (P79_t (by decide))
    have T2 := m2.1
    have W : wIt8 (mx_up h1 77 659 (.int (nI done.length))) done := by
      refine ⟨hd, by rw [mi_r T (by decide), if_pos rfl], hx, fun k hk => itR_keep (hi k hk) fun j hj => ?_⟩
      rw [mi_r T (by decide), if_neg (by omega)]
    have tw := rm_twice (d := d + 3) T2 W
    have tr := rm_trues (d := d + 3) T2 W
    refine ⟨_, ?_, m2, fun i hi => by rw [mi_r T (by decide), if_neg (by omega)], fun _ => W⟩
    have tb : trs done ≤ done.length := by unfold trs; exact List.length_filter_le _ _
    rw [r264_18, r264_19, if_pos nx_n]
    cases z : twn done with
    | true =>
      rw [z] at tw
      rw [if_neg (fun y => by cases y.2.1)]
      simp only [r264_63, r264_64, r264_66, r264_68, r264_69, r264_72, r264_73, r264_76, r264_79, r264_80, r264_83, r264_84, r264_87, r264_88, r264_91, r264_92, mx_isr_ref, mx_isr_null, mx_wt_nil, mx_wt_1, mx_wt_2, mx_wt_3, Option.bind_some, Option.toList_some, Option.toList_none, List.cons_append, List.nil_append, mx_nl_int, mx_nl_ref, mx_nl_null, mx_nl_none, mx_nb0, mx_nb1, mx_fb0, mx_fb1, mx_cat_int, mx_cat_ref, if_true, if_false, not_true_eq_false, not_false_eq_true, T, T2, st, tw, show ¬ (1 : Int32) = 0 by decide]
    | false =>
      rw [z] at tw
      by_cases c : trs done < 2
      · have e : ¬ (2 : Int32) ≤ nI (trs done) := nI_ge (b := 2) c (by decide)
        rw [if_pos ⟨hd, rfl, c⟩]
        simp only [r264_63, r264_64, r264_66, r264_68, r264_69, r264_72, r264_73, r264_76, r264_79, r264_80, r264_83, r264_84, r264_87, r264_88, r264_91, r264_92, mx_isr_ref, mx_isr_null, mx_wt_nil, mx_wt_1, mx_wt_2, mx_wt_3, Option.bind_some, Option.toList_some, Option.toList_none, List.cons_append, List.nil_append, mx_nl_int, mx_nl_ref, mx_nl_null, mx_nl_none, mx_nb0, mx_nb1, mx_fb0, mx_fb1, mx_cat_int, mx_cat_ref, if_true, if_false, not_true_eq_false, not_false_eq_true, T, T2, st, tw, tr, e, Bool.false_eq_true]
      · have e : (2 : Int32) ≤ nI (trs done) := nI_le (a := 2) (by omega) (by omega)
        rw [if_neg (fun y => c y.2.2)]
        simp only [r264_63, r264_64, r264_66, r264_68, r264_69, r264_72, r264_73, r264_76, r264_79, r264_80, r264_83, r264_84, r264_87, r264_88, r264_91, r264_92, mx_isr_ref, mx_isr_null, mx_wt_nil, mx_wt_1, mx_wt_2, mx_wt_3, Option.bind_some, Option.toList_some, Option.toList_none, List.cons_append, List.nil_append, mx_nl_int, mx_nl_ref, mx_nl_null, mx_nl_none, mx_nb0, mx_nb1, mx_fb0, mx_fb1, mx_cat_int, mx_cat_ref, if_true, if_false, not_true_eq_false, not_false_eq_true, T, T2, st, tw, tr, e, Bool.false_eq_true]
  | cons e l ih =>
    intro done r h1 hc hv hr hd hx hi m
    have T := m.1
    have S1 := TK_mf S m tk79
    have hve := hv e (List.mem_cons_self ..)
    have el := vOk_lt hve
    have n1 : ¬ nx (e :: l) < 0 := nx_nn (by omega) l
    rw [iL] at hr
    cases zw : iW ts e with
    | none => rw [zw] at hr; cases hr
    | some x =>
      rw [zw] at hr
      have hr : (iL ts l).map (fun r => x :: r) = some r := hr
      cases zl : iL ts l with
      | none => rw [zl] at hr; cases hr
      | some r' =>
        rw [zl] at hr
        have hr : r = x :: r' := by cases hr; rfl
        have w := iW_val hve
        rw [zw] at w
        have hxx := iW_ok K zw
        split at w
        · rename_i og
          cases zv : (itO ts e).1 with
          | none => rw [zv] at w; cases w
          | some v =>
            rw [zv] at w
            have w : x = (v, (itO ts e).2) := by cases w; rfl
            rw [r264_18, r264_19, if_neg n1]
            rw [show nx (e :: l) = nI e from rfl]
            by_cases c4 : done.length = 4
            · have e4 : nI done.length = 4 := by rw [c4]; rfl
              have big : ¬ (done ++ r).length ≤ 4 := by rw [hr]; simp; omega
              refine ⟨h1, ?_, m, fun _ _ => rfl, fun y => absurd y big⟩
              rw [if_neg (fun y => big y.1)]
              simp only [r264_22, r264_23, r264_24, r264_27, r264_28, mx_isr_ref, mx_isr_null, mx_wt_nil, mx_wt_1, mx_wt_2, mx_wt_3, Option.bind_some, Option.toList_some, Option.toList_none, List.cons_append, List.nil_append, mx_nl_int, mx_nl_ref, mx_nl_null, mx_nl_none, mx_nb0, mx_nb1, mx_fb0, mx_fb1, mx_cat_int, mx_cat_ref, if_true, if_false, not_true_eq_false, not_false_eq_true, e4]
            · have e4 : ¬ nI done.length = 4 := fun y => c4 ((nI_eq (b := 4) (by omega) (by decide)).mp y)
              have im := rm_item (d := d + 4) (h := h1) (k := done.length)
              have e2 : nI (20 + 14 * done.length) + 13 = nI (20 + 14 * done.length + 13) := nI_add _ 13
              have st := rm_set (d := d + 4) T (s := 8) (o := 20 + 14 * done.length + 13) (v := 0) (by omega)
              rw [show nI 8 = 8 from rfl] at st
              have m2 : mf P79 h (mx_up h1 77 (80 * 8 + (20 + 14 * done.length + 13)) (.int 0)) := mf_up m (by decide) (P79_t (by omega))
              have T2 := m2.1
              have S2 := TK_mf S m2 tk79
              have rd := fun i => mi_r T (k := 80 * 8 + (20 + 14 * done.length + 13)) (by omega) 0 i
              obtain ⟨h3, r3, m3, g3, -⟩ := rm_give (d := d) S2 (k := done.length) (by omega) hve og.1 og.2
              have m3' := mf_trans m2 m3
              have af : mx_G (d + 4) 257 0 [some (.ref 76), some (.int (nI e)), some (.int 0), none] [] h3 = some (some (.int (nx l)), h3) := rm_after (d := d + 2) (TS_mf S.1 m3' tk79) hc
              have T3 := m3.1
              obtain ⟨h', r', m', gh, gw⟩ := ih (done ++ [x]) r' h3 hc.2.2 (fun y hy => hv y (List.mem_cons_of_mem _ hy)) zl (by simp; omega) (fun y hy => by
                rcases List.mem_append.1 hy with hy | hy
                · exact hx y hy
                · rw [List.mem_singleton.1 hy]; exact hxx) (fun k hk => by
                rw [List.length_append, List.length_singleton] at hk
                by_cases ck : k = done.length
                · subst ck
                  rw [iG_app]
                  intro j hj
                  rw [g3, zv]
                  by_cases cj : j < 13
                  · rw [if_pos (by omega)]
                    unfold ie
                    rw [if_pos cj, w]
                    show te v _ = te v j
                    congr 1
                    omega
                  · rw [if_neg (by omega), if_pos (by omega)]
                    unfold ie
                    rw [if_neg cj, w]
                    simp only
                    cases (itO ts e).2 with
                    | none => simp only; rw [rd, if_pos (by omega)]; rfl
                    | some b => rfl
                · rw [iG_app_l (by omega)]
                  refine itR_keep (hi k (by omega)) fun j hj => ?_
                  rw [g3, if_neg (by omega), if_neg (by omega), rd, if_neg (by omega)]) m3'
              rw [List.append_assoc, List.singleton_append, ← hr] at r' gw
              refine ⟨h', ?_, m', fun i hi => ?_, gw⟩
              · rw [← r', List.length_append, List.length_singleton]
                simp only [r264_22, r264_23, r264_24, r264_27, r264_28, r264_29, r264_30, r264_32, r264_33, r264_34, r264_37, r264_39, r264_40, r264_41, r264_44, r264_45, r264_46, r264_47, r264_50, r264_53, r264_54, r264_55, r264_56, r264_59, r264_60, mx_isr_ref, mx_isr_null, mx_wt_nil, mx_wt_1, mx_wt_2, mx_wt_3, Option.bind_some, Option.toList_some, Option.toList_none, List.cons_append, List.nil_append, mx_nl_int, mx_nl_ref, mx_nl_null, mx_nl_none, mx_nb0, mx_nb1, mx_fb0, mx_fb1, mx_cat_int, mx_cat_ref, if_true, if_false, not_true_eq_false, not_false_eq_true, T, T2, T3, e4, im, e2, st, r3, af, nI_1]
              · rw [gh i hi, g3, if_neg (by omega), if_neg (by omega), rd, if_neg (by omega)]
        · cases w
theorem rm_fillItems (S : rm_TK h ts) (K : tkOK ts) {t : Nat} (hv : vOk ts t) : ∃ h', mx_G (d + 6) 264 0 [some (.ref 76), some (.int (nI t)), none, none] [] h = some (some (.int (match iA ts t with | none => 0 | some x => if x.length ≤ 4 ∧ twn x = false ∧ trs x < 2 then 1 else 0)), h') ∧ mf P79 h h' ∧ (∀ i, i < 659 → mi h' 77 i = mi h 77 i) ∧ ∀ x, iA ts t = some x → x.length ≤ 4 → wIt8 h' x := by
  have T := S.1.1
  have ii := rm_isItems (d := d) S hv
  cases z : iA ts t with
  | none =>
    rw [z] at ii
    refine ⟨h, ?_, mf_rfl T, fun _ _ => rfl, fun x hx => by cases hx⟩
    simp only [r264_0, r264_1, r264_2, r264_5, r264_8, r264_9, mx_isr_ref, mx_isr_null, mx_wt_nil, mx_wt_1, mx_wt_2, mx_wt_3, Option.bind_some, Option.toList_some, Option.toList_none, List.cons_append, List.nil_append, mx_nl_int, mx_nl_ref, mx_nl_null, mx_nl_none, mx_nb0, mx_nb1, mx_fb0, mx_fb1, mx_cat_int, mx_cat_ref, if_true, if_false, not_true_eq_false, not_false_eq_true, T, ii, Option.isSome_none, Bool.false_eq_true]
  | some x =>
    rw [z] at ii
    have ha : tI ts t 91 = true := by
      unfold iA at z
      split at z
      · assumption
      · cases z
    have hL : iL ts (kd ts t) = some x := by unfold iA at z; rw [if_pos ha] at z; exact z
    obtain ⟨e, hE, -⟩ := id hv
    have fi := rm_first (d := d + 4) S.1 (by omega) hE (Or.inr ha)
    obtain ⟨h', r, m, gh, gw⟩ := rm_fiL (d := d + 1) S K (t := t) (kd ts t) [] x h (kd_chn.2 ha) (vOk_arr hv ha) hL (by decide) (fun y hy => by cases hy) (fun k hk => by cases hk) (mf_rfl T)
    rw [List.nil_append] at r gw
    refine ⟨h', ?_, m, gh, fun y hy hl => by cases hy; exact gw hl⟩
    rw [show (List.length ([] : List itm)) = 0 from rfl, show nI 0 = 0 from rfl] at r
    simp only
    rw [← r]
    simp only [r264_0, r264_1, r264_2, r264_5, r264_8, r264_9, r264_10, r264_11, r264_12, r264_13, r264_14, r264_17, mx_isr_ref, mx_isr_null, mx_wt_nil, mx_wt_1, mx_wt_2, mx_wt_3, Option.bind_some, Option.toList_some, Option.toList_none, List.cons_append, List.nil_append, mx_nl_int, mx_nl_ref, mx_nl_null, mx_nl_none, mx_nb0, mx_nb1, mx_fb0, mx_fb1, mx_cat_int, mx_cat_ref, if_true, if_false, not_true_eq_false, not_false_eq_true, T, ii, fi, Option.isSome_some, show ¬ (1 : Int32) = 0 by decide]
/-- the draft, as far as it is made -/
def wkP (h : mx_H) (p : prs) : Prop := rcP h 8 p ∧ wfF p
theorem wkP_it {p : prs} (W : wkP h p) : wIt8 h (pit p) := by
  refine ⟨W.2.2.2.1, ?_, W.2.2.2.2.1, W.1.2⟩
  have := W.1.1 19 (by decide)
  exact this
theorem rc_hd {h h' : mx_H} {s : Nat} {p q : prs} (R : rcP h s p) (hp : pit q = pit p) (hH : recH h' s q) (he : ∀ i, 80 * s + 20 ≤ i → i < 80 * s + 80 → mi h' 77 i = mi h 77 i) (h4 : (pit p).length ≤ 4) : rcP h' s q := by
  refine ⟨hH, fun k hk => ?_⟩
  rw [hp] at hk ⊢
  exact itR_keep (R.2 k hk) fun j hj => he _ (by omega) (by omega)
theorem pe_nm {p : prs} {x : List Nat} {o : Nat} (h : o < 2 ∨ 15 ≤ o) : pe (sNm p x) o = pe p o := by
  unfold pe
  by_cases h0 : o = 0
  · rw [if_pos h0, if_pos h0]; rfl
  · rw [if_neg h0, if_neg h0]
    by_cases h1 : o = 1
    · rw [if_pos h1, if_pos h1]; rfl
    · have hn : ¬ o < 15 := by omega
      rw [if_neg h1, if_neg h1, if_neg hn, if_neg hn]; rfl
theorem pe_nm' {p : prs} {x : List Nat} {o : Nat} (h : 2 ≤ o) (h' : o < 15) : pe (sNm p x) o = te x (o - 2) := by
  unfold pe
  rw [if_neg (by omega), if_neg (by omega), if_pos h']; rfl
theorem pe_ag {p : prs} {x : Option Int} {o : Nat} (h : o ≠ 15) (h' : o ≠ 16) : pe (sAg p x) o = pe p o := by
  unfold pe
  rw [if_neg h, if_neg h', if_neg h, if_neg h']; rfl
theorem pe_on {p : prs} {x : Option Bool} {o : Nat} (h : o ≠ 17) (h' : o ≠ 18) : pe (sOn p x) o = pe p o := by
  unfold pe
  rw [if_neg h, if_neg h', if_neg h, if_neg h']; rfl
theorem pe_it {p : prs} {x : List itm} {o : Nat} (h : o < 19) : pe (sIt p x) o = pe p o := by
  unfold pe
  by_cases h0 : o = 0
  · rw [if_pos h0, if_pos h0]; rfl
  · rw [if_neg h0, if_neg h0]
    by_cases h1 : o = 1
    · rw [if_pos h1, if_pos h1]; rfl
    · rw [if_neg h1, if_neg h1]
      by_cases h2 : o < 15
      · rw [if_pos h2, if_pos h2]; rfl
      · rw [if_neg h2, if_neg h2]
        by_cases h3 : o = 15
        · rw [if_pos h3, if_pos h3]; rfl
        · rw [if_neg h3, if_neg h3]
          by_cases h4 : o = 16
          · rw [if_pos h4, if_pos h4]; rfl
          · rw [if_neg h4, if_neg h4]
            by_cases h5 : o = 17
            · rw [if_pos h5, if_pos h5]; rfl
            · rw [if_neg h5, if_neg h5]
              by_cases h6 : o = 18
              · rw [if_pos h6, if_pos h6]; rfl
              · omega
end
