/-! ArrayList: set, remove, clear, add at a place. -/
theorem lst_ext {es : List Nat} {cp : Nat} {vs : List Value} (hl : vs.length = cp) (he : es.length ≤ cp) (h : ∀ k, k < cp → vs.getD k .null = if k < es.length then .ref (es.getD k 0) else .null) : vs = lst es cp := by
  apply List.ext_getElem?
  intro k
  have ll : (lst es cp).length = cp := lst_len he
  by_cases hk : k < cp
  · have h1 := h k hk
    have h2 : (lst es cp).getD k .null = if k < es.length then .ref (es.getD k 0) else .null := by
      by_cases c : k < es.length
      · rw [lst_get c, if_pos c]
      · rw [lst_getn (by omega), if_neg c]
    rw [← h2, List.getD_eq_getElem?_getD, List.getD_eq_getElem?_getD, List.getElem?_eq_getElem (by omega), List.getElem?_eq_getElem (by omega)] at h1
    rw [List.getElem?_eq_getElem (by omega), List.getElem?_eq_getElem (by omega)]
    exact congrArg some h1
  · rw [List.getElem?_eq_none (by omega), List.getElem?_eq_none (by omega)]
theorem gd_erase {es : List Nat} {i k : Nat} (hi : i < es.length) : (es.eraseIdx i).getD k 0 = if k < i then es.getD k 0 else es.getD (k + 1) 0 := by
  rw [List.getD_eq_getElem?_getD, List.getElem?_eraseIdx]
  split <;> rw [List.getD_eq_getElem?_getD]
theorem gd_insert {es : List Nat} {i k e : Nat} (hi : i ≤ es.length) : (es.insertIdx i e).getD k 0 = if k < i then es.getD k 0 else if k = i then e else es.getD (k - 1) 0 := by
  rw [List.getD_eq_getElem?_getD, List.getElem?_insertIdx]
  by_cases c1 : k < i
  · rw [if_pos c1, if_pos c1, List.getD_eq_getElem?_getD]
  · rw [if_neg c1, if_neg c1]
    by_cases c2 : k = i
    · rw [if_pos c2, if_pos c2, if_pos (by omega)]
      rfl
    · rw [if_neg c2, if_neg c2, List.getD_eq_getElem?_getD]
section
variable {d : Nat} {h : mx_H} {a A cp : Nat} {es : List Nat}
theorem AL_A {k : Nat} (L : AL h a A cp es) (hk : k < es.length) : 63 ≤ A ∧ mt_nO ≤ A := by
  have h1 := L.2.2.1
  have h4 := L.2.2.2.2.2
  have : 63 ≤ A := by omega
  exact ⟨this, by rw [show mt_nO = 63 by decide]; exact this⟩
theorem jl_set (L : AL h a A cp es) {k e : Nat} (hk : k < es.length) (he : elt h e) : ∃ h', mx_G (d + 2) 155 0 [some (.ref a), some (.int (nI k)), some (.ref e), none] [] h = some (some (.ref (es.getD k 0)), h') ∧ AL h' a A cp (es.set k e) ∧ Fr [A] h h' ∧ mw h' = mw h := by
  obtain ⟨f1, f2, f3, f4, ⟨mc, f5⟩, f6, f7, f8, f9, f10⟩ := AL_f L
  obtain ⟨hA63, hnA⟩ := AL_A L hk
  have L0 := L
  obtain ⟨⟨mc', ea⟩, eA, h1, h2, h3, h4⟩ := L
  refine ⟨mx_up h A k (.ref e), ?_, ⟨⟨mc', by rw [c_upn (Ne.symm f10), ea, List.length_set]⟩, by rw [c_up eA, lst_set hk], by rw [List.length_set]; exact h1, h2, h3, h4⟩, Fr.up (by simp), mw_up _ _ _ _⟩
  rcases he with z | z
  · simp only [g155_0, g155_1, g155_2, g155_5, g155_8, g155_9, g155_10, g155_11, g155_14, g155_15, g155_16, g155_19, g155_20, g155_21_c7, g155_21_c8, g155_21n, g155_22, g155_23, mx_isr_ref, mx_isr_null, mx_wt_nil, mx_wt_1, mx_wt_2, mx_wt_3, Option.bind_some, Option.toList_some, Option.toList_none, List.cons_append, List.nil_append, mx_nl_int, mx_nl_ref, mx_nl_null, mx_nl_none, mx_nb0, mx_nb1, mx_fb0, mx_fb1, mx_cat_int, mx_cat_ref, if_true, if_false, not_true_eq_false, not_false_eq_true, mx_wt_4, mx_w4_0, mx_w9_0, mx_w9_1, mx_kn_int, mx_kn_ref, mx_kn_null, Nat.reduceLT, ofn, n10, f1, f2, f3, f4, f6, f7, jl_chk hk (show es.length < 2 ^ 31 by omega), jl_elD L0 hk, z, hnA, nI_pos' (show k < 2 ^ 31 by omega), nI_clamp (show k < 2 ^ 31 by omega), show k < cp by omega]
  · simp only [g155_0, g155_1, g155_2, g155_5, g155_8, g155_9, g155_10, g155_11, g155_14, g155_15, g155_16, g155_19, g155_20, g155_21_c7, g155_21_c8, g155_21n, g155_22, g155_23, mx_isr_ref, mx_isr_null, mx_wt_nil, mx_wt_1, mx_wt_2, mx_wt_3, Option.bind_some, Option.toList_some, Option.toList_none, List.cons_append, List.nil_append, mx_nl_int, mx_nl_ref, mx_nl_null, mx_nl_none, mx_nb0, mx_nb1, mx_fb0, mx_fb1, mx_cat_int, mx_cat_ref, if_true, if_false, not_true_eq_false, not_false_eq_true, mx_wt_4, mx_w4_0, mx_w9_0, mx_w9_1, mx_kn_int, mx_kn_ref, mx_kn_null, Nat.reduceLT, ofn, n10, f1, f2, f3, f4, f6, f7, jl_chk hk (show es.length < 2 ^ 31 by omega), jl_elD L0 hk, z, hnA, nI_pos' (show k < 2 ^ 31 by omega), nI_clamp (show k < 2 ^ 31 by omega), show k < cp by omega]
theorem jl_remove (L : AL h a A cp es) {k : Nat} (hk : k < es.length) (ht : ∀ e ∈ es, elt h e) : ∃ h', mx_G (d + 2) 192 0 [some (.ref a), some (.int (nI k)), none, none] [] h = some (some (.ref (es.getD k 0)), h') ∧ AL h' a A cp (es.eraseIdx k) ∧ Fr [a, A] h h' ∧ mw h' = mw h := by
  obtain ⟨f1, f2, f3, f4, ⟨mc, f5⟩, f6, f7, f8, f9, f10⟩ := AL_f L
  obtain ⟨hA63, hnA⟩ := AL_A L hk
  have L0 := L
  obtain ⟨⟨mc', ea⟩, eA, h1, h2, h3, h4⟩ := L
  have hmc : mc' = mc := by rw [ce_e ea] at f5; exact Value.int.inj f5
  subst hmc
  generalize hg : mx_up h a 2 (.int (mc' + 1)) = g
  have eag : g[a]? = some (.inl 3, [.ref A, .int (nI es.length), .int (mc' + 1)]) := by rw [← hg, c_up ea]; rfl
  have eAg : g[A]? = some (.inr oT, lst es cp) := by rw [← hg, c_upn f10]; exact eA
  have htg : ∀ e ∈ es, elt g e := fun e he => by rw [← hg]; exact elt_up (ht e he)
  have wg : mw g = mw h := by rw [← hg, mw_up]
  have Fg : Fr [a, A] h g := by rw [← hg]; exact Fr.up (by simp)
  have el : (es.eraseIdx k).length = es.length - 1 := List.length_eraseIdx_of_lt hk
  have q1 : nI es.length - 1 = nI (es.length - 1) := nI_sub (b := 1) (by omega)
  have ga : mx_tag g a = some (.inl 3) := ce_t eag
  have gl : mx_ln g a = 3 := by rw [ce_n eag]; rfl
  have g1 : mx_el g a 1 = .int (nI es.length) := by rw [ce_e eag]; rfl
  have gA : mx_tag g A = some (.inr oT) := ce_t eAg
  have gAl : mx_ln g A = cp := by rw [ce_n eAg, lst_len h1]
  -- the row after the move
  obtain ⟨g2, k1, e2, e2a, F2, w2⟩ : ∃ g2, mx_G (d + 1) 193 0 [some (.ref a), some (.ref A), some (.int (nI k)), none] [] h = mx_G (d + 1) 193 34 [some (.ref a), some (.ref A), some (.int (nI k)), some (.int (nI (es.length - 1)))] [] g2 ∧ (∃ vs, g2[A]? = some (.inr oT, vs) ∧ vs.set (es.length - 1) .null = lst (es.eraseIdx k) cp) ∧ g2[a]? = some (.inl 3, [.ref A, .int (nI es.length), .int (mc' + 1)]) ∧ Fr [a, A] h g2 ∧ mw g2 = mw h := by
    by_cases hlast : es.length - 1 ≤ k
    · refine ⟨g, ?_, ⟨_, eAg, ?_⟩, eag, Fg, wg⟩
      · simp only [g193_0, g193_1, g193_2, g193_5, g193_6, g193_7, g193_10, g193_11, g193_14, g193_15, g193_16, g193_17, g193_18, g193_19, mx_isr_ref, mx_isr_null, mx_wt_nil, mx_wt_1, mx_wt_2, mx_wt_3, Option.bind_some, Option.toList_some, Option.toList_none, List.cons_append, List.nil_append, mx_nl_int, mx_nl_ref, mx_nl_null, mx_nl_none, mx_nb0, mx_nb1, mx_fb0, mx_fb1, mx_cat_int, mx_cat_ref, if_true, if_false, not_true_eq_false, not_false_eq_true, mx_wt_4, mx_w4_0, mx_w9_0, mx_w9_1, mx_kn_int, mx_kn_ref, mx_kn_null, Nat.reduceLT, ofn, n10, f1, f2, f5, f9, hg, ga, gl, g1, q1, nI_leI (show es.length - 1 < 2 ^ 31 by omega) (show k < 2 ^ 31 by omega), hlast]
      · refine lst_ext (by rw [List.length_set, lst_len h1]) (by omega) (fun j hj => ?_)
        rw [el, gd_erase hk]
        by_cases hje : j = es.length - 1
        · subst hje
          rw [if_neg (by omega)]
          simp [List.getD_eq_getElem?_getD, show es.length - 1 < (lst es cp).length by rw [lst_len h1]; omega]
        · have : ((lst es cp).set (es.length - 1) Value.null).getD j .null = (lst es cp).getD j .null := by simp [List.getD_eq_getElem?_getD, List.getElem?_set_ne (Ne.symm hje)]
          rw [this]
          by_cases hj2 : j < es.length - 1
          · rw [if_pos hj2, if_pos (by omega), lst_get (by omega)]
          · rw [if_neg hj2, lst_getn (by omega)]
    · have q2 : nI (es.length - 1) - nI k = nI (es.length - 1 - k) := nI_sub (by omega)
      have hc := cA_obj eAg htg (sp := k + 1) (n := es.length - 1 - k)
      refine ⟨mx_cp g A (k + 1) A k (es.length - 1 - k), ?_, ⟨_, c_cp eAg eAg, ?_⟩, by rw [c_cpn (Ne.symm f10)]; exact eag, Fg.trans (Fr.cp (F := [a, A]) (by simp)) (fun q hq => Or.inl hq), by rw [mw_cp]; exact wg⟩
      · simp only [g193_0, g193_1, g193_2, g193_5, g193_6, g193_7, g193_10, g193_11, g193_14, g193_15, g193_16, g193_17, g193_18, g193_19, g193_22, g193_23, g193_24, g193_25, g193_26, g193_27, g193_28, g193_29, g193_30, g193_31, mx_isr_ref, mx_isr_null, mx_wt_nil, mx_wt_1, mx_wt_2, mx_wt_3, Option.bind_some, Option.toList_some, Option.toList_none, List.cons_append, List.nil_append, mx_nl_int, mx_nl_ref, mx_nl_null, mx_nl_none, mx_nb0, mx_nb1, mx_fb0, mx_fb1, mx_cat_int, mx_cat_ref, if_true, if_false, not_true_eq_false, not_false_eq_true, mx_wt_4, mx_w4_0, mx_w9_0, mx_w9_1, mx_kn_int, mx_kn_ref, mx_kn_null, Nat.reduceLT, ofn, n10, f1, f2, f5, f9, hg, ga, gl, g1, q1, nI_leI (show es.length - 1 < 2 ^ 31 by omega) (show k < 2 ^ 31 by omega), hlast, nI_1, q2, gA, gAl, hnA, nI_pos' (show k < 2 ^ 31 by omega), nI_pos' (show k + 1 < 2 ^ 31 by omega), nI_pos' (show es.length - 1 - k < 2 ^ 31 by omega), nI_clamp (show k < 2 ^ 31 by omega), nI_clamp (show k + 1 < 2 ^ 31 by omega), nI_clamp (show es.length - 1 - k < 2 ^ 31 by omega), show k + 1 + (es.length - 1 - k) ≤ cp by omega, show k + (es.length - 1 - k) ≤ cp by omega, hc]
      · refine lst_ext (by rw [List.length_set, mx_cpy_len, lst_len h1]) (by omega) (fun j hj => ?_)
        rw [el, gd_erase hk]
        have ll : (mx_cpy (lst es cp) (lst es cp) (k + 1) k (es.length - 1 - k)).length = cp := by rw [mx_cpy_len, lst_len h1]
        by_cases hje : j = es.length - 1
        · subst hje
          rw [if_neg (by omega)]
          simp [List.getD_eq_getElem?_getD, show es.length - 1 < (mx_cpy (lst es cp) (lst es cp) (k + 1) k (es.length - 1 - k)).length by omega]
        · have : ((mx_cpy (lst es cp) (lst es cp) (k + 1) k (es.length - 1 - k)).set (es.length - 1) Value.null).getD j .null = (mx_cpy (lst es cp) (lst es cp) (k + 1) k (es.length - 1 - k)).getD j .null := by simp [List.getD_eq_getElem?_getD, List.getElem?_set_ne (Ne.symm hje)]
          rw [this, mx_cpy_get, lst_len h1]
          by_cases hj2 : j < es.length - 1
          · rw [if_pos hj2]
            by_cases hjk : j < k
            · rw [if_neg (by omega), if_pos hjk, lst_get (by omega)]
            · rw [if_pos (by omega), if_neg hjk, show k + 1 + (j - k) = j + 1 by omega, lst_get (by omega)]
          · rw [if_neg hj2, if_neg (by omega), lst_getn (by omega)]
  obtain ⟨vs, e2A, e2s⟩ := e2
  have vl : vs.length = cp := by
    have := congrArg List.length e2s
    rw [List.length_set, lst_len (by omega)] at this
    exact this
  have F3 : Fr [a, A] h (mx_up (mx_up g2 a 1 (.int (nI (es.length - 1)))) A (es.length - 1) .null) := (F2.trans (Fr.up (F := [a, A]) (by simp)) (fun q hq => Or.inl hq)).trans (Fr.up (F := [a, A]) (by simp)) (fun q hq => Or.inl hq)
  refine ⟨mx_up (mx_up g2 a 1 (.int (nI (es.length - 1)))) A (es.length - 1) .null, ?_, ⟨⟨mc' + 1, ?_⟩, ?_, by omega, h2, h3, h4⟩, F3, by rw [mw_up, mw_up]; exact w2⟩
  · have k193 : mx_G (d + 1) 193 0 [some (.ref a), some (.ref A), some (.int (nI k)), none] [] h = some (none, mx_up (mx_up g2 a 1 (.int (nI (es.length - 1)))) A (es.length - 1) .null) := by
      rw [k1]
      simp only [g193_34, g193_35, g193_36, g193_37, g193_38, g193_41, g193_42_c7, g193_42_c8, g193_42n, g193_43, mx_isr_ref, mx_isr_null, mx_wt_nil, mx_wt_1, mx_wt_2, mx_wt_3, Option.bind_some, Option.toList_some, Option.toList_none, List.cons_append, List.nil_append, mx_nl_int, mx_nl_ref, mx_nl_null, mx_nl_none, mx_nb0, mx_nb1, mx_fb0, mx_fb1, mx_cat_int, mx_cat_ref, if_true, if_false, not_true_eq_false, not_false_eq_true, mx_wt_4, mx_w4_0, mx_w9_0, mx_w9_1, mx_kn_int, mx_kn_ref, mx_kn_null, Nat.reduceLT, ofn, n10, ce_t e2a, f9, mx_tag_up, mx_ln_up, ce_t e2A, ce_n e2A, vl, hnA, nI_pos' (show es.length - 1 < 2 ^ 31 by omega), nI_clamp (show es.length - 1 < 2 ^ 31 by omega), show es.length - 1 < cp by omega]
    simp only [g192_0, g192_1, g192_2, g192_5, g192_8, g192_9, g192_10, g192_13, g192_14, g192_15, g192_16, g192_17, g192_18, g192_19, g192_20, g192_21, g192_24, g192_25, mx_isr_ref, mx_isr_null, mx_wt_nil, mx_wt_1, mx_wt_2, mx_wt_3, Option.bind_some, Option.toList_some, Option.toList_none, List.cons_append, List.nil_append, mx_nl_int, mx_nl_ref, mx_nl_null, mx_nl_none, mx_nb0, mx_nb1, mx_fb0, mx_fb1, mx_cat_int, mx_cat_ref, if_true, if_false, not_true_eq_false, not_false_eq_true, mx_wt_4, mx_w4_0, mx_w9_0, mx_w9_1, mx_kn_int, mx_kn_ref, mx_kn_null, Nat.reduceLT, ofn, n10, f1, f2, f3, f4, f6, f7, jl_chk hk (show es.length < 2 ^ 31 by omega), nI_pos' (show k < 2 ^ 31 by omega), nI_clamp (show k < 2 ^ 31 by omega), show k < cp by omega, f8 k hk, k193]
  · rw [c_upn (Ne.symm f10), c_up e2a, el]
    rfl
  · rw [c_up (by rw [c_upn f10]; exact e2A), e2s]
theorem jl_clearL {n0 : Nat} (hn : n0 ≤ cp) (h1000 : cp ≤ 1000) (hnA : mt_nO ≤ A) : ∀ n i (h : mx_H) (vs : List Value), n + i = n0 → h[A]? = some (.inr oT, vs) → vs.length = cp → (∀ j, j < i ∨ n0 ≤ j → vs.getD j .null = .null) → ∃ h', mx_G d 197 27 [some (.ref a), some (.ref A), some (.int (nI n0)), some (.int (nI i))] [] h = some (none, h') ∧ h'[A]? = some (.inr oT, lst [] cp) ∧ Fr [A] h h' ∧ mw h' = mw h := by
  intro n
  induction n with
  | zero =>
    intro i h vs hi eA hl hv
    have : i = n0 := by omega
    subst this
    refine ⟨h, ?_, ?_, Fr.rfl _ _, rfl⟩
    · simp only [g197_27, g197_28, g197_29, g197_32, g197_33, g197_34, g197_35_c7, g197_35_c8, g197_35n, g197_36, g197_39, g197_42, mx_isr_ref, mx_isr_null, mx_wt_nil, mx_wt_1, mx_wt_2, mx_wt_3, Option.bind_some, Option.toList_some, Option.toList_none, List.cons_append, List.nil_append, mx_nl_int, mx_nl_ref, mx_nl_null, mx_nl_none, mx_nb0, mx_nb1, mx_fb0, mx_fb1, mx_cat_int, mx_cat_ref, if_true, if_false, not_true_eq_false, not_false_eq_true, mx_wt_4, mx_w4_0, mx_w9_0, mx_w9_1, mx_kn_int, mx_kn_ref, mx_kn_null, Nat.reduceLT, ofn, n10, show nI i ≤ nI i from nI_le (Nat.le_refl _) (by omega)]
    · rw [eA, lst_ext (es := []) hl (by simp) (fun k hk => by rw [if_neg (by simp)]; exact hv k (by omega))]
  | succ n ih =>
    intro i h vs hi eA hl hv
    obtain ⟨h', i1, i2, i3, i4⟩ := ih (i + 1) (mx_up h A i .null) (vs.set i .null) (by omega) (c_up eA) (by rw [List.length_set]; exact hl) (fun j hj => by
      by_cases e : j = i
      · subst e
        by_cases hjl : j < vs.length
        · simp [List.getD_eq_getElem?_getD, hjl]
        · simp [List.getD_eq_getElem?_getD, hjl]
      · have : (vs.set i Value.null).getD j .null = vs.getD j .null := by simp [List.getD_eq_getElem?_getD, List.getElem?_set_ne (Ne.symm e)]
        rw [this]
        exact hv j (by omega))
    refine ⟨h', ?_, i2, (Fr.up (by simp)).trans i3 (fun q hq => Or.inl hq), by rw [i4, mw_up]⟩
    rw [g197_27]
    simp only [g197_28, g197_29, g197_32, g197_33, g197_34, g197_35_c7, g197_35_c8, g197_35n, g197_36, g197_39, mx_isr_ref, mx_isr_null, mx_wt_nil, mx_wt_1, mx_wt_2, mx_wt_3, Option.bind_some, Option.toList_some, Option.toList_none, List.cons_append, List.nil_append, mx_nl_int, mx_nl_ref, mx_nl_null, mx_nl_none, mx_nb0, mx_nb1, mx_fb0, mx_fb1, mx_cat_int, mx_cat_ref, if_true, if_false, not_true_eq_false, not_false_eq_true, mx_wt_4, mx_w4_0, mx_w9_0, mx_w9_1, mx_kn_int, mx_kn_ref, mx_kn_null, Nat.reduceLT, ofn, n10, nI_ge (show i < n0 by omega) (show n0 < 2 ^ 31 by omega), ce_t eA, ce_n eA, hl, hnA, nI_pos' (show i < 2 ^ 31 by omega), nI_clamp (show i < 2 ^ 31 by omega), show i < cp by omega, nI_1]
    exact i1
theorem jl_clear (L : AL h a A cp es) : ∃ h', mx_G d 197 0 [some (.ref a), none, none, none] [] h = some (none, h') ∧ AL h' a A cp [] ∧ Fr (fA a A) h h' ∧ mw h' = mw h := by
  obtain ⟨f1, f2, f3, f4, ⟨mc, f5⟩, f6, f7, f8, f9, f10⟩ := AL_f L
  obtain ⟨⟨mc', ea⟩, eA, h1, h2, h3, h4⟩ := L
  have hmc : mc' = mc := by rw [ce_e ea] at f5; exact Value.int.inj f5
  subst hmc
  generalize hg : mx_up (mx_up h a 2 (.int (mc' + 1))) a 1 (.int 0) = g
  have eag : g[a]? = some (.inl 3, [.ref A, .int 0, .int (mc' + 1)]) := by rw [← hg, c_up (c_up ea)]; rfl
  have eAg : g[A]? = some (.inr oT, lst es cp) := by rw [← hg, c_upn f10, c_upn f10]; exact eA
  have Fg : Fr (fA a A) h g := by
    rw [← hg]
    exact (Fr.up (fA_a _ _)).trans (Fr.up (F := fA a A) (fA_a _ _)) (fun q hq => Or.inl hq)
  have wg : mw g = mw h := by rw [← hg, mw_up, mw_up]
  have n1 : ∀ v k, k ≠ 2 → mx_el (mx_up h a 2 v) a k = mx_el h a k := fun v k hk => by rw [mx_el_up, if_neg (fun z => hk z.2.1)]
  have pre : mx_G d 197 0 [some (.ref a), none, none, none] [] h = mx_G d 197 27 [some (.ref a), some (.ref A), some (.int (nI es.length)), some (.int (nI 0))] [] g := by
    simp only [g197_0, g197_1, g197_2, g197_5, g197_6, g197_7, g197_10, g197_11, g197_14, g197_15, g197_16, g197_19, g197_20, g197_21, g197_22, g197_23, g197_26, mx_isr_ref, mx_isr_null, mx_wt_nil, mx_wt_1, mx_wt_2, mx_wt_3, Option.bind_some, Option.toList_some, Option.toList_none, List.cons_append, List.nil_append, mx_nl_int, mx_nl_ref, mx_nl_null, mx_nl_none, mx_nb0, mx_nb1, mx_fb0, mx_fb1, mx_cat_int, mx_cat_ref, if_true, if_false, not_true_eq_false, not_false_eq_true, mx_wt_4, mx_w4_0, mx_w9_0, mx_w9_1, mx_kn_int, mx_kn_ref, mx_kn_null, Nat.reduceLT, ofn, n10, f1, f2, f5, f9, mx_tag_up, mx_ln_up, n1 _ 0 (by decide), n1 _ 1 (by decide), f3, f4, hg]
    rfl
  rw [pre]
  rcases h4 with ⟨hA2, hcp⟩ | ⟨hA63, hcp⟩
  · have es0 : es = [] := List.eq_nil_of_length_eq_zero (by omega)
    subst es0
    refine ⟨g, ?_, ⟨⟨mc' + 1, eag⟩, eAg, by simp, h2, h3, Or.inl ⟨hA2, hcp⟩⟩, Fg, wg⟩
    simp only [g197_27, g197_28, g197_29, g197_32, g197_33, g197_34, g197_35_c7, g197_35_c8, g197_35n, g197_36, g197_39, g197_42, mx_isr_ref, mx_isr_null, mx_wt_nil, mx_wt_1, mx_wt_2, mx_wt_3, Option.bind_some, Option.toList_some, Option.toList_none, List.cons_append, List.nil_append, mx_nl_int, mx_nl_ref, mx_nl_null, mx_nl_none, mx_nb0, mx_nb1, mx_fb0, mx_fb1, mx_cat_int, mx_cat_ref, if_true, if_false, not_true_eq_false, not_false_eq_true, mx_wt_4, mx_w4_0, mx_w9_0, mx_w9_1, mx_kn_int, mx_kn_ref, mx_kn_null, Nat.reduceLT, ofn, n10, List.length_nil, show nI 0 ≤ nI 0 by decide]
  · have hnA : mt_nO ≤ A := by rw [show mt_nO = 63 by decide]; exact hA63
    obtain ⟨h', i1, i2, i3, i4⟩ := jl_clearL (d := d) (a := a) (A := A) (cp := cp) h1 h2 hnA es.length 0 g _ (by omega) eAg (lst_len h1) (fun j hj => lst_getn (by omega))
    have hA2 : A ≠ 2 := by omega
    exact ⟨h', i1, ⟨⟨mc' + 1, i3.at eag (by simp; exact fun z => f10 z.symm)⟩, i2, by simp, h2, h3, Or.inr ⟨hA63, hcp⟩⟩, Fg.trans i3 (fun q hq => Or.inl (by rw [List.mem_singleton] at hq; rw [hq]; exact fA_A hA2)), by rw [i4]; exact wg⟩
end
