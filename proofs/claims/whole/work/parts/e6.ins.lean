/-! ArrayList.add at a place. -/
section
variable {d : Nat} {h : mx_H} {a A cp : Nat} {es : List Nat}
theorem jl_rng (L : AL h a A cp es) {k : Nat} (hk : k ≤ es.length) : mx_G d 207 0 [some (.ref a), some (.int (nI k))] [] h = some (none, h) := by
  obtain ⟨f1, f2, f3, f4, ⟨mc, f5⟩, f6, f7, f8, f9, f10⟩ := AL_f L
  have := L.2.2.1
  have := L.2.2.2.1
  have q : ¬ nI es.length < nI k := nI_nlt (a := es.length) (b := k) hk (by omega)
  simp only [g207_0, g207_1, g207_2, g207_5, g207_8, g207_9, g207_25, mx_isr_ref, mx_isr_null, mx_wt_nil, mx_wt_1, mx_wt_2, mx_wt_3, Option.bind_some, Option.toList_some, Option.toList_none, List.cons_append, List.nil_append, mx_nl_int, mx_nl_ref, mx_nl_null, mx_nl_none, mx_nb0, mx_nb1, mx_fb0, mx_fb1, mx_cat_int, mx_cat_ref, if_true, if_false, not_true_eq_false, not_false_eq_true, mx_wt_4, mx_w4_0, mx_w9_0, mx_w9_1, mx_kn_int, mx_kn_ref, mx_kn_null, Nat.reduceLT, ofn, n10, f1, f2, f4, q, nI_pos' (show k < 2 ^ 31 by omega)]
theorem jl_insert (L : AL h a A cp es) (hn : es.length ≤ 400) (ht : ∀ e ∈ es, elt h e) {e k : Nat} (hk : k ≤ es.length) (he : elt h e) : ∃ (h' : mx_H) (A' cp' : Nat), mx_G (d + 6) 206 0 [some (.ref a), some (.int (nI k)), some (.ref e), none, none] [] h = some (none, h') ∧ AL h' a A' cp' (es.insertIdx k e) ∧ Fr (fA a A) h h' ∧ (A' = A ∨ h.length ≤ A') ∧ 63 ≤ A' ∧ mw h' + 6 * cp ≤ mw h + 6 * cp' := by
  have rg := jl_rng (d := d + 5) L hk
  obtain ⟨f1, f2, f3, f4, ⟨mc, f5⟩, f6, f7, f8, f9, f10⟩ := AL_f L
  obtain ⟨⟨mc', ea⟩, eA, h1, h2, h3, h4⟩ := L
  have hmc : mc' = mc := by rw [ce_e ea] at f5; exact Value.int.inj f5
  subst hmc
  have L1 : AL (mx_up h a 2 (.int (mc' + 1))) a A cp es := ⟨⟨mc' + 1, by rw [c_up ea]; rfl⟩, by rw [c_upn f10]; exact eA, h1, h2, h3, h4⟩
  have F1 : Fr [a] h (mx_up h a 2 (.int (mc' + 1))) := Fr.up (by simp)
  generalize hh1 : mx_up h a 2 (.int (mc' + 1)) = g at L1 F1
  have wg : mw g = mw h := by rw [← hh1, mw_up]
  have lg : g.length = h.length := by rw [← hh1, mx_len_up]
  have htg : ∀ e ∈ es, elt g e := fun e he => by rw [← hh1]; exact elt_up (ht e he)
  have heg : elt g e := by rw [← hh1]; exact elt_up he
  have nea : ∀ e, elt g e → e ≠ a := by
    rintro e heg rfl
    obtain ⟨⟨mq, eq⟩, -⟩ := L1
    have := ce_t eq
    rcases heg with z | z <;> (rw [z] at this; cases this)
  obtain ⟨p1, p2, p3, p4, ⟨mp, p5⟩, p6, p7, p8, p9, p10⟩ := AL_f L1
  obtain ⟨h2', A', cp', k1, L2, hlt, F2, hA', w2, k63, het, hts⟩ : ∃ (h2' : mx_H) (A' cp' : Nat), mx_G (d + 6) 206 0 [some (.ref a), some (.int (nI k)), some (.ref e), none, none] [] h = mx_G (d + 6) 206 38 [some (.ref a), some (.int (nI k)), some (.ref e), some (.int (nI es.length)), some (.ref A')] [] h2' ∧ AL h2' a A' cp' es ∧ es.length < cp' ∧ Fr [a] g h2' ∧ (A' = A ∨ h.length ≤ A') ∧ mw h2' + 6 * cp ≤ mw g + 6 * cp' ∧ 63 ≤ A' ∧ elt h2' e ∧ ∀ e ∈ es, elt h2' e := by
    by_cases hf : es.length = cp
    · obtain ⟨h2', A', cp', b1, b2, b3, b4, b5, b6⟩ := jl_grow (d := d) L1 hf hn htg
      refine ⟨h2', A', cp', ?_, b2, by omega, b4, Or.inr (by omega), b6, by have := ce_l ea; omega, elt_fr heg b4 ?_, fun e' he' => elt_fr (htg e' he') b4 ?_⟩
      · simp only [g206_0, g206_1, g206_2, g206_5, g206_6, g206_7, g206_10, g206_11, g206_12, g206_15, g206_16, g206_19, g206_20, g206_21, g206_22, g206_25, g206_26, g206_28, g206_28c, g206_28i, g206_28q, g206_29, g206_32, g206_33, g206_36, mx_isr_ref, mx_isr_null, mx_wt_nil, mx_wt_1, mx_wt_2, mx_wt_3, Option.bind_some, Option.toList_some, Option.toList_none, List.cons_append, List.nil_append, mx_nl_int, mx_nl_ref, mx_nl_null, mx_nl_none, mx_nb0, mx_nb1, mx_fb0, mx_fb1, mx_cat_int, mx_cat_ref, if_true, if_false, not_true_eq_false, not_false_eq_true, mx_wt_4, mx_w4_0, mx_w9_0, mx_w9_1, mx_kn_int, mx_kn_ref, mx_kn_null, Nat.reduceLT, ofn, n10, f1, f2, f5, f9, rg, hh1, p1, p2, p3, p4, p6, p7, hf, b1]
      · rw [List.mem_singleton]; exact nea _ heg
      · rw [List.mem_singleton]; exact nea _ (htg e' he')
    · have q : ¬ nI es.length = nI cp := fun z => hf ((nI_eq (by omega) (by omega)).mp z)
      refine ⟨g, A, cp, ?_, L1, by omega, Fr.rfl _ _, Or.inl rfl, Nat.le_refl _, by omega, heg, htg⟩
      simp only [g206_0, g206_1, g206_2, g206_5, g206_6, g206_7, g206_10, g206_11, g206_12, g206_15, g206_16, g206_19, g206_20, g206_21, g206_22, g206_25, g206_26, g206_28, g206_28c, g206_28i, g206_28q, g206_29, mx_isr_ref, mx_isr_null, mx_wt_nil, mx_wt_1, mx_wt_2, mx_wt_3, Option.bind_some, Option.toList_some, Option.toList_none, List.cons_append, List.nil_append, mx_nl_int, mx_nl_ref, mx_nl_null, mx_nl_none, mx_nb0, mx_nb1, mx_fb0, mx_fb1, mx_cat_int, mx_cat_ref, if_true, if_false, not_true_eq_false, not_false_eq_true, mx_wt_4, mx_w4_0, mx_w9_0, mx_w9_1, mx_kn_int, mx_kn_ref, mx_kn_null, Nat.reduceLT, ofn, n10, f1, f2, f5, f9, rg, hh1, p1, p2, p3, p4, p6, p7, q]
  obtain ⟨g1, g2, g3, g4, g5, g6, g7, g8, g9, g10⟩ := AL_f L2
  obtain ⟨⟨mc2, ea2⟩, eA2, i1, i2, i3, i4⟩ := L2
  have hnA : mt_nO ≤ A' := by rw [show mt_nO = 63 by decide]; exact k63
  have hc := cA_obj eA2 hts (sp := k) (n := es.length - k)
  have q2 : nI es.length - nI k = nI (es.length - k) := nI_sub hk
  have ec := c_cp eA2 eA2 (sp := k) (dp := k + 1) (n := es.length - k)
  have ecn : (mx_cp h2' A' k A' (k + 1) (es.length - k))[a]? = some (.inl 3, [.ref A', .int (nI es.length), .int mc2]) := by rw [c_cpn (Ne.symm g10)]; exact ea2
  have Fc : Fr [A'] h2' (mx_cp h2' A' k A' (k + 1) (es.length - k)) := Fr.cp (by simp)
  have wc : mw (mx_cp h2' A' k A' (k + 1) (es.length - k)) = mw h2' := mw_cp ..
  have hetc : elt (mx_cp h2' A' k A' (k + 1) (es.length - k)) e := elt_fr het Fc (by rw [List.mem_singleton]; exact elt_ne het eA2)
  have il : (es.insertIdx k e).length = es.length + 1 := by rw [List.length_insertIdx, if_pos hk]
  have cl : (mx_cpy (lst es cp') (lst es cp') k (k + 1) (es.length - k)).length = cp' := by rw [mx_cpy_len, lst_len i1]
  generalize hcp : mx_cp h2' A' k A' (k + 1) (es.length - k) = h3 at ec ecn Fc wc hetc
  have tA3 : mx_tag h3 A' = some (.inr oT) := ce_t ec
  have lA3 : mx_ln h3 A' = cp' := by rw [ce_n ec, cl]
  refine ⟨mx_up (mx_up h3 A' k (.ref e)) a 1 (.int (nI (es.length + 1))), A', cp', ?_, ⟨⟨mc2, ?_⟩, ?_, by omega, i2, i3, Or.inr ⟨k63, by omega⟩⟩, ?_, hA', k63, ?_⟩
  · rw [k1]
    rcases hetc with z | z
    · simp only [g206_38, g206_40, g206_41, g206_43, g206_44, g206_45, g206_46, g206_47, g206_48, g206_49, g206_52, g206_54, g206_55, g206_56_c7, g206_56_c8, g206_56n, g206_57, g206_58, g206_59, g206_60, g206_61, g206_64, mx_isr_ref, mx_isr_null, mx_wt_nil, mx_wt_1, mx_wt_2, mx_wt_3, Option.bind_some, Option.toList_some, Option.toList_none, List.cons_append, List.nil_append, mx_nl_int, mx_nl_ref, mx_nl_null, mx_nl_none, mx_nb0, mx_nb1, mx_fb0, mx_fb1, mx_cat_int, mx_cat_ref, if_true, if_false, not_true_eq_false, not_false_eq_true, mx_wt_4, mx_w4_0, mx_w9_0, mx_w9_1, mx_kn_int, mx_kn_ref, mx_kn_null, Nat.reduceLT, ofn, n10, g6, g7, hnA, q2, nI_1, nI_pos' (show k < 2 ^ 31 by omega), nI_pos' (show k + 1 < 2 ^ 31 by omega), nI_pos' (show es.length - k < 2 ^ 31 by omega), nI_clamp (show k < 2 ^ 31 by omega), nI_clamp (show k + 1 < 2 ^ 31 by omega), nI_clamp (show es.length - k < 2 ^ 31 by omega), show k + (es.length - k) ≤ cp' by omega, show k + 1 + (es.length - k) ≤ cp' by omega, hc, hcp, tA3, lA3, z, show k < cp' by omega, mx_tag_up, ce_t ecn, g9]
    · simp only [g206_38, g206_40, g206_41, g206_43, g206_44, g206_45, g206_46, g206_47, g206_48, g206_49, g206_52, g206_54, g206_55, g206_56_c7, g206_56_c8, g206_56n, g206_57, g206_58, g206_59, g206_60, g206_61, g206_64, mx_isr_ref, mx_isr_null, mx_wt_nil, mx_wt_1, mx_wt_2, mx_wt_3, Option.bind_some, Option.toList_some, Option.toList_none, List.cons_append, List.nil_append, mx_nl_int, mx_nl_ref, mx_nl_null, mx_nl_none, mx_nb0, mx_nb1, mx_fb0, mx_fb1, mx_cat_int, mx_cat_ref, if_true, if_false, not_true_eq_false, not_false_eq_true, mx_wt_4, mx_w4_0, mx_w9_0, mx_w9_1, mx_kn_int, mx_kn_ref, mx_kn_null, Nat.reduceLT, ofn, n10, g6, g7, hnA, q2, nI_1, nI_pos' (show k < 2 ^ 31 by omega), nI_pos' (show k + 1 < 2 ^ 31 by omega), nI_pos' (show es.length - k < 2 ^ 31 by omega), nI_clamp (show k < 2 ^ 31 by omega), nI_clamp (show k + 1 < 2 ^ 31 by omega), nI_clamp (show es.length - k < 2 ^ 31 by omega), show k + (es.length - k) ≤ cp' by omega, show k + 1 + (es.length - k) ≤ cp' by omega, hc, hcp, tA3, lA3, z, show k < cp' by omega, mx_tag_up, ce_t ecn, g9]
  · rw [c_up (by rw [c_upn (Ne.symm g10)]; exact ecn), il]
    simp
  · rw [c_upn g10, c_up ec]
    refine congrArg (fun z => some (_, z)) (lst_ext (by rw [List.length_set, cl]) (by omega) (fun j hj => ?_))
    rw [il, gd_insert hk]
    by_cases hje : j = k
    · subst hje
      rw [if_pos (by omega), if_neg (by omega), if_pos rfl]
      simp [List.getD_eq_getElem?_getD, show j < (mx_cpy (lst es cp') (lst es cp') j (j + 1) (es.length - j)).length by omega]
    · have : ((mx_cpy (lst es cp') (lst es cp') k (k + 1) (es.length - k)).set k (Value.ref e)).getD j .null = (mx_cpy (lst es cp') (lst es cp') k (k + 1) (es.length - k)).getD j .null := by simp [List.getD_eq_getElem?_getD, List.getElem?_set_ne (Ne.symm hje)]
      rw [this, mx_cpy_get, lst_len i1]
      by_cases hj2 : j < k
      · rw [if_neg (by omega), if_pos (by omega), if_pos hj2, lst_get (by omega)]
      · by_cases hj3 : j < es.length + 1
        · rw [if_pos (by omega), if_pos hj3, if_neg hj2, if_neg hje, show k + (j - (k + 1)) = j - 1 by omega, lst_get (by omega)]
        · rw [if_neg (by omega), if_neg hj3, lst_getn (by omega)]
  · have FF : Fr (fA a A) g h2' := F2.mono (fun q hq => by rw [List.mem_singleton] at hq; rw [hq]; exact fA_a _ _)
    have hA2 : ∀ q, q ∈ [A'] → q ∈ fA a A ∨ h.length ≤ q := by
      intro q hq
      rw [List.mem_singleton] at hq
      rw [hq]
      rcases hA' with z | z
      · rw [z]
        by_cases hA2 : A = 2
        · omega
        · exact Or.inl (fA_A hA2)
      · exact Or.inr z
    exact ((((F1.mono (fun q hq => by rw [List.mem_singleton] at hq; rw [hq]; exact fA_a _ _)).trans FF (fun q hq => Or.inl hq)).trans Fc hA2).trans (Fr.up (F := [A']) (by simp)) hA2).trans (Fr.up (F := fA a A) (fA_a _ _)) (fun q hq => Or.inl hq)
  · rw [mw_up, mw_up]
    omega
end
