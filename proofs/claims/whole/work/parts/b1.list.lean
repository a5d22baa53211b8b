/-! ArrayList. -/
abbrev oT : FieldType := .object "java/lang/Object"
def lst (es : List Nat) (cp : Nat) : List Value := es.map (fun e => .ref e) ++ List.replicate (cp - es.length) .null
theorem lst_len {es : List Nat} {cp : Nat} (h : es.length ≤ cp) : (lst es cp).length = cp := by simp [lst]; omega
theorem lst_get {es : List Nat} {cp k : Nat} (h : k < es.length) : (lst es cp).getD k .null = .ref (es.getD k 0) := by
  unfold lst
  rw [List.getD_eq_getElem?_getD, List.getElem?_append_left (by simpa using h)]
  simp [List.getD_eq_getElem?_getD, h]
theorem lst_getn {es : List Nat} {cp k : Nat} (h : es.length ≤ k) : (lst es cp).getD k .null = .null := by
  unfold lst
  rw [List.getD_eq_getElem?_getD, List.getElem?_append_right (by simpa using h)]
  by_cases hk : k - es.length < cp - es.length
  · simp [hk]
  · simp [List.getElem?_eq_none, hk]
theorem lst_add {es : List Nat} {cp e : Nat} (h : es.length < cp) : (lst es cp).set es.length (.ref e) = lst (es ++ [e]) cp := by
  unfold lst
  rw [List.set_append_right _ _ (by simp), List.length_map, Nat.sub_self, show cp - es.length = (cp - (es ++ [e]).length) + 1 by simp; omega, List.replicate_succ, List.set_cons_zero]
  simp
theorem lst_set {es : List Nat} {cp k e : Nat} (h : k < es.length) : (lst es cp).set k (.ref e) = lst (es.set k e) cp := by
  unfold lst
  rw [List.set_append_left _ _ (by simpa using h), List.length_set, List.map_set]
/-- the list at a, its row at A with room for cp -/
def AL (h : mx_H) (a A cp : Nat) (es : List Nat) : Prop := (∃ mc, h[a]? = some (.inl 3, [.ref A, .int (nI es.length), .int mc])) ∧ h[A]? = some (.inr oT, lst es cp) ∧ es.length ≤ cp ∧ cp ≤ 1000 ∧ 63 ≤ a ∧ (A = 2 ∧ cp = 0 ∨ 63 ≤ A ∧ 10 ≤ cp)
theorem AL_f {h : mx_H} {a A cp : Nat} {es : List Nat} (L : AL h a A cp es) : mx_tag h a = some (.inl 3) ∧ mx_ln h a = 3 ∧ mx_el h a 0 = .ref A ∧ mx_el h a 1 = .int (nI es.length) ∧ (∃ mc, mx_el h a 2 = .int mc) ∧ mx_tag h A = some (.inr oT) ∧ mx_ln h A = cp ∧ (∀ k, k < es.length → mx_el h A k = .ref (es.getD k 0)) ∧ mt_nO ≤ a ∧ A ≠ a := by
  obtain ⟨⟨mc, e1⟩, e2, e3, e4, e5, e6⟩ := L
  refine ⟨ce_t e1, by rw [ce_n e1]; rfl, by rw [ce_e e1]; rfl, by rw [ce_e e1]; rfl, ⟨mc, by rw [ce_e e1]; rfl⟩, ce_t e2, by rw [ce_n e2, lst_len e3], fun k hk => by rw [ce_e e2, lst_get hk], by rw [show mt_nO = 63 by decide]; exact e5, ?_⟩
  rintro rfl
  rw [e1] at e2
  cases e2
theorem AL_fr {F : List Nat} {h h' : mx_H} {a A cp : Nat} {es : List Nat} (L : AL h a A cp es) (f : Fr F h h') (ha : a ∉ F) (hA : A ∉ F) : AL h' a A cp es := by
  obtain ⟨⟨mc, e1⟩, e2, r⟩ := L
  exact ⟨⟨mc, f.at e1 ha⟩, f.at e2 hA, r⟩
/-- an element of such a list -/
def elt (h : mx_H) (e : Nat) : Prop := mx_tag h e = some (.inl 7) ∨ mx_tag h e = some (.inl 8)
def fA (a A : Nat) : List Nat := if A = 2 then [a] else [a, A]
theorem fA_a (a A : Nat) : a ∈ fA a A := by unfold fA; split <;> simp
theorem fA_A {a A : Nat} (h : A ≠ 2) : A ∈ fA a A := by unfold fA; rw [if_neg h]; simp
theorem fA_63 {a A : Nat} (ha : 63 ≤ a) (hA : A = 2 ∨ 63 ≤ A) : ∀ q ∈ fA a A, 63 ≤ q := by
  intro q hq
  unfold fA at hq
  split at hq
  · rw [List.mem_singleton] at hq; omega
  · simp at hq; omega
theorem elt_lt {h : mx_H} {e : Nat} (t : elt h e) : e < h.length := t.elim (fun z => mx_tag_lt z) (fun z => mx_tag_lt z)
theorem elt_up {h : mx_H} {e a k : Nat} {v : Value} (t : elt h e) : elt (mx_up h a k v) e := by
  unfold elt
  rw [mx_tag_up]
  exact t
theorem elt_fr {F : List Nat} {h h' : mx_H} {e : Nat} (t : elt h e) (f : Fr F h h') (he : e ∉ F) : elt h' e := by
  have hl := elt_lt t
  unfold elt mx_tag at t ⊢
  rw [f.2 e hl he]
  exact t
theorem elt_ne {h : mx_H} {e A : Nat} {vs : List Value} {t0 : FieldType} (t : elt h e) (eA : h[A]? = some (.inr t0, vs)) : e ≠ A := by
  rintro rfl
  unfold elt at t
  rw [ce_t eA] at t
  rcases t with z | z <;> cases z
theorem cA_obj {h : mx_H} {A cp : Nat} {es : List Nat} (eA : h[A]? = some (.inr oT, lst es cp)) (ht : ∀ e ∈ es, elt h e) {sp n : Nat} : mx_cA h oT A sp n := by
  intro k hk
  rw [ce_e eA]
  by_cases hl : sp + k < es.length
  · rw [lst_get hl]
    have := ht (es.getD (sp + k) 0) (by rw [List.getD_eq_getElem?_getD, List.getElem?_eq_getElem hl]; exact List.getElem_mem hl)
    rcases this with z | z
    · obtain ⟨vs, e1, -⟩ := mx_tag_some z
      simp only [mx_cel, e1]
      decide +kernel
    · obtain ⟨vs, e1, -⟩ := mx_tag_some z
      simp only [mx_cel, e1]
      decide +kernel
  · rw [lst_getn (by omega)]
    show (refKind oT && fits oT .null) = true
    decide +kernel
theorem shr1 {c : Nat} (h : c ≤ 1000) : nI c >>> ((1 : Int32) &&& 31) = nI (c / 2) := by
  have key : ∀ c, c < 1001 → nI c >>> ((1 : Int32) &&& 31) = nI (c / 2) := by decide +kernel
  exact key c (by omega)
section
variable {d : Nat} {h : mx_H} {a A cp : Nat} {es : List Nat}
theorem jl_size (L : AL h a A cp es) : mx_G d 138 0 [some (.ref a)] [] h = some (some (.int (nI es.length)), h) := by
  obtain ⟨f1, f2, f3, f4, f5, f6, f7, f8, f9, f10⟩ := AL_f L
  simp only [g138_0, g138_1, g138_4, mx_isr_ref, mx_isr_null, mx_wt_nil, mx_wt_1, mx_wt_2, mx_wt_3, Option.bind_some, Option.toList_some, Option.toList_none, List.cons_append, List.nil_append, mx_nl_int, mx_nl_ref, mx_nl_null, mx_nl_none, mx_nb0, mx_nb1, mx_fb0, mx_fb1, mx_cat_int, mx_cat_ref, if_true, if_false, not_true_eq_false, not_false_eq_true, mx_wt_4, mx_w4_0, mx_w9_0, mx_w9_1, mx_kn_int, mx_kn_ref, mx_kn_null, Nat.reduceLT, ofn, n10, f1, f2, f4]
theorem jl_empty (L : AL h a A cp es) : mx_G d 205 0 [some (.ref a)] [] h = some (some (.int (if es = [] then 1 else 0)), h) := by
  obtain ⟨f1, f2, f3, f4, f5, f6, f7, f8, f9, f10⟩ := AL_f L
  by_cases e : es = []
  · subst e
    simp only [g205_0, g205_1, g205_4, g205_7, g205_8, g205_11, g205_12, mx_isr_ref, mx_isr_null, mx_wt_nil, mx_wt_1, mx_wt_2, mx_wt_3, Option.bind_some, Option.toList_some, Option.toList_none, List.cons_append, List.nil_append, mx_nl_int, mx_nl_ref, mx_nl_null, mx_nl_none, mx_nb0, mx_nb1, mx_fb0, mx_fb1, mx_cat_int, mx_cat_ref, if_true, if_false, not_true_eq_false, not_false_eq_true, mx_wt_4, mx_w4_0, mx_w9_0, mx_w9_1, mx_kn_int, mx_kn_ref, mx_kn_null, Nat.reduceLT, ofn, n10, f1, f2, f4, List.length_nil, show nI 0 = 0 from rfl]
  · have : ¬ nI es.length = 0 := nI_ne0 (List.length_pos_iff.mpr e) (by have := L.2.2.1; have := L.2.2.2.1; omega)
    simp only [g205_0, g205_1, g205_4, g205_7, g205_8, g205_11, g205_12, mx_isr_ref, mx_isr_null, mx_wt_nil, mx_wt_1, mx_wt_2, mx_wt_3, Option.bind_some, Option.toList_some, Option.toList_none, List.cons_append, List.nil_append, mx_nl_int, mx_nl_ref, mx_nl_null, mx_nl_none, mx_nb0, mx_nb1, mx_fb0, mx_fb1, mx_cat_int, mx_cat_ref, if_true, if_false, not_true_eq_false, not_false_eq_true, mx_wt_4, mx_w4_0, mx_w9_0, mx_w9_1, mx_kn_int, mx_kn_ref, mx_kn_null, Nat.reduceLT, ofn, n10, f1, f2, f4, this, e]
theorem jl_elD (L : AL h a A cp es) {k : Nat} (hk : k < es.length) : mx_G d 141 0 [some (.ref a), some (.int (nI k))] [] h = some (some (.ref (es.getD k 0)), h) := by
  obtain ⟨f1, f2, f3, f4, f5, f6, f7, f8, f9, f10⟩ := AL_f L
  have h1 := L.2.2.1
  have h2 := L.2.2.2.1
  simp only [g141_0, g141_1, g141_4, g141_5, g141_6, mx_isr_ref, mx_isr_null, mx_wt_nil, mx_wt_1, mx_wt_2, mx_wt_3, Option.bind_some, Option.toList_some, Option.toList_none, List.cons_append, List.nil_append, mx_nl_int, mx_nl_ref, mx_nl_null, mx_nl_none, mx_nb0, mx_nb1, mx_fb0, mx_fb1, mx_cat_int, mx_cat_ref, if_true, if_false, not_true_eq_false, not_false_eq_true, mx_wt_4, mx_w4_0, mx_w9_0, mx_w9_1, mx_kn_int, mx_kn_ref, mx_kn_null, Nat.reduceLT, ofn, n10, f1, f2, f3, f6, f7, nI_pos' (show k < 2 ^ 31 by omega), nI_clamp (show k < 2 ^ 31 by omega), show k < cp by omega, f8 k hk]
theorem jl_chk {k n : Nat} (hk : k < n) (hn : n < 2 ^ 31) : mx_G (d + 1) 140 0 [some (.int (nI k)), some (.int (nI n))] [] h = some (some (.int (nI k)), h) := by
  simp only [g140_0, g140_1, g140_2, g140_3, g140_6, mx_isr_ref, mx_isr_null, mx_wt_nil, mx_wt_1, mx_wt_2, mx_wt_3, Option.bind_some, Option.toList_some, Option.toList_none, List.cons_append, List.nil_append, mx_nl_int, mx_nl_ref, mx_nl_null, mx_nl_none, mx_nb0, mx_nb1, mx_fb0, mx_fb1, mx_cat_int, mx_cat_ref, if_true, if_false, not_true_eq_false, not_false_eq_true, mx_wt_4, mx_w4_0, mx_w9_0, mx_w9_1, mx_kn_int, mx_kn_ref, mx_kn_null, Nat.reduceLT, ofn, n10, js_idx hk hn, show Value.null.category = 1 by rfl]
theorem jl_get (L : AL h a A cp es) {k : Nat} (hk : k < es.length) : mx_G (d + 2) 139 0 [some (.ref a), some (.int (nI k))] [] h = some (some (.ref (es.getD k 0)), h) := by
  obtain ⟨f1, f2, f3, f4, f5, f6, f7, f8, f9, f10⟩ := AL_f L
  have h1 := L.2.2.1
  have h2 := L.2.2.2.1
  simp only [g139_0, g139_1, g139_2, g139_5, g139_8, g139_9, g139_10, g139_11, g139_14, mx_isr_ref, mx_isr_null, mx_wt_nil, mx_wt_1, mx_wt_2, mx_wt_3, Option.bind_some, Option.toList_some, Option.toList_none, List.cons_append, List.nil_append, mx_nl_int, mx_nl_ref, mx_nl_null, mx_nl_none, mx_nb0, mx_nb1, mx_fb0, mx_fb1, mx_cat_int, mx_cat_ref, if_true, if_false, not_true_eq_false, not_false_eq_true, mx_wt_4, mx_w4_0, mx_w9_0, mx_w9_1, mx_kn_int, mx_kn_ref, mx_kn_null, Nat.reduceLT, ofn, n10, f1, f2, f4, jl_chk hk (show es.length < 2 ^ 31 by omega), jl_elD L hk]
/-- the row grows -/
theorem jl_grow (L : AL h a A cp es) (hf : es.length = cp) (hn : es.length ≤ 400) (ht : ∀ e ∈ es, elt h e) : ∃ (h' : mx_H) (A' cp' : Nat), mx_G (d + 5) 133 0 [some (.ref a)] [] h = some (some (.ref A'), h') ∧ AL h' a A' cp' es ∧ cp < cp' ∧ Fr [a] h h' ∧ h.length ≤ A' ∧ mw h' + 6 * cp ≤ mw h + 6 * cp' := by
  obtain ⟨f1, f2, f3, f4, f5, f6, f7, f8, f9, f10⟩ := AL_f L
  obtain ⟨⟨mc, ea⟩, eA, h1, h2, h3, h4⟩ := L
  have hal := ce_l ea
  have hAl := ce_l eA
  have q1 : nI es.length + 1 = nI (es.length + 1) := nI_1 _
  rcases h4 with ⟨hA2, hcp⟩ | ⟨hA63, hcp⟩
  · subst hA2
    subst hcp
    have es0 : es = [] := List.eq_nil_of_length_eq_zero hf
    subst es0
    have m1 := js_max (d := d + 3) (h := h) 10 1 (by decide) (by decide)
    rw [show nI 10 = 10 from rfl, show nI 1 = 1 from rfl, show nI (max 10 1) = 10 from rfl] at m1
    have ea1 : (h ++ [((.inr oT : Nat ⊕ FieldType), List.replicate 10 Value.null)])[a]? = some (.inl 3, [.ref 2, .int (nI 0), .int mc]) := by rw [c_appn hal]; exact ea
    have hel : h.length ≠ a := by omega
    refine ⟨mx_up (h ++ [((.inr oT : Nat ⊕ FieldType), List.replicate 10 Value.null)]) a 0 (.ref h.length), h.length, 10, ?_, ⟨⟨mc, by rw [c_up ea1]; rfl⟩, by rw [c_upn hel, c_app]; rfl, by simp, by decide, h3, Or.inr ⟨by omega, by decide⟩⟩, by decide, ?_, Nat.le_refl _, ?_⟩
    · have k134 : mx_G (d + 4) 134 0 [some (.ref a), some (.int 1), none, none] [] h = some (some (.ref h.length), mx_up (h ++ [((.inr oT : Nat ⊕ FieldType), List.replicate 10 Value.null)]) a 0 (.ref h.length)) := by
        simp only [g134_0, g134_1, g134_4, g134_4c, g134_4i, g134_4q, g134_5, g134_6, g134_7, g134_10, g134_11, g134_14, g134_17, g134_20, g134_21, g134_22, g134_23, g134_24, g134_25, g134_26, g134_27, g134_30, g134_31, g134_32, g134_33, g134_36, g134_37, g134_40, g134_41, g134_44, g134_45, g134_46, g134_48, g134_49, g134_52, g134_55, g134_56, g134_59, mx_isr_ref, mx_isr_null, mx_wt_nil, mx_wt_1, mx_wt_2, mx_wt_3, Option.bind_some, Option.toList_some, Option.toList_none, List.cons_append, List.nil_append, mx_nl_int, mx_nl_ref, mx_nl_null, mx_nl_none, mx_nb0, mx_nb1, mx_fb0, mx_fb1, mx_cat_int, mx_cat_ref, if_true, if_false, not_true_eq_false, not_false_eq_true, mx_wt_4, mx_w4_0, mx_w9_0, mx_w9_1, mx_kn_int, mx_kn_ref, mx_kn_null, Nat.reduceLT, ofn, n10, f1, f2, f3, f6, f7, show nI 0 = 0 from rfl, show ¬ (0 : Int32) < 0 by decide, show mx_sepv (.ref 2) (.ref 2) = true by decide, m1, show (0 : Int32) ≤ 10 by decide, show (10 : Int32).toNatClampNeg = 10 by decide, show (10 : Nat) ≤ 1000000 by decide, ce_t ea1, f9]
      have q2 : (0 : Int32) + 1 = 1 := by decide
      simp only [g133_0, g133_1, g133_2, g133_5, g133_6, g133_7, g133_10, mx_isr_ref, mx_isr_null, mx_wt_nil, mx_wt_1, mx_wt_2, mx_wt_3, Option.bind_some, Option.toList_some, Option.toList_none, List.cons_append, List.nil_append, mx_nl_int, mx_nl_ref, mx_nl_null, mx_nl_none, mx_nb0, mx_nb1, mx_fb0, mx_fb1, mx_cat_int, mx_cat_ref, if_true, if_false, not_true_eq_false, not_false_eq_true, mx_wt_4, mx_w4_0, mx_w9_0, mx_w9_1, mx_kn_int, mx_kn_ref, mx_kn_null, Nat.reduceLT, ofn, n10, f1, f2, f4, List.length_nil, show nI 0 = 0 from rfl, q2, k134]
    · exact (Fr.app [a] h _).trans (Fr.up (F := [a]) (by simp)) (fun q hq => Or.inl hq)
    · rw [mw_up, mw_app]
      simp
  · have hAne : A ≠ 2 := by omega
    have hnO : ∀ k, 63 ≤ k → mt_nO ≤ k := fun k hk => by rw [show mt_nO = 63 by decide]; exact hk
    have m1 := jb_newLen (d := d + 2) (h := h) (a := cp) (m := 1) (q := cp / 2) (by omega) (by omega) (by omega) (by omega)
    generalize hN : cp + max 1 (cp / 2) = N at m1
    have hN2 : N ≤ 1000 ∧ cp < N := by omega
    generalize hh : h ++ [((.inr oT : Nat ⊕ FieldType), List.replicate N Value.null)] = h5
    have e0 : h5[A]? = some (.inr oT, lst es cp) := by rw [← hh, c_appn hAl]; exact eA
    have e1 : h5[h.length]? = some (.inr oT, List.replicate N .null) := by rw [← hh, c_app]
    have ht5 : ∀ e ∈ es, elt h5 e := fun e he => elt_fr (ht e he) (F := []) (by rw [← hh]; exact Fr.app _ _ _) (by simp)
    have m2 := js_min (d := d + 1) (h := h5) cp N (by omega) (by omega)
    rw [show min cp N = cp by omega] at m2
    have hcA := cA_obj e0 ht5 (sp := 0) (n := cp)
    have cpy : mx_cpy (lst es cp) (List.replicate N Value.null) 0 0 cp = lst es N := by
      apply List.ext_getElem?
      intro j
      have ll : (mx_cpy (lst es cp) (List.replicate N Value.null) 0 0 cp).length = N := by rw [mx_cpy_len, List.length_replicate]
      have ll2 : (lst es N).length = N := lst_len (by omega)
      by_cases hj : j < N
      · have g1 := mx_cpy_get (lst es cp) (List.replicate N Value.null) 0 0 cp j
        have g2 : (lst es N).getD j .null = if j < cp then (lst es cp).getD j .null else .null := by
          by_cases hjc : j < es.length
          · rw [lst_get hjc, if_pos (by omega), lst_get hjc]
          · rw [lst_getn (by omega), lst_getn (by omega), ite_self]
        rw [List.getD_eq_getElem?_getD, List.getElem?_eq_getElem (by omega)] at g1 g2
        rw [List.getElem?_eq_getElem (by omega), List.getElem?_eq_getElem (by omega)]
        simp only [Option.getD_some] at g1 g2
        rw [g1, g2]
        simp only [List.length_replicate, Nat.zero_le, true_and, Nat.zero_add, Nat.sub_zero]
        by_cases hjc : j < cp
        · rw [if_pos ⟨hj, hjc⟩, if_pos hjc]
        · rw [if_neg (fun z => hjc z.2), if_neg hjc]
          simp [List.getD_eq_getElem?_getD, hj]
      · rw [List.getElem?_eq_none (by omega), List.getElem?_eq_none (by omega)]
    have k136 : mx_G (d + 2) 136 0 [some (.ref A), some (.int (nI N)), some (.ref 1), none] [] h = some (some (.ref h.length), mx_cp h5 A 0 h.length 0 cp) := by
      simp only [g136_0, g136_1, g136_3, g136_6, g136_7, g136_10, g136_13, g136_17, g136_21n, g136_24, g136_25, g136_26, g136_27, g136_28, g136_29, g136_30, g136_30c, g136_30i, g136_30q, g136_31, g136_32, g136_35, g136_38, g136_39, mx_isr_ref, mx_isr_null, mx_wt_nil, mx_wt_1, mx_wt_2, mx_wt_3, Option.bind_some, Option.toList_some, Option.toList_none, List.cons_append, List.nil_append, mx_nl_int, mx_nl_ref, mx_nl_null, mx_nl_none, mx_nb0, mx_nb1, mx_fb0, mx_fb1, mx_cat_int, mx_cat_ref, if_true, if_false, not_true_eq_false, not_false_eq_true, mx_wt_4, mx_w4_0, mx_w9_0, mx_w9_1, mx_kn_int, mx_kn_ref, mx_kn_null, Nat.reduceLT, ofn, n10, show mx_sepv (.ref 1) (.ref 1) = true by decide, nI_pos' (show N < 2 ^ 31 by omega), nI_clamp (show N < 2 ^ 31 by omega), show N ≤ 1000000 by omega, hh, ce_t e0, ce_n e0, lst_len h1, m2, ce_t e1, ce_n e1, hnO h.length (by omega), show (0 : Int32) ≤ 0 by decide, show (0 : Int32).toNatClampNeg = 0 by decide, nI_pos' (show cp < 2 ^ 31 by omega), nI_clamp (show cp < 2 ^ 31 by omega), Nat.zero_add, Nat.le_refl, List.length_replicate, Nat.le_of_lt hN2.2, hcA]
    have k135 : mx_G (d + 3) 135 0 [some (.ref A), some (.int (nI N))] [] h = some (some (.ref h.length), mx_cp h5 A 0 h.length 0 cp) := by
      simp only [g135_0, g135_1, g135_2, g135_3, g135_6, g135_9, mx_isr_ref, mx_isr_null, mx_wt_nil, mx_wt_1, mx_wt_2, mx_wt_3, Option.bind_some, Option.toList_some, Option.toList_none, List.cons_append, List.nil_append, mx_nl_int, mx_nl_ref, mx_nl_null, mx_nl_none, mx_nb0, mx_nb1, mx_fb0, mx_fb1, mx_cat_int, mx_cat_ref, if_true, if_false, not_true_eq_false, not_false_eq_true, mx_wt_4, mx_w4_0, mx_w9_0, mx_w9_1, mx_kn_int, mx_kn_ref, mx_kn_null, Nat.reduceLT, ofn, n10, f6, hnO A hA63, k136]
    have ea5 : (mx_cp h5 A 0 h.length 0 cp)[a]? = some (.inl 3, [.ref A, .int (nI es.length), .int mc]) := by
      rw [c_cpn (by omega), ← hh, c_appn hal]
      exact ea
    have eN5 : (mx_cp h5 A 0 h.length 0 cp)[h.length]? = some (.inr oT, lst es N) := by rw [c_cp e0 e1, cpy]
    refine ⟨mx_up (mx_cp h5 A 0 h.length 0 cp) a 0 (.ref h.length), h.length, N, ?_, ⟨⟨mc, by rw [c_up ea5]; rfl⟩, by rw [c_upn (by omega)]; exact eN5, by omega, hN2.1, h3, Or.inr ⟨by omega, by omega⟩⟩, hN2.2, ?_, Nat.le_refl _, ?_⟩
    · have q0 : (0 : Int32) < nI cp := nI_lt (a := 0) (by omega) (by omega)
      have q3 : nI (es.length + 1) - nI cp = 1 := by rw [hf, nI_sub (by omega), show cp + 1 - cp = 1 by omega]; rfl
      rw [show nI 1 = 1 from rfl] at m1
      have k134 : mx_G (d + 4) 134 0 [some (.ref a), some (.int (nI (es.length + 1))), none, none] [] h = some (some (.ref h.length), mx_up (mx_cp h5 A 0 h.length 0 cp) a 0 (.ref h.length)) := by
        simp only [g134_0, g134_1, g134_4, g134_4c, g134_4i, g134_4q, g134_5, g134_6, g134_7, g134_10, g134_11, g134_14, g134_17, g134_20, g134_21, g134_22, g134_23, g134_24, g134_25, g134_26, g134_27, g134_30, g134_31, g134_32, g134_33, g134_36, g134_37, g134_40, g134_41, g134_44, g134_45, g134_46, g134_48, g134_49, g134_52, g134_55, g134_56, g134_59, mx_isr_ref, mx_isr_null, mx_wt_nil, mx_wt_1, mx_wt_2, mx_wt_3, Option.bind_some, Option.toList_some, Option.toList_none, List.cons_append, List.nil_append, mx_nl_int, mx_nl_ref, mx_nl_null, mx_nl_none, mx_nb0, mx_nb1, mx_fb0, mx_fb1, mx_cat_int, mx_cat_ref, if_true, if_false, not_true_eq_false, not_false_eq_true, mx_wt_4, mx_w4_0, mx_w9_0, mx_w9_1, mx_kn_int, mx_kn_ref, mx_kn_null, Nat.reduceLT, ofn, n10, f1, f2, f3, f6, f7, q0, q3, shr1 h2, m1, k135, ce_t ea5, f9]
      simp only [g133_0, g133_1, g133_2, g133_5, g133_6, g133_7, g133_10, mx_isr_ref, mx_isr_null, mx_wt_nil, mx_wt_1, mx_wt_2, mx_wt_3, Option.bind_some, Option.toList_some, Option.toList_none, List.cons_append, List.nil_append, mx_nl_int, mx_nl_ref, mx_nl_null, mx_nl_none, mx_nb0, mx_nb1, mx_fb0, mx_fb1, mx_cat_int, mx_cat_ref, if_true, if_false, not_true_eq_false, not_false_eq_true, mx_wt_4, mx_w4_0, mx_w9_0, mx_w9_1, mx_kn_int, mx_kn_ref, mx_kn_null, Nat.reduceLT, ofn, n10, f1, f2, f4, q1, k134]
    · refine ((show Fr [a] h h5 by rw [← hh]; exact Fr.app _ _ _).trans (Fr.cp (F := [h.length]) (by simp)) (fun q hq => ?_)).trans (Fr.up (F := [a]) (by simp)) (fun q hq => Or.inl hq)
      rw [List.mem_singleton] at hq
      exact Or.inr (by omega)
    · rw [mw_up, mw_cp, ← hh, mw_app]
      simp
      omega
theorem jl_add (L : AL h a A cp es) (hn : es.length ≤ 400) (ht : ∀ e ∈ es, elt h e) {e : Nat} (he : elt h e) : ∃ (h' : mx_H) (A' cp' : Nat), mx_G (d + 7) 131 0 [some (.ref a), some (.ref e)] [] h = some (some (.int 1), h') ∧ AL h' a A' cp' (es ++ [e]) ∧ Fr (fA a A) h h' ∧ (A' = A ∨ h.length ≤ A') ∧ 63 ≤ A' ∧ mw h' + 6 * cp ≤ mw h + 6 * cp' := by
  obtain ⟨f1, f2, f3, f4, ⟨mc, f5⟩, f6, f7, f8, f9, f10⟩ := AL_f L
  obtain ⟨⟨mc', ea⟩, eA, h1, h2, h3, h4⟩ := L
  have hmc : mc' = mc := by rw [ce_e ea] at f5; exact Value.int.inj f5
  subst hmc
  -- the count of changes goes up first
  have L1 : AL (mx_up h a 2 (.int (mc' + 1))) a A cp es := ⟨⟨mc' + 1, by rw [c_up ea]; rfl⟩, by rw [c_upn f10]; exact eA, h1, h2, h3, h4⟩
  have F1 : Fr [a] h (mx_up h a 2 (.int (mc' + 1))) := Fr.up (by simp)
  generalize hh1 : mx_up h a 2 (.int (mc' + 1)) = g at L1 F1
  have wg : mw g = mw h := by rw [← hh1, mw_up]
  have lg : g.length = h.length := by rw [← hh1, mx_len_up]
  have htg : ∀ e ∈ es, elt g e := fun e he => by rw [← hh1]; exact elt_up (ht e he)
  have heg : elt g e := by rw [← hh1]; exact elt_up he
  -- a row with room
  obtain ⟨h2', A', cp', k1, L2, hlt, F2, hA', w2, k63, het⟩ : ∃ (h2' : mx_H) (A' cp' : Nat), mx_G (d + 6) 132 0 [some (.ref a), some (.ref e), some (.ref A), some (.int (nI es.length))] [] g = mx_G (d + 6) 132 11 [some (.ref a), some (.ref e), some (.ref A'), some (.int (nI es.length))] [] h2' ∧ AL h2' a A' cp' es ∧ es.length < cp' ∧ Fr [a] g h2' ∧ (A' = A ∨ h.length ≤ A') ∧ mw h2' + 6 * cp ≤ mw g + 6 * cp' ∧ 63 ≤ A' ∧ elt h2' e := by
    obtain ⟨g1, g2, g3, g4, g5, g6, g7, g8, g9, g10⟩ := AL_f L1
    by_cases hf : es.length = cp
    · obtain ⟨h2', A', cp', b1, b2, b3, b4, b5, b6⟩ := jl_grow (d := d) L1 hf hn htg
      refine ⟨h2', A', cp', ?_, b2, by omega, b4, Or.inr (by omega), b6, by have := ce_l ea; omega, elt_fr heg b4 ?_⟩
      · simp only [g132_0, g132_1, g132_2, g132_2c, g132_2i, g132_2q, g132_3, g132_6, g132_7, g132_10, mx_isr_ref, mx_isr_null, mx_wt_nil, mx_wt_1, mx_wt_2, mx_wt_3, Option.bind_some, Option.toList_some, Option.toList_none, List.cons_append, List.nil_append, mx_nl_int, mx_nl_ref, mx_nl_null, mx_nl_none, mx_nb0, mx_nb1, mx_fb0, mx_fb1, mx_cat_int, mx_cat_ref, if_true, if_false, not_true_eq_false, not_false_eq_true, mx_wt_4, mx_w4_0, mx_w9_0, mx_w9_1, mx_kn_int, mx_kn_ref, mx_kn_null, Nat.reduceLT, ofn, n10, g1, g6, g7, hf, b1]
      · rw [List.mem_singleton]
        rintro rfl
        obtain ⟨⟨mq, eq⟩, -⟩ := L1
        have := ce_t eq
        rcases heg with z | z <;> (rw [z] at this; cases this)
    · have q : ¬ nI es.length = nI cp := fun z => hf ((nI_eq (by omega) (by omega)).mp z)
      refine ⟨g, A, cp, ?_, L1, by omega, Fr.rfl _ _, Or.inl rfl, Nat.le_refl _, by omega, heg⟩
      simp only [g132_0, g132_1, g132_2, g132_2c, g132_2i, g132_2q, g132_3, mx_isr_ref, mx_isr_null, mx_wt_nil, mx_wt_1, mx_wt_2, mx_wt_3, Option.bind_some, Option.toList_some, Option.toList_none, List.cons_append, List.nil_append, mx_nl_int, mx_nl_ref, mx_nl_null, mx_nl_none, mx_nb0, mx_nb1, mx_fb0, mx_fb1, mx_cat_int, mx_cat_ref, if_true, if_false, not_true_eq_false, not_false_eq_true, mx_wt_4, mx_w4_0, mx_w9_0, mx_w9_1, mx_kn_int, mx_kn_ref, mx_kn_null, Nat.reduceLT, ofn, n10, g6, g7, q]
  obtain ⟨g1, g2, g3, g4, g5, g6, g7, g8, g9, g10⟩ := AL_f L2
  obtain ⟨⟨mc2, ea2⟩, eA2, i1, i2, i3, i4⟩ := L2
  have hnA : mt_nO ≤ A' := by rw [show mt_nO = 63 by decide]; exact k63
  refine ⟨mx_up (mx_up h2' A' es.length (.ref e)) a 1 (.int (nI (es.length + 1))), A', cp', ?_, ⟨⟨mc2, ?_⟩, ?_, by simp; omega, i2, i3, Or.inr ⟨k63, by omega⟩⟩, ?_, hA', k63, ?_⟩
  · have k132 : mx_G (d + 6) 132 11 [some (.ref a), some (.ref e), some (.ref A'), some (.int (nI es.length))] [] h2' = some (none, mx_up (mx_up h2' A' es.length (.ref e)) a 1 (.int (nI (es.length + 1)))) := by
      rcases het with z | z
      · simp only [g132_11, g132_12, g132_13, g132_14_c7, g132_14_c8, g132_14n, g132_15, g132_16, g132_17, g132_18, g132_19, g132_22, mx_isr_ref, mx_isr_null, mx_wt_nil, mx_wt_1, mx_wt_2, mx_wt_3, Option.bind_some, Option.toList_some, Option.toList_none, List.cons_append, List.nil_append, mx_nl_int, mx_nl_ref, mx_nl_null, mx_nl_none, mx_nb0, mx_nb1, mx_fb0, mx_fb1, mx_cat_int, mx_cat_ref, if_true, if_false, not_true_eq_false, not_false_eq_true, mx_wt_4, mx_w4_0, mx_w9_0, mx_w9_1, mx_kn_int, mx_kn_ref, mx_kn_null, Nat.reduceLT, ofn, n10, g6, g7, z, hnA, nI_pos' (show es.length < 2 ^ 31 by omega), nI_clamp (show es.length < 2 ^ 31 by omega), hlt, mx_tag_up, g1, g9, nI_1]
      · simp only [g132_11, g132_12, g132_13, g132_14_c7, g132_14_c8, g132_14n, g132_15, g132_16, g132_17, g132_18, g132_19, g132_22, mx_isr_ref, mx_isr_null, mx_wt_nil, mx_wt_1, mx_wt_2, mx_wt_3, Option.bind_some, Option.toList_some, Option.toList_none, List.cons_append, List.nil_append, mx_nl_int, mx_nl_ref, mx_nl_null, mx_nl_none, mx_nb0, mx_nb1, mx_fb0, mx_fb1, mx_cat_int, mx_cat_ref, if_true, if_false, not_true_eq_false, not_false_eq_true, mx_wt_4, mx_w4_0, mx_w9_0, mx_w9_1, mx_kn_int, mx_kn_ref, mx_kn_null, Nat.reduceLT, ofn, n10, g6, g7, z, hnA, nI_pos' (show es.length < 2 ^ 31 by omega), nI_clamp (show es.length < 2 ^ 31 by omega), hlt, mx_tag_up, g1, g9, nI_1]
    obtain ⟨p1, p2, p3, p4, p5, p6, p7, p8, p9, p10⟩ := AL_f L1
    simp only [g131_0, g131_1, g131_2, g131_5, g131_6, g131_7, g131_10, g131_11, g131_12, g131_13, g131_16, g131_17, g131_20, g131_23, g131_24, mx_isr_ref, mx_isr_null, mx_wt_nil, mx_wt_1, mx_wt_2, mx_wt_3, Option.bind_some, Option.toList_some, Option.toList_none, List.cons_append, List.nil_append, mx_nl_int, mx_nl_ref, mx_nl_null, mx_nl_none, mx_nb0, mx_nb1, mx_fb0, mx_fb1, mx_cat_int, mx_cat_ref, if_true, if_false, not_true_eq_false, not_false_eq_true, mx_wt_4, mx_w4_0, mx_w9_0, mx_w9_1, mx_kn_int, mx_kn_ref, mx_kn_null, Nat.reduceLT, ofn, n10, f1, f2, f5, f9, hh1, p1, p2, p3, p4, k1, k132]
  · rw [c_up (by rw [c_upn (Ne.symm g10)]; exact ea2)]
    simp
  · rw [c_upn g10, c_up eA2, lst_add hlt]
  · have FF : Fr (fA a A) g h2' := F2.mono (fun q hq => by rw [List.mem_singleton] at hq; rw [hq]; exact fA_a _ _)
    refine (((F1.mono (fun q hq => by rw [List.mem_singleton] at hq; rw [hq]; exact fA_a _ _)).trans FF (fun q hq => Or.inl hq)).trans (Fr.up (F := [A']) (by simp)) (fun q hq => ?_)).trans (Fr.up (F := fA a A) (fA_a _ _)) (fun q hq => Or.inl hq)
    rw [List.mem_singleton] at hq
    rw [hq]
    rcases hA' with z | z
    · rw [z]
      by_cases hA2 : A = 2
      · omega
      · exact Or.inl (fA_A hA2)
    · exact Or.inr z
  · rw [mw_up, mw_up]
    omega
end
