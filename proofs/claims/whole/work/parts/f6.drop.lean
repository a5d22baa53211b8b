/-! dropChosen, merge, applyToMail. -/
theorem dpd_take {r : List itm} {b : List Bool} (hb : b.length = r.length) {k : Nat} (hk : k < r.length) : dpd (r.take (k + 1)) (b.take (k + 1)) = dpd (r.take k) (b.take k) ++ (if b.getD k false = true then [] else [iG r k]) := by
  have e1 : r.take (k + 1) = r.take k ++ [iG r k] := by
    rw [List.take_add_one]
    unfold iG
    simp [List.getD_eq_getElem?_getD, hk]
  rw [e1, take_b (by omega)]
  unfold dpd
  rw [List.zip_append (by rw [List.length_take, List.length_take]; omega), List.filterMap_append]
  cases b.getD k false <;> rfl
theorem xG_era {m : List itf} {i k : Nat} : xG (m.eraseIdx i) k = if k < i then xG m k else xG m (k + 1) := by
  unfold xG
  rw [List.getD_eq_getElem?_getD, List.getElem?_eraseIdx]
  split <;> rw [List.getD_eq_getElem?_getD]
theorem bG_era {m : List Bool} {i k : Nat} : (m.eraseIdx i).getD k false = if k < i then m.getD k false else m.getD (k + 1) false := by
  rw [List.getD_eq_getElem?_getD, List.getElem?_eraseIdx]
  split <;> rw [List.getD_eq_getElem?_getD]
theorem mrk_era (r : List itm) (k : Nat) : (mrk r).eraseIdx k = mrk (r.eraseIdx k) := by
  unfold mrk
  induction r generalizing k with
  | nil => rfl
  | cons x r ih =>
    cases k with
    | zero => rfl
    | succ k => rw [List.map_cons, List.eraseIdx_cons_succ, List.eraseIdx_cons_succ, List.map_cons, ih]
section
variable {d : Nat} {h : mx_H} {R : List Nat} {N p l A cp : Nat} {es : List Nat} {q : prs} {m : List itf} {b : List Bool}
theorem DR.era {h' : mx_H} (D : DR R N h p l A cp es q m b) {i : Nat} (hi : i < m.length) (f : Fr [l, A] h h') (L' : AL h' l A cp (es.eraseIdx i)) : DR R N h' p l A cp (es.eraseIdx i) q (m.eraseIdx i) (b.eraseIdx i) ∧ SX N (dM p l A es R) h (dM p l A (es.eraseIdx i) R) h' := by
  have hpl := D.pl
  have hne := fun e (he : e ∈ es) => D.ne he
  have A2 : A ≠ 2 := by
    have := (AL_A D.2.1 (k := i) (by have := D.2.2.1.1; omega)).1
    omega
  obtain ⟨C, L, I, nd, ⟨n1, n2, n3, n4, n5, n6⟩, hR, K⟩ := D
  have S : SX N (dM p l A es R) h (dM p l A (es.eraseIdx i) R) h' := SX.of f n6 (fun a ha => by
    simp only [List.mem_cons, List.not_mem_nil, or_false] at ha
    rcases ha with rfl | rfl
    · exact Or.inl ⟨n3, dM_l⟩
    · exact Or.inl ⟨by omega, dM_A A2⟩) (fun a ha => Or.inl (by
    rcases dM_mem ha with z | z | z | z | z
    · rw [z]; exact dM_p
    · rw [z]; exact dM_l
    · rw [z.1]; exact dM_A z.2
    · exact dM_e (List.mem_of_mem_eraseIdx z)
    · exact dM_R z))
  have hl := I.1
  have hbl := I.2.1
  refine ⟨⟨C.ex S.2 (f.2 p hpl.2.2.2.1 (by simp; exact ⟨hpl.1, hpl.2.1⟩)), L', ⟨by rw [List.length_eraseIdx_of_lt (by omega), List.length_eraseIdx_of_lt hi, hl], by rw [List.length_eraseIdx_of_lt (by omega), List.length_eraseIdx_of_lt hi, hbl], fun k hk => ?_⟩, nd.sublist (List.eraseIdx_sublist _ _), ⟨n1, n2, n3, n4, fun e he => n5 e (List.mem_of_mem_eraseIdx he), Nat.le_trans n6 f.1⟩, hR, K.fr f (fun a ha => by simp only [List.mem_cons, List.not_mem_nil, or_false] at ha; omega)⟩, S⟩
  rw [List.length_eraseIdx_of_lt hi] at hk
  rw [gd_erase (by omega), xG_era, bG_era]
  have conv : ∀ k, k < m.length → IC (dM p l A (es.eraseIdx i) R) h' (es.getD k 0) (some (xG m k).1.1) (xG m k).1.2 (bI (b.getD k false)) (bI (xG m k).2) := fun k hk => by
    have he := hne _ (gd_mem' (show k < es.length by omega))
    exact (I.2.2 k hk).ex S.2 (f.2 _ he.2.2.2.1 (by simp; exact ⟨he.2.1, he.2.2.1⟩))
  by_cases c : k < i
  · rw [if_pos c, if_pos c, if_pos c]; exact conv k (by omega)
  · rw [if_neg c, if_neg c, if_neg c]; exact conv (k + 1) (by omega)
theorem jo_dropL : ∀ k (h : mx_H) (es : List Nat) (r : List itm) (b : List Bool), k ≤ r.length → DR R N h p l A cp es q (mrk r) b →
    ∃ (h' : mx_H) (es' : List Nat) (b' : List Bool), mx_G (d + 3) 191 10 [some (.ref p), some (.int (nI k + (-1)))] [] h = some (none, h') ∧ DR R N h' p l A cp es' q (mrk (dpd (r.take k) (b.take k) ++ r.drop k)) b' ∧ SX N (dM p l A es R) h (dM p l A es' R) h' ∧ mw h' = mw h := by
  intro k
  induction k with
  | zero =>
    intro h es r b _ D
    refine ⟨h, es, b, ?_, D, SX.rfl _ _ _, rfl⟩
    rw [show nI 0 + (-1) = -1 by decide]
    simp only [g191_10, g191_11, g191_46, mx_isr_ref, mx_isr_null, mx_wt_nil, mx_wt_1, mx_wt_2, mx_wt_3, Option.bind_some, Option.toList_some, Option.toList_none, List.cons_append, List.nil_append, mx_nl_int, mx_nl_ref, mx_nl_null, mx_nl_none, mx_nb0, mx_nb1, mx_fb0, mx_fb1, mx_cat_int, mx_cat_ref, if_true, if_false, not_true_eq_false, not_false_eq_true, mx_wt_4, mx_w4_0, mx_w9_0, mx_w9_1, mx_kn_int, mx_kn_ref, mx_kn_null, Nat.reduceLT, ofn, n10, show (-1 : Int32) < 0 by decide]
  | succ k ih =>
    intro h es r b hk D
    rw [nI_prd2]
    obtain ⟨tp, lp, p6, -⟩ := PC_f D.1
    have L := D.2.1
    have hl := D.2.2.1.1
    have hbl := D.2.2.1.2.1
    rw [mrk_len] at hl hbl
    have h1000 := L.2.2.2.1
    have hcp := L.2.2.1
    have G := jl_get (d := d) L (show k < es.length by omega)
    have J := D.2.2.1.2.2 k (by rw [mrk_len]; omega)
    obtain ⟨a1, a2, te, le, x0, x1, x2, x3, -⟩ := IC_f J
    have q1 : ¬ nI k < 0 := nI_pos (by omega)
    have ed := dpd_take hbl (show k < r.length by omega)
    have er : r.drop k = iG r k :: r.drop (k + 1) := iG_drop (by omega)
    rw [g191_10]
    cases hB : b.getD k false
    · rw [hB] at x2 ed
      have b1 : bI false = 0 := rfl
      rw [b1] at x2
      rw [if_neg (by decide)] at ed
      obtain ⟨h', es', b', i1, i2, i3⟩ := ih h es r b (by omega) D
      have e0 : dpd (r.take (k + 1)) (b.take (k + 1)) ++ r.drop (k + 1) = dpd (r.take k) (b.take k) ++ r.drop k := by rw [ed, er, List.append_assoc]; rfl
      rw [e0]
      refine ⟨h', es', b', ?_, i2, i3⟩
      simp only [g191_11, g191_14, g191_15, g191_18, g191_19, g191_22n, g191_22, g191_25, g191_28, g191_40, g191_43, mx_isr_ref, mx_isr_null, mx_wt_nil, mx_wt_1, mx_wt_2, mx_wt_3, Option.bind_some, Option.toList_some, Option.toList_none, List.cons_append, List.nil_append, mx_nl_int, mx_nl_ref, mx_nl_null, mx_nl_none, mx_nb0, mx_nb1, mx_fb0, mx_fb1, mx_cat_int, mx_cat_ref, if_true, if_false, not_true_eq_false, not_false_eq_true, mx_wt_4, mx_w4_0, mx_w9_0, mx_w9_1, mx_kn_int, mx_kn_ref, mx_kn_null, Nat.reduceLT, ofn, n10, q1, tp, lp, p6, (AL_f L).1, G, te, le, x2]
      exact i1
    · rw [hB] at x2 ed
      have b1 : bI true = 1 := rfl
      rw [b1] at x2
      rw [if_pos rfl, List.append_nil] at ed
      have hE : ∀ e ∈ es, elt h e := fun e he => Or.inr (D.ne he).2.2.2.2.1
      obtain ⟨h1, k1, k2, k3, k4⟩ := jl_remove (d := d) L (show k < es.length by omega) hE
      obtain ⟨D1, S1⟩ := D.era (i := k) (by rw [mrk_len]; omega) k3 k2
      rw [mrk_era] at D1
      obtain ⟨h', es', b', i1, i2, i3, i4⟩ := ih h1 (es.eraseIdx k) (r.eraseIdx k) (b.eraseIdx k) (by rw [List.length_eraseIdx_of_lt (by omega)]; omega) D1
      have e1 : (r.eraseIdx k).take k = r.take k := by rw [List.eraseIdx_eq_take_drop_succ, List.take_append_of_le_length (by rw [List.length_take]; omega), List.take_take, Nat.min_self]
      have e2 : (b.eraseIdx k).take k = b.take k := by rw [List.eraseIdx_eq_take_drop_succ, List.take_append_of_le_length (by rw [List.length_take]; omega), List.take_take, Nat.min_self]
      have e3 : (r.eraseIdx k).drop k = r.drop (k + 1) := by
        rw [List.eraseIdx_eq_take_drop_succ]
        have : (r.take k).length = k := by rw [List.length_take]; omega
        rw [List.drop_append_of_le_length (by omega), List.drop_of_length_le (by omega), List.nil_append]
      rw [e1, e2, e3] at i2
      rw [ed]
      refine ⟨h', es', b', ?_, i2, S1.trans i3, by rw [i4, k4]⟩
      have b3 : (Value.ref (es.getD k 0)).category = 1 := rfl
      simp only [g191_11, g191_14, g191_15, g191_18, g191_19, g191_22n, g191_22, g191_25, g191_28, g191_31, g191_32, g191_35, g191_36, g191_39, g191_40, g191_43, mx_isr_ref, mx_isr_null, mx_wt_nil, mx_wt_1, mx_wt_2, mx_wt_3, Option.bind_some, Option.toList_some, Option.toList_none, List.cons_append, List.nil_append, mx_nl_int, mx_nl_ref, mx_nl_null, mx_nl_none, mx_nb0, mx_nb1, mx_fb0, mx_fb1, mx_cat_int, mx_cat_ref, if_true, if_false, not_true_eq_false, not_false_eq_true, mx_wt_4, mx_w4_0, mx_w9_0, mx_w9_1, mx_kn_int, mx_kn_ref, mx_kn_null, Nat.reduceLT, ofn, n10, q1, tp, lp, p6, (AL_f L).1, G, te, le, x2, k1, b3, show ¬ (1 : Int32) = 0 by decide]
      exact i1
theorem jo_drop {r : List itm} (D : DR R N h p l A cp es q (mrk r) b) : ∃ (h' : mx_H) (es' : List Nat) (b' : List Bool), mx_G (d + 3) 191 0 [some (.ref p), none] [] h = some (none, h') ∧ DR R N h' p l A cp es' (sIt q (dpd r b)) (mrk (dpd r b)) b' ∧ SX N (dM p l A es R) h (dM p l A es' R) h' ∧ mw h' = mw h := by
  obtain ⟨tp, lp, p6, -⟩ := PC_f D.1
  have L := D.2.1
  have hl := D.2.2.1.1
  have hbl := D.2.2.1.2.1
  rw [mrk_len] at hl hbl
  have sz := jl_size (d := d + 2) L
  rw [hl] at sz
  have e0 : nI r.length - 1 = nI r.length + (-1) := by rw [Int32.sub_eq_add_neg]
  obtain ⟨h', es', b', i1, i2, i3⟩ := jo_dropL (d := d) r.length h es r b (Nat.le_refl _) D
  rw [List.drop_length, List.append_nil, List.take_length, List.take_of_length_le (by omega)] at i2
  refine ⟨h', es', b', ?_, i2, i3⟩
  simp only [g191_0, g191_1, g191_4, g191_7, g191_8, g191_9, mx_isr_ref, mx_isr_null, mx_wt_nil, mx_wt_1, mx_wt_2, mx_wt_3, Option.bind_some, Option.toList_some, Option.toList_none, List.cons_append, List.nil_append, mx_nl_int, mx_nl_ref, mx_nl_null, mx_nl_none, mx_nb0, mx_nb1, mx_fb0, mx_fb1, mx_cat_int, mx_cat_ref, if_true, if_false, not_true_eq_false, not_false_eq_true, mx_wt_4, mx_w4_0, mx_w9_0, mx_w9_1, mx_kn_int, mx_kn_ref, mx_kn_null, Nat.reduceLT, ofn, n10, tp, lp, p6, (AL_f L).1, sz, e0]
  exact i1
end
