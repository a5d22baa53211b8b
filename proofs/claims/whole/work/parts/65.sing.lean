section
variable {d : Nat} {h : mx_H} {ts : List tk}
theorem nx_nn {m : Nat} (hm : m < 2 ^ 30) (l : List Nat) : ¬ nx (m :: l) < 0 := nI_nlt (b := 0) (Nat.zero_le m) (by omega)
theorem nx_n : nx [] < 0 := by decide
theorem rm_sgN (S : rm_TK h ts) {t e o m : Nat} (hm : (tA ts m).1 = 3) : ∀ l, chn ts 3 true l → mx_G (d + 3) 255 42 [some (.ref 76), some (.int (nI t)), some (.int (nI e)), some (.int (nI o)), some (.int (nI m)), some (.int (nx l))] [] h
    = if (l.all fun u => nmf ts m != nmf ts u) = true then mx_G (d + 3) 255 72 [some (.ref 76), some (.int (nI t)), some (.int (nI e)), some (.int (nI o)), some (.int (nI m)), some (.int (-1))] [] h else some (some (.int 0), h) := by
  have T := S.1.1
  have hl := S.1.2.1
  intro l
  induction l with
  | nil =>
    intro _
    rw [r255_42, r255_44, if_pos nx_n]
    rfl
  | cons u l ih =>
    intro hc
    have hu := (isMem_1 (hc.1 rfl)).1
    have ul := tA3_lt hu
    have n1 : ¬ nx (u :: l) < 0 := nx_nn (by omega) l
    have sm := rm_same (d := d + 1) S hm hu
    have af : mx_G (d + 2) 257 0 [some (.ref 76), some (.int (nI u)), some (.int 1), none] [] h = some (some (.int (nx l)), h) := rm_after S.1 hc
    rw [r255_42, r255_44, if_neg n1]
    rw [show nx (u :: l) = nI u from rfl]
    by_cases en : nmf ts m = nmf ts u
    · rw [if_neg (by simp [en])]
      simp only [r255_47, r255_48, r255_50, r255_52, r255_55, r255_58, r255_59, mx_isr_ref, mx_isr_null, mx_wt_nil, mx_wt_1, mx_wt_2, mx_wt_3, Option.bind_some, Option.toList_some, Option.toList_none, List.cons_append, List.nil_append, mx_nl_int, mx_nl_ref, mx_nl_null, mx_nl_none, mx_nb0, mx_nb1, mx_fb0, mx_fb1, mx_cat_int, mx_cat_ref, if_true, if_false, not_true_eq_false, not_false_eq_true, T, sm, eq_true en, show ¬ (1 : Int32) = 0 by decide]
    · have e2 : ((u :: l).all fun u => nmf ts m != nmf ts u) = (l.all fun u => nmf ts m != nmf ts u) := by
        rw [List.all_cons]
        simp [en]
      rw [e2, ← ih hc.2.2]
      simp only [r255_47, r255_48, r255_50, r255_52, r255_55, r255_58, r255_59, r255_60, r255_61, r255_63, r255_64, r255_67, r255_69, mx_isr_ref, mx_isr_null, mx_wt_nil, mx_wt_1, mx_wt_2, mx_wt_3, Option.bind_some, Option.toList_some, Option.toList_none, List.cons_append, List.nil_append, mx_nl_int, mx_nl_ref, mx_nl_null, mx_nl_none, mx_nb0, mx_nb1, mx_fb0, mx_fb1, mx_cat_int, mx_cat_ref, if_true, if_false, not_true_eq_false, not_false_eq_true, T, sm, eq_false en, af]
theorem rm_sgM (S : rm_TK h ts) {t e o : Nat} : ∀ l, chn ts 3 true l → ∀ l5, ∃ l5', mx_G (d + 3) 255 28 [some (.ref 76), some (.int (nI t)), some (.int (nI e)), some (.int (nI o)), some (.int (nx l)), l5] [] h
    = if dst ts l = true then mx_G (d + 3) 255 84 [some (.ref 76), some (.int (nI t)), some (.int (nI e)), some (.int (nI o)), some (.int (-1)), l5'] [] h else some (some (.int 0), h) := by
  have T := S.1.1
  have hl := S.1.2.1
  intro l
  induction l with
  | nil =>
    intro _ l5
    exact ⟨l5, by rw [r255_28, r255_30, if_pos nx_n]; rfl⟩
  | cons m l ih =>
    intro hc l5
    have hm := (isMem_1 (hc.1 rfl)).1
    have ml := tA3_lt hm
    have n1 : ¬ nx (m :: l) < 0 := nx_nn (by omega) l
    have af : mx_G (d + 2) 257 0 [some (.ref 76), some (.int (nI m)), some (.int 1), none] [] h = some (some (.int (nx l)), h) := rm_after S.1 hc
    have N := rm_sgN (d := d) S (t := t) (e := e) (o := o) hm l hc.2.2
    obtain ⟨l5', hi⟩ := ih hc.2.2 (some (.int (-1)))
    refine ⟨l5', ?_⟩
    rw [r255_28, r255_30, if_neg n1]
    rw [show nx (m :: l) = nI m from rfl]
    have e1 : mx_G (d + 3) 255 33 [some (.ref 76), some (.int (nI t)), some (.int (nI e)), some (.int (nI o)), some (.int (nI m)), l5] [] h = mx_G (d + 3) 255 42 [some (.ref 76), some (.int (nI t)), some (.int (nI e)), some (.int (nI o)), some (.int (nI m)), some (.int (nx l))] [] h := by
      simp only [r255_33, r255_34, r255_36, r255_37, r255_40, mx_isr_ref, mx_isr_null, mx_wt_nil, mx_wt_1, mx_wt_2, mx_wt_3, Option.bind_some, Option.toList_some, Option.toList_none, List.cons_append, List.nil_append, mx_nl_int, mx_nl_ref, mx_nl_null, mx_nl_none, mx_nb0, mx_nb1, mx_fb0, mx_fb1, mx_cat_int, mx_cat_ref, if_true, if_false, not_true_eq_false, not_false_eq_true, T, af]
    rw [e1, N, dst]
    by_cases ha : (l.all fun u => nmf ts m != nmf ts u) = true
    · rw [if_pos ha, ha, Bool.true_and, ← hi]
      simp only [r255_72, r255_73, r255_75, r255_76, r255_79, r255_81, mx_isr_ref, mx_isr_null, mx_wt_nil, mx_wt_1, mx_wt_2, mx_wt_3, Option.bind_some, Option.toList_some, Option.toList_none, List.cons_append, List.nil_append, mx_nl_int, mx_nl_ref, mx_nl_null, mx_nl_none, mx_nb0, mx_nb1, mx_fb0, mx_fb1, mx_cat_int, mx_cat_ref, if_true, if_false, not_true_eq_false, not_false_eq_true, T, af]
    · rw [if_neg ha, Bool.eq_false_iff.2 ha, Bool.false_and, if_neg (by decide)]
theorem rm_sgO (S : rm_TK h ts) {t e : Nat} (he : e ≤ ts.length) (hs : ∀ x, t ≤ x → x < e → tI ts x 123 = true → ∃ e', pE ts 3 x = some e') : ∀ n o l4 l5, o + n = e → t ≤ o →
    (sgl ts o e → mx_G (d + 3) 255 2 [some (.ref 76), some (.int (nI t)), some (.int (nI e)), some (.int (nI o)), l4, l5] [] h = some (some (.int 1), h)) ∧
    (¬ sgl ts o e → mx_G (d + 3) 255 2 [some (.ref 76), some (.int (nI t)), some (.int (nI e)), some (.int (nI o)), l4, l5] [] h = some (some (.int 0), h)) := by
  have T := S.1.1
  have hl := S.1.2.1
  intro n
  induction n with
  | zero =>
    intro o l4 l5 ho hto
    have e1 : nI e ≤ nI o := nI_le (by omega) (by omega)
    refine ⟨fun _ => ?_, fun z => absurd (fun x h1 h2 => by omega) z⟩
    simp only [r255_2, r255_3, r255_4, r255_90, r255_91, mx_isr_ref, mx_isr_null, mx_wt_nil, mx_wt_1, mx_wt_2, mx_wt_3, Option.bind_some, Option.toList_some, Option.toList_none, List.cons_append, List.nil_append, mx_nl_int, mx_nl_ref, mx_nl_null, mx_nl_none, mx_nb0, mx_nb1, mx_fb0, mx_fb1, mx_cat_int, mx_cat_ref, if_true, if_false, not_true_eq_false, not_false_eq_true, e1]
  | succ n ih =>
    intro o l4 l5 ho hto
    have e1 : ¬ nI e ≤ nI o := nI_ge (by omega) (by omega)
    have i := rm_isF (d := d + 2) S.1 (t := o) (by omega)
    by_cases ob : tI ts o 123 = true
    · obtain ⟨e', hE⟩ := hs o hto (by omega) ob
      have fi := rm_first (d := d + 1) S.1 (by omega) hE (Or.inl ob)
      obtain ⟨l5', M⟩ := rm_sgM (d := d) S (t := t) (e := e) (o := o) _ (kd_chn.1 ob) l5
      have hsg : sgl ts o e ↔ dst ts (kd ts o) = true ∧ sgl ts (o + 1) e := by
        rw [sgl_app (Nat.le_succ o) (by omega)]
        refine ⟨fun x => ⟨x.1 o (Nat.le_refl _) (by omega) ob, x.2⟩, fun x => ⟨fun y a1 a2 _ => ?_, x.2⟩⟩
        have : y = o := by omega
        rw [this]; exact x.1
      have st : mx_G (d + 3) 255 2 [some (.ref 76), some (.int (nI t)), some (.int (nI e)), some (.int (nI o)), l4, l5] [] h = mx_G (d + 3) 255 28 [some (.ref 76), some (.int (nI t)), some (.int (nI e)), some (.int (nI o)), some (.int (nx (kd ts o))), l5] [] h := by
        simp only [r255_2, r255_3, r255_4, r255_7, r255_8, r255_9, r255_11, r255_14, r255_17, r255_18, r255_19, r255_22, r255_25, r255_26, mx_isr_ref, mx_isr_null, mx_wt_nil, mx_wt_1, mx_wt_2, mx_wt_3, Option.bind_some, Option.toList_some, Option.toList_none, List.cons_append, List.nil_append, mx_nl_int, mx_nl_ref, mx_nl_null, mx_nl_none, mx_nb0, mx_nb1, mx_fb0, mx_fb1, mx_cat_int, mx_cat_ref, if_true, if_false, not_true_eq_false, not_false_eq_true, e1, T, i, ob, fi, show ¬ (1 : Int32) = 0 by decide]
      have en : mx_G (d + 3) 255 84 [some (.ref 76), some (.int (nI t)), some (.int (nI e)), some (.int (nI o)), some (.int (-1)), l5'] [] h = mx_G (d + 3) 255 2 [some (.ref 76), some (.int (nI t)), some (.int (nI e)), some (.int (nI (o + 1))), some (.int (-1)), l5'] [] h := by
        simp only [r255_84, r255_87, mx_isr_ref, mx_isr_null, mx_wt_nil, mx_wt_1, mx_wt_2, mx_wt_3, Option.bind_some, Option.toList_some, Option.toList_none, List.cons_append, List.nil_append, mx_nl_int, mx_nl_ref, mx_nl_null, mx_nl_none, mx_nb0, mx_nb1, mx_fb0, mx_fb1, mx_cat_int, mx_cat_ref, if_true, if_false, not_true_eq_false, not_false_eq_true, nI_1]
      rw [st, M, hsg]
      obtain ⟨i1, i2⟩ := ih (o + 1) (some (.int (-1))) l5' (by omega) (by omega)
      by_cases hd : dst ts (kd ts o) = true
      · rw [if_pos hd, en]
        exact ⟨fun z => i1 z.2, fun z => i2 fun y => z ⟨hd, y⟩⟩
      · rw [if_neg hd]
        exact ⟨fun z => absurd z.1 hd, fun _ => rfl⟩
    · have ob' : tI ts o 123 = false := Bool.eq_false_iff.2 ob
      have hsg : sgl ts o e ↔ sgl ts (o + 1) e := sgl_skip (fun z => ob (tI_eq.2 z)) (by omega)
      have st : mx_G (d + 3) 255 2 [some (.ref 76), some (.int (nI t)), some (.int (nI e)), some (.int (nI o)), l4, l5] [] h = mx_G (d + 3) 255 2 [some (.ref 76), some (.int (nI t)), some (.int (nI e)), some (.int (nI (o + 1))), some (.int (-1)), l5] [] h := by
        rw [r255_2]
        simp only [r255_3, r255_4, r255_7, r255_8, r255_9, r255_11, r255_14, r255_17, r255_18, r255_19, r255_22, r255_25, r255_26, r255_28, r255_30, r255_33, r255_34, r255_36, r255_37, r255_40, r255_84, r255_87, mx_isr_ref, mx_isr_null, mx_wt_nil, mx_wt_1, mx_wt_2, mx_wt_3, Option.bind_some, Option.toList_some, Option.toList_none, List.cons_append, List.nil_append, mx_nl_int, mx_nl_ref, mx_nl_null, mx_nl_none, mx_nb0, mx_nb1, mx_fb0, mx_fb1, mx_cat_int, mx_cat_ref, if_true, if_false, not_true_eq_false, not_false_eq_true, e1, T, i, ob', Bool.false_eq_true, nI_1, show (-1 : Int32) < 0 by decide]
      rw [st, hsg]
      exact ih (o + 1) (some (.int (-1))) l5 (by omega) (by omega)
theorem rm_single (S : rm_TK h ts) {t e n : Nat} (hn : n ≤ 3) (hE : pE ts n t = some e) :
    (sgl ts t e → mx_G (d + 3) 255 0 [some (.ref 76), some (.int (nI t)), some (.int (nI e)), none, none, none] [] h = some (some (.int 1), h)) ∧
    (¬ sgl ts t e → mx_G (d + 3) 255 0 [some (.ref 76), some (.int (nI t)), some (.int (nI e)), none, none, none] [] h = some (some (.int 0), h)) := by
  have bd := pE_bd _ _ _ hE
  have st : mx_G (d + 3) 255 0 [some (.ref 76), some (.int (nI t)), some (.int (nI e)), none, none, none] [] h = mx_G (d + 3) 255 2 [some (.ref 76), some (.int (nI t)), some (.int (nI e)), some (.int (nI t)), none, none] [] h := by simp only [r255_0, r255_1, mx_isr_ref, mx_isr_null, mx_wt_nil, mx_wt_1, mx_wt_2, mx_wt_3, Option.bind_some, Option.toList_some, Option.toList_none, List.cons_append, List.nil_append, mx_nl_int, mx_nl_ref, mx_nl_null, mx_nl_none, mx_nb0, mx_nb1, mx_fb0, mx_fb1, mx_cat_int, mx_cat_ref, if_true, if_false, not_true_eq_false, not_false_eq_true]
  rw [st]
  exact rm_sgO S bd.2 (sub_E n hn t e hE) (e - t) t none none (by omega) (Nat.le_refl _)
theorem rm_valueAt (S : rm_TK h ts) {t : Nat} (ht : t ≤ ts.length) : ∃ h', mx_G (d + 4) 250 0 [some (.ref 76), some (.int (nI t)), none] [] h = some (some (.int (match pV ts 3 t with | some e => nI e | none => -1)), h') ∧ mf P84 h h' := by
  have T := S.1.1
  have hl := S.1.2.1
  obtain ⟨h', b, m⟩ := rm_behind (d := d + 1) S ht
  refine ⟨h', ?_, m⟩
  have T' := m.1
  cases z : pE ts 3 t with
  | none =>
    have pv : pV ts 3 t = none := by
      cases y : pV ts 3 t with
      | none => rfl
      | some e => rw [pV_pE 3 t e (by omega) y] at z; cases z
    rw [z] at b
    rw [pv]
    simp only [r250_0, r250_1, r250_2, r250_5, r250_6, r250_7, r250_10, r250_11, r250_12, r250_13, r250_16, r250_19, r250_20, r250_23, r250_24, mx_isr_ref, mx_isr_null, mx_wt_nil, mx_wt_1, mx_wt_2, mx_wt_3, Option.bind_some, Option.toList_some, Option.toList_none, List.cons_append, List.nil_append, mx_nl_int, mx_nl_ref, mx_nl_null, mx_nl_none, mx_nb0, mx_nb1, mx_fb0, mx_fb1, mx_cat_int, mx_cat_ref, if_true, if_false, not_true_eq_false, not_false_eq_true, T, b, show (-1 : Int32) < 0 by decide]
  | some e =>
    rw [z] at b
    have bd := pE_bd _ _ _ z
    have sg := rm_single (d := d) (TK_mf S m tk84) (n := 3) (by omega) z
    have n1 : ¬ nI e < 0 := nI_nlt (b := 0) (Nat.zero_le e) (by omega)
    rcases pV_E 3 (by omega) t e z with ⟨pv, s⟩ | ⟨pv, s⟩
    · rw [pv]
      have sg := sg.1 s
      simp only [r250_0, r250_1, r250_2, r250_5, r250_6, r250_7, r250_10, r250_11, r250_12, r250_13, r250_16, r250_19, r250_20, r250_23, r250_24, mx_isr_ref, mx_isr_null, mx_wt_nil, mx_wt_1, mx_wt_2, mx_wt_3, Option.bind_some, Option.toList_some, Option.toList_none, List.cons_append, List.nil_append, mx_nl_int, mx_nl_ref, mx_nl_null, mx_nl_none, mx_nb0, mx_nb1, mx_fb0, mx_fb1, mx_cat_int, mx_cat_ref, if_true, if_false, not_true_eq_false, not_false_eq_true, T, T', b, n1, sg, show ¬ (1 : Int32) = 0 by decide]
    · rw [pv]
      have sg := sg.2 s
      simp only [r250_0, r250_1, r250_2, r250_5, r250_6, r250_7, r250_10, r250_11, r250_12, r250_13, r250_16, r250_19, r250_20, r250_23, r250_24, mx_isr_ref, mx_isr_null, mx_wt_nil, mx_wt_1, mx_wt_2, mx_wt_3, Option.bind_some, Option.toList_some, Option.toList_none, List.cons_append, List.nil_append, mx_nl_int, mx_nl_ref, mx_nl_null, mx_nl_none, mx_nb0, mx_nb1, mx_fb0, mx_fb1, mx_cat_int, mx_cat_ref, if_true, if_false, not_true_eq_false, not_false_eq_true, T, T', b, n1, sg]
end
