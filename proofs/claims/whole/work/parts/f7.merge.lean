/-! merge, applyToMail. -/
theorem wix_drop {v : List Nat} {r : List itm} {i : Nat} (hi : i < r.length) : wix v (r.drop i) = if (iG r i).1 = v then 0 else wix v (r.drop (i + 1)) + 1 := by
  rw [iG_drop hi, wix]
theorem xG_map (m : List itf) (k : Nat) : (iG (m.map fun x => x.1) k) = (xG m k).1 := xG_1 m k
section
variable {d : Nat} {h : mx_H} {R : List Nat} {N p l A cp : Nat} {es : List Nat} {q : prs} {m : List itf} {b : List Bool}
/-- the loop that looks for the same v -/
theorem jo_mgL (D : DR R N h p l A cp es q m b) {o : Nat} {x : itm} {c' g' : Int32} (J : IC (dM p l A es R) h o (some x.1) x.2 c' g') : ∀ n i, n + i = m.length → mx_G (d + 6) 198 2 [some (.ref p), some (.ref o), some (.int (nI i))] [] h = mx_G (d + 6) 198 (if i + wix x.1 ((m.map fun y => y.1).drop i) < m.length then 37 else 60) [some (.ref p), some (.ref o), some (.int (nI (i + wix x.1 ((m.map fun y => y.1).drop i))))] [] h := by
  obtain ⟨tp, lp, p6, -⟩ := PC_f D.1
  have L := D.2.1
  have hl := D.2.2.1.1
  have h1000 := L.2.2.2.1
  have hcp := L.2.2.1
  have sz := jl_size (d := d + 5) L
  rw [hl] at sz
  obtain ⟨b1, b2, to, lo, y0, y1, -, -, p1, p2⟩ := IC_f J
  intro n
  induction n with
  | zero =>
    intro i hi
    have : i = m.length := by omega
    subst this
    rw [List.drop_of_length_le (by simp), show wix x.1 [] = 0 from rfl, show m.length + 0 = m.length from rfl, if_neg (show ¬ m.length < m.length by omega)]
    simp only [g198_2, g198_3, g198_4, g198_7, g198_10, mx_isr_ref, mx_isr_null, mx_wt_nil, mx_wt_1, mx_wt_2, mx_wt_3, Option.bind_some, Option.toList_some, Option.toList_none, List.cons_append, List.nil_append, mx_nl_int, mx_nl_ref, mx_nl_null, mx_nl_none, mx_nb0, mx_nb1, mx_fb0, mx_fb1, mx_cat_int, mx_cat_ref, if_true, if_false, not_true_eq_false, not_false_eq_true, mx_wt_4, mx_w4_0, mx_w9_0, mx_w9_1, mx_kn_int, mx_kn_ref, mx_kn_null, Nat.reduceLT, ofn, n10, tp, lp, p6, (AL_f L).1, sz, show nI m.length ≤ nI m.length from nI_le (Nat.le_refl _) (by omega)]
  | succ n ih =>
    intro i hi
    have hil : i < m.length := by omega
    have c1 : ¬ nI m.length ≤ nI i := nI_ge hil (by omega)
    have G := jl_get (d := d + 3) L (show i < es.length by omega)
    have Ji := D.2.2.1.2.2 i hil
    obtain ⟨a1, a2, te, le, x0, x1, -, -, o1, o2⟩ := IC_f Ji
    have S := jv_same (d := d) o1 p1
    rw [osm_T] at S
    rw [wix_drop (by rw [List.length_map]; exact hil), xG_map]
    rw [g198_2]
    by_cases e : (xG m i).1.1 = x.1
    · rw [if_pos (by simpa using e)] at S
      rw [if_pos e, show i + 0 = i from rfl, if_pos hil]
      simp only [g198_3, g198_4, g198_7, g198_10, g198_13, g198_14, g198_17, g198_18, g198_21n, g198_21, g198_24, g198_27, g198_28, g198_31, g198_34, mx_isr_ref, mx_isr_null, mx_wt_nil, mx_wt_1, mx_wt_2, mx_wt_3, Option.bind_some, Option.toList_some, Option.toList_none, List.cons_append, List.nil_append, mx_nl_int, mx_nl_ref, mx_nl_null, mx_nl_none, mx_nb0, mx_nb1, mx_fb0, mx_fb1, mx_cat_int, mx_cat_ref, if_true, if_false, not_true_eq_false, not_false_eq_true, mx_wt_4, mx_w4_0, mx_w9_0, mx_w9_1, mx_kn_int, mx_kn_ref, mx_kn_null, Nat.reduceLT, ofn, n10, tp, lp, p6, (AL_f L).1, sz, c1, G, te, le, x0, isr_kn o1.isr, o1.isr, to, lo, y0, isr_kn p1.isr, p1.isr, S, show ¬ (1 : Int32) = 0 by decide]
    · rw [if_neg (by simpa using e)] at S
      rw [if_neg e, show i + (wix x.1 ((m.map fun y => y.1).drop (i + 1)) + 1) = i + 1 + wix x.1 ((m.map fun y => y.1).drop (i + 1)) by omega]
      simp only [g198_3, g198_4, g198_7, g198_10, g198_13, g198_14, g198_17, g198_18, g198_21n, g198_21, g198_24, g198_27, g198_28, g198_31, g198_34, g198_54, g198_57, mx_isr_ref, mx_isr_null, mx_wt_nil, mx_wt_1, mx_wt_2, mx_wt_3, Option.bind_some, Option.toList_some, Option.toList_none, List.cons_append, List.nil_append, mx_nl_int, mx_nl_ref, mx_nl_null, mx_nl_none, mx_nb0, mx_nb1, mx_fb0, mx_fb1, mx_cat_int, mx_cat_ref, if_true, if_false, not_true_eq_false, not_false_eq_true, mx_wt_4, mx_w4_0, mx_w9_0, mx_w9_1, mx_kn_int, mx_kn_ref, mx_kn_null, Nat.reduceLT, ofn, n10, tp, lp, p6, (AL_f L).1, sz, c1, G, te, le, x0, isr_kn o1.isr, o1.isr, to, lo, y0, isr_kn p1.isr, p1.isr, S, nI_1]
      exact ih (i + 1) (by omega)
theorem ji_127 {e : Nat} (h63 : 63 ≤ e) (t : mx_tag h e = some (.inl 8)) {a1 a2 : Value} (h1 : mx_isr a1 = true) (h2 : mx_isr a2 = true) : mx_G (d + 1) 127 0 [some (.ref e), some a1, some a2] [] h = some (none, mx_up (mx_up h e 0 a1) e 1 a2) := by
  have hn : mt_nO ≤ e := by rw [show mt_nO = 63 by decide]; exact h63
  simp only [g127_0, g127_1, g127_4, g127_5, g127_6, g127_9, g127_10, g127_11, g127_14, mx_isr_ref, mx_isr_null, mx_wt_nil, mx_wt_1, mx_wt_2, mx_wt_3, Option.bind_some, Option.toList_some, Option.toList_none, List.cons_append, List.nil_append, mx_nl_int, mx_nl_ref, mx_nl_null, mx_nl_none, mx_nb0, mx_nb1, mx_fb0, mx_fb1, mx_cat_int, mx_cat_ref, if_true, if_false, not_true_eq_false, not_false_eq_true, mx_wt_4, mx_w4_0, mx_w9_0, mx_w9_1, mx_kn_int, mx_kn_ref, mx_kn_null, Nat.reduceLT, ofn, n10, t, hn, mx_tag_up, h1, h2]
/-- a new item comes to the draft -/
theorem DR.add {h' : mx_H} {A' cp' e : Nat} (D : DR R N h p l A cp es q m b) (he : h.length ≤ e) (f : Fr (fA l A) h h') (hA : A' = A ∨ h.length ≤ A') (h63 : 63 ≤ A') (L' : AL h' l A' cp' (es ++ [e])) {y : itf} {c : Bool} (J : IC (dM p l A' (es ++ [e]) R) h' e (some y.1.1) y.1.2 (bI c) (bI y.2)) : DR R N h' p l A' cp' (es ++ [e]) q (m ++ [y]) (b ++ [c]) ∧ SX N (dM p l A es R) h (dM p l A' (es ++ [e]) R) h' := by
  have hpl := D.pl
  have hne := fun e (he : e ∈ es) => D.ne he
  obtain ⟨C, L, I, nd, ⟨n1, n2, n3, n4, n5, n6⟩, hR, K⟩ := D
  have fm : ∀ a ∈ fA l A, a = l ∨ (a = A ∧ A ≠ 2) := fun a ha => fA_mem ha
  have S : SX N (dM p l A es R) h (dM p l A' (es ++ [e]) R) h' := SX.of f n6 (fun a ha => by
    rcases fm a ha with z | z
    · rw [z]; exact Or.inl ⟨n3, dM_l⟩
    · rw [z.1]; exact Or.inl ⟨by omega, dM_A z.2⟩) (fun a ha => by
    rcases dM_mem ha with z | z | z | z | z
    · rw [z]; exact Or.inl dM_p
    · rw [z]; exact Or.inl dM_l
    · rcases hA with w | w
      · rw [z.1, w]; exact Or.inl (dM_A (by rw [← w]; exact z.2))
      · rw [z.1]; exact Or.inr w
    · rcases List.mem_append.mp z with w | w
      · exact Or.inl (dM_e w)
      · rw [List.mem_singleton] at w; rw [w]; exact Or.inr he
    · exact Or.inl (dM_R z))
  have nF : ∀ a, a ≠ l → a ≠ A → a ∉ fA l A := fun a h1 h2 z => by rcases fm a z with y | y; exact h1 y; exact h2 y.1
  have hl := I.1
  have hbl := I.2.1
  refine ⟨⟨C.ex S.2 (f.2 p hpl.2.2.2.1 (nF _ hpl.1 hpl.2.1)), L', ⟨by simp [hl], by simp [hbl], fun k hk => ?_⟩, ?_, ⟨n1, n2, n3, Or.inr (by rcases hA with w | w <;> omega), fun a ha => ?_, Nat.le_trans n6 f.1⟩, hR, K.fr f (fun a ha => by rcases fm a ha with z | z <;> omega)⟩, S⟩
  · rw [List.length_append, List.length_singleton] at hk
    rw [xG_app]
    by_cases ek : k = m.length
    · subst ek
      rw [if_pos rfl, show (es ++ [e]).getD m.length 0 = e by rw [← hl]; simp [List.getD_eq_getElem?_getD], show (b ++ [c]).getD m.length false = c by rw [← hbl]; simp [List.getD_eq_getElem?_getD]]
      exact J
    · rw [if_neg ek, show (es ++ [e]).getD k 0 = es.getD k 0 by rw [List.getD_eq_getElem?_getD, List.getElem?_append_left (by omega), List.getD_eq_getElem?_getD], show (b ++ [c]).getD k false = b.getD k false by rw [List.getD_eq_getElem?_getD, List.getElem?_append_left (by omega), List.getD_eq_getElem?_getD]]
      have hk' := hne _ (gd_mem' (show k < es.length by omega))
      exact (I.2.2 k (by omega)).ex S.2 (f.2 _ hk'.2.2.2.1 (nF _ hk'.2.1 hk'.2.2.1))
  · rw [List.nodup_append]
    refine ⟨nd, by simp, fun a ha c hc => ?_⟩
    rw [List.mem_singleton] at hc
    have := (hne a ha).2.2.2.1
    omega
  · rcases List.mem_append.mp ha with w | w
    · exact n5 a w
    · rw [List.mem_singleton] at w; omega
theorem jo_merge (D : DR R N h p l A cp es q m b) {o : Nat} {x : itm} {c' g' : Int32} (J : IC (dM p l A es R) h o (some x.1) x.2 c' g') (ho : o ∉ es) :
    (∀ m', mg m x = some m' → ∃ (h' : mx_H) (A' cp' : Nat) (es' : List Nat) (b' : List Bool), mx_G (d + 8) 198 0 [some (.ref p), some (.ref o), none] [] h = some (some (.int 1), h') ∧ DR R N h' p l A' cp' es' q m' b' ∧ SX N (dM p l A es R) h (dM p l A' es' R) h' ∧ mw h' + 6 * cp + 16 * m.length ≤ mw h + 6 * cp' + 16 * m'.length) ∧
    (mg m x = none → mx_G (d + 8) 198 0 [some (.ref p), some (.ref o), none] [] h = some (some (.int 0), h)) := by
  obtain ⟨tp, lp, p6, -⟩ := PC_f D.1
  have L := D.2.1
  have hl := D.2.2.1.1
  have hbl := D.2.2.1.2.1
  have h1000 := L.2.2.2.1
  have hcp := L.2.2.1
  have hN := D.2.2.2.2.1
  have LL := jo_mgL (d := d + 2) D J m.length 0 (by omega)
  rw [List.drop_zero, Nat.zero_add] at LL
  rw [nI_0] at LL
  have hG : mx_G (d + 8) 198 0 [some (.ref p), some (.ref o), none] [] h = mx_G (d + 8) 198 2 [some (.ref p), some (.ref o), some (.int 0)] [] h := by simp only [g198_0, g198_1, mx_isr_ref, mx_isr_null, mx_wt_nil, mx_wt_1, mx_wt_2, mx_wt_3, Option.bind_some, Option.toList_some, Option.toList_none, List.cons_append, List.nil_append, mx_nl_int, mx_nl_ref, mx_nl_null, mx_nl_none, mx_nb0, mx_nb1, mx_fb0, mx_fb1, mx_cat_int, mx_cat_ref, if_true, if_false, not_true_eq_false, not_false_eq_true, mx_wt_4, mx_w4_0, mx_w9_0, mx_w9_1, mx_kn_int, mx_kn_ref, mx_kn_null, Nat.reduceLT, ofn, n10]
  rw [hG, LL]
  unfold mg
  rw [mgs_wix]
  generalize hw : wix x.1 (m.map fun y => y.1) = w at *
  by_cases c : w < m.length
  · rw [if_pos c, if_pos c]
    refine ⟨fun m' hm' => ?_, fun z => (by cases z)⟩
    simp only [Option.some.injEq] at hm'
    subst hm'
    have hm : es.getD w 0 ∈ es := gd_mem' (by omega)
    have hne := D.ne hm
    have Jw := D.2.2.1.2.2 w c
    have ev : (xG m w).1.1 = x.1 := by
      have := wix_lt (v := x.1) (l := m.map fun y => y.1) (by rw [hw, List.length_map]; exact c)
      rw [hw, xG_1] at this
      exact this
    have G := jl_get (d := d + 5) L (show w < es.length by omega)
    obtain ⟨h', k1, k2, k3, k4⟩ := jo_gain (d := d + 5) Jw (dM_e hm) (by omega) J (fun z => ho (by rw [z]; exact hm))
    have eg : gai (xG m w) (some x.1) x.2 = gai (xG m w) none x.2 := by
      unfold gai
      rw [show (some x.1).getD (xG m w).1.1 = x.1 from rfl, show (none : Option (List Nat)).getD (xG m w).1.1 = (xG m w).1.1 from rfl, ev]
    rw [eg] at k2
    obtain ⟨D1, S1⟩ := D.item c k3 (fun a ha => Or.inl (List.mem_singleton.mp ha)) (c := b.getD w false) k2
    refine ⟨h', A, cp, es, _, ?_, D1, S1, by rw [List.length_set, k4]; omega⟩
    simp only [g198_37, g198_38, g198_41, g198_42, g198_45n, g198_45, g198_48, g198_49, g198_52, g198_53, mx_isr_ref, mx_isr_null, mx_wt_nil, mx_wt_1, mx_wt_2, mx_wt_3, Option.bind_some, Option.toList_some, Option.toList_none, List.cons_append, List.nil_append, mx_nl_int, mx_nl_ref, mx_nl_null, mx_nl_none, mx_nb0, mx_nb1, mx_fb0, mx_fb1, mx_cat_int, mx_cat_ref, if_true, if_false, not_true_eq_false, not_false_eq_true, mx_wt_4, mx_w4_0, mx_w9_0, mx_w9_1, mx_kn_int, mx_kn_ref, mx_kn_null, Nat.reduceLT, ofn, n10, tp, lp, p6, (AL_f L).1, G, Jw.tag.1, J.tag.1, k1]
  · rw [if_neg c, if_neg c]
    have hwm : w = m.length := by
      have := wix_le x.1 (m.map fun y => y.1)
      rw [hw, List.length_map] at this
      omega
    subst hwm
    have sz := jl_size (d := d + 7) L
    rw [hl] at sz
    by_cases c4 : 4 ≤ m.length
    · simp only
      rw [if_pos c4]
      refine ⟨fun m' hm' => (by cases hm'), fun _ => ?_⟩
      have q4 : ¬ nI m.length < 4 := nI_nlt (b := 4) (by omega) (by omega)
      simp only [g198_60, g198_61, g198_64, g198_67, g198_68, g198_71, g198_72, mx_isr_ref, mx_isr_null, mx_wt_nil, mx_wt_1, mx_wt_2, mx_wt_3, Option.bind_some, Option.toList_some, Option.toList_none, List.cons_append, List.nil_append, mx_nl_int, mx_nl_ref, mx_nl_null, mx_nl_none, mx_nb0, mx_nb1, mx_fb0, mx_fb1, mx_cat_int, mx_cat_ref, if_true, if_false, not_true_eq_false, not_false_eq_true, mx_wt_4, mx_w4_0, mx_w9_0, mx_w9_1, mx_kn_int, mx_kn_ref, mx_kn_null, Nat.reduceLT, ofn, n10, tp, lp, p6, (AL_f L).1, sz, q4]
    · simp only
      rw [if_neg c4]
      refine ⟨fun m' hm' => ?_, fun z => (by cases z)⟩
      simp only [Option.some.injEq] at hm'
      subst hm'
      have q4 : nI m.length < 4 := nI_lt (b := 4) (by omega) (by decide)
      -- the item
      generalize hg1 : h ++ [((.inl 8 : Nat ⊕ FieldType), [Value.null, .null, .int 0, .int 0])] = g1
      have F1 : Fr [] h g1 := by rw [← hg1]; exact Fr.app _ _ _
      have e1 : g1[h.length]? = some (.inl 8, [.null, .null, .int 0, .int 0]) := by rw [← hg1, c_app]
      have wg1 : mw g1 = mw h + 16 := by rw [← hg1, mw_app]; rfl
      have lg1 : g1.length = h.length + 1 := by rw [← hg1]; simp
      have K0 := ji_127 (d := d + 6) (h := g1) (e := h.length) (by omega) (ce_t e1) (a1 := .null) (a2 := .null) rfl rfl
      generalize hg2 : mx_up (mx_up g1 h.length 0 .null) h.length 1 .null = g2 at K0
      have F2 : Fr [h.length] g1 g2 := by
        rw [← hg2]
        exact (Fr.up (by simp)).trans (Fr.up (F := [h.length]) (by simp)) (fun a ha => Or.inl ha)
      have e2 : g2[h.length]? = some (.inl 8, [.null, .null, .int 0, .int 0]) := by rw [← hg2, c_up (c_up e1)]; rfl
      have wg2 : mw g2 = mw h + 16 := by rw [← hg2, mw_up, mw_up]; exact wg1
      have F02 : Fr [] h g2 := F1.trans F2 (fun a ha => by rw [List.mem_singleton] at ha; exact Or.inr (by omega))
      have lg2 := F02.1
      -- it becomes the other
      have J2 : IC (h.length :: dM p l A es R) g2 o (some x.1) x.2 c' g' := J.ex (Ex.fresh F02 (fun a ha => by
        rcases List.mem_cons.mp ha with z | z
        · exact Or.inr (by omega)
        · exact Or.inl z)) (F02.2 o J.tag.2 (by simp))
      have I2 : IC (h.length :: dM p l A es R) g2 h.length none none 0 0 := ⟨.null, .null, e2, rfl, rfl⟩
      obtain ⟨h3, k1, k2, k3, k4⟩ := jo_become (d := d + 5) I2 List.mem_cons_self (by omega) J2 (by have := J.tag.2; omega)
      have F03 : Fr [] h h3 := F02.trans k3 (fun a ha => by rw [List.mem_singleton] at ha; exact Or.inr (by omega))
      obtain ⟨D3, S3⟩ := D.new F03
      have L3 := D3.2.1
      have hE : ∀ e ∈ es, elt h3 e := fun e he => Or.inr (D3.ne he).2.2.2.2.1
      obtain ⟨h4, A', cp', j1, j2, j3, j4, j5, j6⟩ := jl_add (d := d) L3 (by omega) hE (show elt h3 h.length from Or.inr k2.tag.1)
      have hpl3 := D3.pl
      have E34 : Ex (h.length :: dM p l A es R) h3 (dM p l A' (es ++ [h.length]) R) h4 := j3.ex (fun a ha z => by
        rcases fA_mem ha with y | y
        · rw [y] at z; exact z.2 (List.mem_cons_of_mem _ dM_l)
        · rw [y.1] at z; exact z.2 (List.mem_cons_of_mem _ (dM_A y.2))) (fun a ha => by
        rcases dM_mem ha with z | z | z | z | z
        · rw [z]; exact Or.inl (List.mem_cons_of_mem _ dM_p)
        · rw [z]; exact Or.inl (List.mem_cons_of_mem _ dM_l)
        · rcases j4 with v | v
          · rw [z.1, v]; exact Or.inl (List.mem_cons_of_mem _ (dM_A (by rw [← v]; exact z.2)))
          · rw [z.1]; exact Or.inr v
        · rcases List.mem_append.mp z with v | v
          · exact Or.inl (List.mem_cons_of_mem _ (dM_e v))
          · rw [List.mem_singleton] at v; rw [v]; exact Or.inl List.mem_cons_self
        · exact Or.inl (List.mem_cons_of_mem _ (dM_R z)))
      have hn3 : h.length ∉ fA l A := fun z => by
        have := D.pl
        rcases fA_mem z with y | y <;> omega
      have J4 : IC (dM p l A' (es ++ [h.length]) R) h4 h.length (some x.1) x.2 (bI false) (bI (tr1 x.2)) := k2.ex E34 (j3.2 _ k2.tag.2 hn3)
      -- as a step from h on
      have F04 : Fr (fA l A) h h4 := (F03.mono (F' := fA l A) (by simp)).trans j3 (fun a ha => Or.inl ha)
      have hA' : A' = A ∨ h.length ≤ A' := j4.elim Or.inl (fun z => Or.inr (by have := F03.1; omega))
      obtain ⟨D4, S4⟩ := D.add (Nat.le_refl _) F04 hA' j5 j2 (y := (x, tr1 x.2)) (c := false) J4
      refine ⟨h4, A', cp', es ++ [h.length], _, ?_, D4, S4, ?_⟩
      · obtain ⟨tp3, lp3, p63, -⟩ := PC_f D3.1
        have t8 : mx_tag g1 h.length = some (.inl 8) := ce_t e1
        have t82 : mx_tag g2 h.length = some (.inl 8) := ce_t e2
        simp only [g198_60, g198_61, g198_64, g198_67, g198_68, g198_71, g198_72, g198_73, g198_76, g198_77, g198_78, g198_79, g198_82, g198_83, g198_84, g198_85, g198_88, g198_89, g198_92, g198_93, g198_96, g198_97, g198_98, mx_isr_ref, mx_isr_null, mx_wt_nil, mx_wt_1, mx_wt_2, mx_wt_3, Option.bind_some, Option.toList_some, Option.toList_none, List.cons_append, List.nil_append, mx_nl_int, mx_nl_ref, mx_nl_null, mx_nl_none, mx_nb0, mx_nb1, mx_fb0, mx_fb1, mx_cat_int, mx_cat_ref, if_true, if_false, not_true_eq_false, not_false_eq_true, mx_wt_4, mx_w4_0, mx_w9_0, mx_w9_1, mx_kn_int, mx_kn_ref, mx_kn_null, Nat.reduceLT, ofn, n10, tp, lp, p6, (AL_f L).1, sz, q4, hg1, t8, K0, t82, k1, tp3, lp3, p63, (AL_f L3).1, j1]
      · rw [List.length_append, List.length_singleton]
        omega
end
