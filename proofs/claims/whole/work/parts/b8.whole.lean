/-! A new list; Item.wholeOnes. -/
/-- an item in a list -/
def IT (M : List Nat) (h : mx_H) (e : Nat) (x : itm) : Prop := ∃ c g, IC M h e (some x.1) x.2 c g
/-- the items of a list -/
def ITs (M : List Nat) (h : mx_H) (es : List Nat) (r : List itm) : Prop := es.length = r.length ∧ ∀ k, k < r.length → IT M h (es.getD k 0) (iG r k)
theorem IT.elt {M : List Nat} {h : mx_H} {e : Nat} {x : itm} (I : IT M h e x) : elt h e := by
  obtain ⟨c, g, a1, a2, e1, -⟩ := I
  exact Or.inr (ce_t e1)
theorem gd_mem {es : List Nat} {e : Nat} (h : e ∈ es) : ∃ k, k < es.length ∧ es.getD k 0 = e := by
  obtain ⟨k, hk, he⟩ := List.mem_iff_getElem.mp h
  exact ⟨k, hk, by rw [List.getD_eq_getElem?_getD, List.getElem?_eq_getElem hk]; exact he⟩
theorem ITs.elt {M : List Nat} {h : mx_H} {es : List Nat} {r : List itm} (I : ITs M h es r) : ∀ e ∈ es, elt h e := by
  intro e he
  obtain ⟨k, hk, e1⟩ := gd_mem he
  rw [← e1]
  exact (I.2 k (by rw [← I.1]; exact hk)).elt
theorem IT.ex {M M' : List Nat} {h h' : mx_H} {e : Nat} {x : itm} (I : IT M h e x) (E : Ex M h M' h') (he : h'[e]? = h[e]?) : IT M' h' e x := by
  obtain ⟨c, g, I⟩ := I
  exact ⟨c, g, I.ex E he⟩
theorem ITs.ex {M M' : List Nat} {h h' : mx_H} {es : List Nat} {r : List itm} (I : ITs M h es r) (E : Ex M h M' h') (he : ∀ e ∈ es, h'[e]? = h[e]?) : ITs M' h' es r := by
  refine ⟨I.1, fun k hk => (I.2 k hk).ex E (he _ ?_)⟩
  rw [List.getD_eq_getElem?_getD, List.getElem?_eq_getElem (by rw [I.1]; exact hk)]
  exact List.getElem_mem _
theorem ITs.add {M : List Nat} {h : mx_H} {es : List Nat} {r : List itm} {e : Nat} {x : itm} (I : ITs M h es r) (J : IT M h e x) : ITs M h (es ++ [e]) (r ++ [x]) := by
  have h1 := I.1
  refine ⟨by simp [h1], fun k hk => ?_⟩
  rw [List.length_append, List.length_singleton] at hk
  unfold iG
  by_cases c : k < r.length
  · have e1 : (es ++ [e]).getD k 0 = es.getD k 0 := by rw [List.getD_eq_getElem?_getD, List.getElem?_append_left (by omega), List.getD_eq_getElem?_getD]
    have e2 : (r ++ [x]).getD k ([], none) = r.getD k ([], none) := by rw [List.getD_eq_getElem?_getD, List.getElem?_append_left c, List.getD_eq_getElem?_getD]
    rw [e1, e2]
    exact I.2 k c
  · have hk' : k = r.length := by omega
    subst hk'
    have e1 : (es ++ [e]).getD r.length 0 = e := by rw [← h1]; simp [List.getD_eq_getElem?_getD]
    have e2 : (r ++ [x]).getD r.length ([], none) = x := by simp [List.getD_eq_getElem?_getD]
    rw [e1, e2]
    exact J
section
variable {d : Nat} {M : List Nat} {ts : List tk}
theorem jl_new {h : mx_H} (K : KK h) (hl : 102 ≤ h.length) : ∃ h', mx_G (d + 3) 7 0 [some (.ref h.length)] [] (h ++ [(.inl 3, [.null, .int 0, .int 0])]) = some (none, h') ∧ AL h' h.length 2 0 [] ∧ Fr [] h h' ∧ mw h' = mw h + 15 ∧ h'.length = h.length + 1 := by
  generalize hg : h ++ [((.inl 3 : Nat ⊕ FieldType), [Value.null, .int 0, .int 0])] = g
  have eg : g[h.length]? = some (.inl 3, [.null, .int 0, .int 0]) := by rw [← hg, c_app]
  have Fg : Fr [] h g := by rw [← hg]; exact Fr.app _ _ _
  have hn : mt_nO ≤ h.length := by rw [show mt_nO = 63 by decide]; omega
  have F2 : Fr [] h (mx_up (mx_up g h.length 2 (.int 0)) h.length 0 (.ref 2)) := Fg.trans ((Fr.up (F := [h.length]) (by simp)).trans (Fr.up (F := [h.length]) (by simp)) (fun x hx => Or.inl hx)) (fun x hx => by rw [List.mem_singleton] at hx; exact Or.inr (by omega))
  refine ⟨mx_up (mx_up g h.length 2 (.int 0)) h.length 0 (.ref 2), ?_, ⟨⟨0, by rw [c_up (c_up eg)]; rfl⟩, F2.at K.2.1 (by simp), by simp, by decide, by omega, Or.inl ⟨rfl, rfl⟩⟩, F2, ?_, ?_⟩
  · have k9 : mx_G (d + 1) 9 0 [some (.ref h.length)] [] g = some (none, g) := by
      simp only [g9_0, g9_1, g9_4, mx_isr_ref, mx_isr_null, mx_wt_nil, mx_wt_1, mx_wt_2, mx_wt_3, Option.bind_some, Option.toList_some, Option.toList_none, List.cons_append, List.nil_append, mx_nl_int, mx_nl_ref, mx_nl_null, mx_nl_none, mx_nb0, mx_nb1, mx_fb0, mx_fb1, mx_cat_int, mx_cat_ref, if_true, if_false, not_true_eq_false, not_false_eq_true, mx_wt_4, mx_w4_0, mx_w9_0, mx_w9_1, mx_kn_int, mx_kn_ref, mx_kn_null, Nat.reduceLT, ofn, n10]
    have k8 : mx_G (d + 2) 8 0 [some (.ref h.length)] [] g = some (none, mx_up g h.length 2 (.int 0)) := by
      simp only [g8_0, g8_1, g8_4, g8_5, g8_6, g8_9, mx_isr_ref, mx_isr_null, mx_wt_nil, mx_wt_1, mx_wt_2, mx_wt_3, Option.bind_some, Option.toList_some, Option.toList_none, List.cons_append, List.nil_append, mx_nl_int, mx_nl_ref, mx_nl_null, mx_nl_none, mx_nb0, mx_nb1, mx_fb0, mx_fb1, mx_cat_int, mx_cat_ref, if_true, if_false, not_true_eq_false, not_false_eq_true, mx_wt_4, mx_w4_0, mx_w9_0, mx_w9_1, mx_kn_int, mx_kn_ref, mx_kn_null, Nat.reduceLT, ofn, n10, ce_t eg, k9, hn]
    simp only [g7_0, g7_1, g7_4, g7_5, g7_8, g7_11, mx_isr_ref, mx_isr_null, mx_wt_nil, mx_wt_1, mx_wt_2, mx_wt_3, Option.bind_some, Option.toList_some, Option.toList_none, List.cons_append, List.nil_append, mx_nl_int, mx_nl_ref, mx_nl_null, mx_nl_none, mx_nb0, mx_nb1, mx_fb0, mx_fb1, mx_cat_int, mx_cat_ref, if_true, if_false, not_true_eq_false, not_false_eq_true, mx_wt_4, mx_w4_0, mx_w9_0, mx_w9_1, mx_kn_int, mx_kn_ref, mx_kn_null, Nat.reduceLT, ofn, n10, ce_t eg, k8, mx_tag_up, hn]
  · rw [mw_up, mw_up, ← hg, mw_app]; rfl
  · rw [mx_len_up, mx_len_up, ← hg]; simp
theorem fA_mem {a A q : Nat} (h : q ∈ fA a A) : q = a ∨ (q = A ∧ A ≠ 2) := by
  unfold fA at h
  split at h
  · rw [List.mem_singleton] at h; exact Or.inl h
  · rename_i hA
    simp only [List.mem_cons, List.not_mem_nil, or_false] at h
    rcases h with z | z
    · exact Or.inl z
    · exact Or.inr ⟨z, hA⟩
/-- the list changes, the rest stands fast -/
theorem Ex.list {h h' : mx_H} {a A A' : Nat} (f : Fr (fA a A) h h') (hA : A' = A ∨ h.length ≤ A') : Ex (fA a A ++ M) h (fA a A' ++ M) h' := by
  refine f.ex (fun q hq z => z.2 (List.mem_append.mpr (Or.inl hq))) (fun q hq => ?_)
  rcases List.mem_append.mp hq with z | z
  · rcases fA_mem z with z1 | ⟨z1, z2⟩
    · exact Or.inl (List.mem_append.mpr (Or.inl (by rw [z1]; exact fA_a _ _)))
    · rcases hA with w | w
      · exact Or.inl (List.mem_append.mpr (Or.inl (by rw [z1, w]; exact fA_A (by rw [← w]; exact z2))))
      · exact Or.inr (by omega)
  · exact Or.inl (List.mem_append.mpr (Or.inr z))
theorem ji_wholeL {n v a : Nat} {f0 : Value} (ha63 : 63 ≤ a) (hf0 : mx_isr f0 = true) : ∀ (l : List Nat) (f : Value) (h : mx_H) (A cp : Nat) (es : List Nat) (r : List itm) (l4 : Option Value), KK h → 102 ≤ h.length → AL h a A cp es → es.length + l.length ≤ 300 → ITs (fA a A ++ M) h es r → pG (cVl ts n (fA a A ++ M) h) ts false (fA a A ++ M) h f l .null →
    (∀ r', iL ts l = some r' → ∃ (h' : mx_H) (A' cp' : Nat) (es' : List Nat), mx_G (d + 8) 125 36 [some (.ref v), some (.ref a), some f0, some f, l4] [] h = some (some (.ref a), h') ∧ AL h' a A' cp' es' ∧ ITs (fA a A' ++ M) h' es' (r ++ r') ∧ Fr (fA a A) h h' ∧ (A' = A ∨ h.length ≤ A') ∧ (∀ e ∈ es', e ∈ es ∨ h.length ≤ e) ∧ mw h' + 6 * cp ≤ mw h + 6 * cp' + 16 * l.length) ∧
    (iL ts l = none → ∃ (h' : mx_H) (cp' : Nat), mx_G (d + 8) 125 36 [some (.ref v), some (.ref a), some f0, some f, l4] [] h = some (some .null, h') ∧ Fr (fA a A) h h' ∧ cp' ≤ 1000 ∧ mw h' + 6 * cp ≤ mw h + 6 * cp' + 16 * l.length) := by
  intro l
  induction l with
  | nil =>
    intro f h A cp es r l4 K hl L hn I G
    rw [show f = .null from G]
    refine ⟨fun r' hr => ?_, fun z => by cases z⟩
    cases hr
    refine ⟨h, A, cp, es, ?_, L, by rw [List.append_nil]; exact I, Fr.rfl _ _, Or.inl rfl, fun e he => Or.inl he, by simp⟩
    simp only [g125_36, g125_37, g125_37n, g125_79, g125_80, mx_isr_ref, mx_isr_null, mx_wt_nil, mx_wt_1, mx_wt_2, mx_wt_3, Option.bind_some, Option.toList_some, Option.toList_none, List.cons_append, List.nil_append, mx_nl_int, mx_nl_ref, mx_nl_null, mx_nl_none, mx_nb0, mx_nb1, mx_fb0, mx_fb1, mx_cat_int, mx_cat_ref, if_true, if_false, not_true_eq_false, not_false_eq_true, mx_wt_4, mx_w4_0, mx_w9_0, mx_w9_1, mx_kn_int, mx_kn_ref, mx_kn_null, Nat.reduceLT, ofn, n10]
  | cons m l ih =>
    rintro f h A cp es r l4 K hl L hn I ⟨p, s, w, f', rfl, e2, e3, Ss, V, G⟩
    have hf' : mx_isr f' = true := pG_isr G rfl
    have tp : mx_tag h p = some (.inl 6) := ce_t e2
    have lp : mx_ln h p = 3 := by rw [ce_n e2]; rfl
    have p1 : mx_el h p 1 = .ref w := by rw [ce_e e2]; rfl
    rw [show mv false m = m from rfl] at V
    obtain ⟨j1, j2⟩ := ji_from (d := d + 4) K hl V
    obtain ⟨c1, c2, c3, c4, c5, c6, c7, c8, c9, c10⟩ := AL_f L
    rw [iL, iW]
    have cpb := L.2.2.2.1
    rw [List.length_cons] at hn
    cases hq : iO ts m with
    | none =>
      obtain ⟨h1, y1, y2, y3⟩ := j2 hq
      refine ⟨fun r' hr => (by cases hr), fun _ => ⟨h1, cp, ?_, y2.mono (by simp), cpb, by rw [List.length_cons]; omega⟩⟩
      simp only [g125_36, g125_37, g125_37n, g125_40, g125_41, g125_44, g125_47, g125_49, g125_51, g125_51n, g125_54, g125_56, g125_59, g125_59n, g125_62, g125_63, mx_isr_ref, mx_isr_null, mx_wt_nil, mx_wt_1, mx_wt_2, mx_wt_3, Option.bind_some, Option.toList_some, Option.toList_none, List.cons_append, List.nil_append, mx_nl_int, mx_nl_ref, mx_nl_null, mx_nl_none, mx_nb0, mx_nb1, mx_fb0, mx_fb1, mx_cat_int, mx_cat_ref, if_true, if_false, not_true_eq_false, not_false_eq_true, mx_wt_4, mx_w4_0, mx_w9_0, mx_w9_1, mx_kn_int, mx_kn_ref, mx_kn_null, Nat.reduceLT, ofn, n10, tp, lp, p1, y1]
    | some q =>
      obtain ⟨h1, y1, y2, y3, y4, y5⟩ := j1 q hq
      have cl1 := AL_fr L y3 (by simp) (by simp)
      obtain ⟨a1, a2, i1, i2, i3⟩ := y2
      cases hv : q.1 with
      | none =>
        rw [hv] at i2
        have x0 : mx_el h1 h.length 0 = .null := by rw [ce_e i1, show a1 = .null from i2]; rfl
        have xl : mx_ln h1 h.length = 4 := by rw [ce_n i1]; rfl
        simp only [Option.bind_some, hv, Option.map_none, Option.bind_none]
        refine ⟨fun r' hr => (by cases hr), fun _ => ⟨h1, cp, ?_, y3.mono (by simp), cpb, by rw [List.length_cons]; omega⟩⟩
        simp only [g125_36, g125_37, g125_37n, g125_40, g125_41, g125_44, g125_47, g125_49, g125_51, g125_51n, g125_54, g125_56, g125_59, g125_59n, g125_62, g125_63, mx_isr_ref, mx_isr_null, mx_wt_nil, mx_wt_1, mx_wt_2, mx_wt_3, Option.bind_some, Option.toList_some, Option.toList_none, List.cons_append, List.nil_append, mx_nl_int, mx_nl_ref, mx_nl_null, mx_nl_none, mx_nb0, mx_nb1, mx_fb0, mx_fb1, mx_cat_int, mx_cat_ref, if_true, if_false, not_true_eq_false, not_false_eq_true, mx_wt_4, mx_w4_0, mx_w9_0, mx_w9_1, mx_kn_int, mx_kn_ref, mx_kn_null, Nat.reduceLT, ofn, n10, tp, lp, p1, y1, ce_t i1, xl, x0]
      | some vv =>
        rw [hv] at i2
        obtain ⟨wv, rfl, Vv, nv⟩ := i2
        have x0 : mx_el h1 h.length 0 = .ref wv := by rw [ce_e i1]; rfl
        have xl : mx_ln h1 h.length = 4 := by rw [ce_n i1]; rfl
        -- it goes into the list
        have E1 : Ex (fA a A ++ M) h (fA a A ++ M) h1 := Ex.fresh y3 (fun x hx => Or.inl hx)
        have hes1 : ∀ e ∈ es, h1[e]? = h[e]? := fun e he => y3.2 e (elt_lt (I.elt e he)) (by simp)
        have I1 := I.ex E1 hes1
        have It : IT (fA a A ++ M) h1 h.length (vv, q.2) := ⟨0, 0, .ref wv, a2, i1, (show OV _ h1 _ (vT (some vv)) from ⟨wv, rfl, Vv, nv⟩).ex (Ex.sub h1 (fun x hx => List.mem_cons_of_mem _ hx)), i3.ex (Ex.sub h1 (fun x hx => List.mem_cons_of_mem _ hx))⟩
        obtain ⟨h2, A2, cp2, k1, k2, k3, k4, k5, k6⟩ := jl_add (d := d) cl1 (by omega) I1.elt It.elt
        have l1 := y3.1
        have l2 := k3.1
        have E2 : Ex (fA a A ++ M) h1 (fA a A2 ++ M) h2 := Ex.list k3 k4
        have E12 := E1.trans E2
        have hkeep : ∀ e, elt h1 e → h2[e]? = h1[e]? := fun e he => k3.2 e (elt_lt he) (fun z => by
          rcases fA_mem z with z1 | ⟨z1, -⟩
          · rw [z1] at he
            obtain ⟨⟨mc, eq⟩, -⟩ := cl1
            unfold elt at he
            rw [ce_t eq] at he
            rcases he with w | w <;> cases w
          · rw [z1] at he
            exact elt_ne he cl1.2.1 rfl)
        have I2 : ITs (fA a A2 ++ M) h2 (es ++ [h.length]) (r ++ [(vv, q.2)]) := (I1.ex E2 (fun e he => hkeep e (I1.elt e he))).add (It.ex E2 (hkeep _ It.elt))
        have G2 := pG.ex (fun w u => cVl.ex E12 _ _ _) E12 _ _ _ G
        have K1 := K.fr y3 (by simp)
        have hA63 : A = 2 ∨ 63 ≤ A := by rcases L.2.2.2.2.2 with z | z <;> omega
        have K2 := K1.fr k3 (fA_63 ha63 hA63)
        obtain ⟨i1', i2'⟩ := ih f' h2 A2 cp2 (es ++ [h.length]) (r ++ [(vv, q.2)]) (some (.ref h.length)) K2 (by omega) k2 (by simp; omega) I2 G2
        have cp2' := (E12.at e2 e3).1
        have p2' : mx_el h2 p 2 = f' := by rw [ce_e cp2']; rfl
        have lp2 : mx_ln h2 p = 3 := by rw [ce_n cp2']; rfl
        have ta1 : mx_tag h1 a = some (.inl 3) := (AL_f cl1).1
        have hG : mx_G (d + 8) 125 36 [some (.ref v), some (.ref a), some f0, some (.ref p), l4] [] h = mx_G (d + 8) 125 36 [some (.ref v), some (.ref a), some f0, some f', some (.ref h.length)] [] h2 := by
          rw [g125_36 mx_isr_ref]
          simp only [g125_37, g125_37n, g125_40, g125_41, g125_44, g125_47, g125_49, g125_51, g125_51n, g125_54, g125_56, g125_59, g125_59n, g125_62, g125_63, g125_64, g125_65, g125_67, g125_70, g125_71, g125_72, g125_75, g125_76, mx_isr_ref, mx_isr_null, mx_wt_nil, mx_wt_1, mx_wt_2, mx_wt_3, Option.bind_some, Option.toList_some, Option.toList_none, List.cons_append, List.nil_append, mx_nl_int, mx_nl_ref, mx_nl_null, mx_nl_none, mx_nb0, mx_nb1, mx_fb0, mx_fb1, mx_cat_int, mx_cat_ref, if_true, if_false, not_true_eq_false, not_false_eq_true, mx_wt_4, mx_w4_0, mx_w9_0, mx_w9_1, mx_kn_int, mx_kn_ref, mx_kn_null, Nat.reduceLT, ofn, n10, tp, lp, p1, y1, ce_t i1, xl, x0, ta1, k1, ce_t cp2', lp2, p2', hf', isr_kn hf', nl_isr hf0]
        rw [hG]
        simp only [Option.bind_some, hv, Option.map_some]
        have FF : ∀ h', Fr (fA a A2) h2 h' → Fr (fA a A) h h' := fun h' F => ((y3.mono (F' := fA a A) (by simp)).trans k3 (fun x hx => Or.inl hx)).trans F (fun x hx => by
          rcases fA_mem hx with z1 | ⟨z1, z2⟩
          · exact Or.inl (by rw [z1]; exact fA_a _ _)
          · rcases k4 with w | w
            · exact Or.inl (by rw [z1, w]; exact fA_A (by rw [← w]; exact z2))
            · exact Or.inr (by omega))
        refine ⟨fun r' hr => ?_, fun hr => ?_⟩
        · obtain ⟨r2, hr2, hre⟩ := Option.map_eq_some_iff.mp hr
          obtain ⟨h', A', cp', es', z1, z2, z3, z4, z5, z6, z7⟩ := i1' r2 hr2
          subst hre
          refine ⟨h', A', cp', es', z1, z2, by rw [List.append_assoc] at z3; exact z3, FF h' z4, ?_, fun e he => ?_, by rw [List.length_cons]; omega⟩
          · rcases z5 with w | w
            · rw [w]
              exact k4.elim Or.inl (fun y => Or.inr (by omega))
            · exact Or.inr (by omega)
          · rcases z6 e he with w | w
            · rcases List.mem_append.mp w with y | y
              · exact Or.inl y
              · rw [List.mem_singleton] at y
                exact Or.inr (by omega)
            · exact Or.inr (by omega)
        · obtain ⟨h', cp', z1, z4, z5, z7⟩ := i2' (Option.map_eq_none_iff.mp hr)
          exact ⟨h', cp', z1, FF h' z4, z5, by rw [List.length_cons]; omega⟩
variable {h : mx_H}
/-- the items that a value says -/
theorem ji_whole {n v t : Nat} (K : KK h) (hl : 102 ≤ h.length) (rM : RB M h) (V : cVl ts n M h v t) (hk : (kd ts t).length ≤ 200) :
    (∀ r, iB ts t = some r → ∃ (h' : mx_H) (A cp : Nat) (es : List Nat), mx_G (d + 9) 125 0 [some (.ref v), none, none, none, none] [] h = some (some (.ref h.length), h') ∧ AL h' h.length A cp es ∧ ITs (fA h.length A ++ M) h' es r ∧ Fr [] h h' ∧ (A = 2 ∨ h.length ≤ A) ∧ (∀ e ∈ es, h.length ≤ e) ∧ mw h' ≤ mw h + 10000) ∧
    (iB ts t = none → ∃ h', mx_G (d + 9) 125 0 [some (.ref v), none, none, none, none] [] h = some (some .null, h') ∧ Fr [] h h' ∧ mw h' ≤ mw h + 10000) := by
  obtain ⟨num, VC1, hk5⟩ := cVl_vc V
  obtain ⟨s0, b0, f0, tv_, lv, v0, v1, v2, v3, hf0, S0⟩ := VC_f VC1
  obtain ⟨h1, n1, n2, n3, n4, n5⟩ := jl_new (d := d + 5) K hl
  have tt : mx_tag (h ++ [((.inl 3 : Nat ⊕ FieldType), [Value.null, .int 0, .int 0])]) h.length = some (.inl 3) := by rw [mx_tag_app, if_pos rfl]
  have K1 := K.fr n3 (by simp)
  have hfA : fA h.length 2 = [h.length] := rfl
  have E1 : Ex M h (fA h.length 2 ++ M) h1 := Ex.fresh n3 (fun a ha => by
    rw [hfA] at ha
    rcases List.mem_append.mp ha with z | z
    · rw [List.mem_singleton] at z; exact Or.inr (by omega)
    · exact Or.inl z)
  have I0 : ITs (fA h.length 2 ++ M) h1 [] [] := ⟨rfl, fun k hk => absurd hk (by simp)⟩
  -- what comes of the walk
  have fin : ∀ (l : List Nat) (n : Nat) (f : Value) (h2 : mx_H), iB ts t = iL ts l → mx_isr f = true → Fr [] h1 h2 → mw h2 ≤ mw h1 + 15 → l.length ≤ 200 → pG (cVl ts n (fA h.length 2 ++ M) h2) ts false (fA h.length 2 ++ M) h2 f l .null → mx_G (d + 9) 125 0 [some (.ref v), none, none, none, none] [] h = mx_G (d + 9) 125 36 [some (.ref v), some (.ref h.length), some f, some f, none] [] h2 →
      (∀ r, iB ts t = some r → ∃ (h' : mx_H) (A cp : Nat) (es : List Nat), mx_G (d + 9) 125 0 [some (.ref v), none, none, none, none] [] h = some (some (.ref h.length), h') ∧ AL h' h.length A cp es ∧ ITs (fA h.length A ++ M) h' es r ∧ Fr [] h h' ∧ (A = 2 ∨ h.length ≤ A) ∧ (∀ e ∈ es, h.length ≤ e) ∧ mw h' ≤ mw h + 10000) ∧
      (iB ts t = none → ∃ h', mx_G (d + 9) 125 0 [some (.ref v), none, none, none, none] [] h = some (some .null, h') ∧ Fr [] h h' ∧ mw h' ≤ mw h + 10000) := by
    intro l n f h2 hB hf F2 w2 hll G hG
    have L2 := AL_fr n2 F2 (by simp) (by simp)
    have l2 := F2.1
    have F02 : Fr [] h h2 := n3.trans F2 (fun a ha => absurd ha (by simp))
    obtain ⟨j1, j2⟩ := ji_wholeL (d := d + 1) (M := M) (ts := ts) (n := n) (v := v) (a := h.length) (f0 := f) (by omega) hf l f h2 2 0 [] [] none (K1.fr F2 (by simp)) (by omega) L2 (by simp; omega) ⟨rfl, fun k hk => absurd hk (by simp)⟩ G
    rw [hG, hB]
    refine ⟨fun r hr => ?_, fun hr => ?_⟩
    · obtain ⟨h', A', cp', es', z1, z2, z3, z4, z5, z6, z7⟩ := j1 r hr
      have := z2.2.2.2.1
      refine ⟨h', A', cp', es', z1, z2, z3, F02.trans z4 (fun a ha => ?_), ?_, fun e he => ?_, by omega⟩
      · rw [hfA, List.mem_singleton] at ha; exact Or.inr (by omega)
      · exact z5.elim Or.inl (fun y => Or.inr (by omega))
      · rcases z6 e he with y | y
        · cases y
        · omega
    · obtain ⟨h', cp', z1, z4, z5, z7⟩ := j2 hr
      refine ⟨h', z1, F02.trans z4 (fun a ha => ?_), by omega⟩
      rw [hfA, List.mem_singleton] at ha; exact Or.inr (by omega)
  have kv : ∀ k, ¬ vkd ts t = k → k < 5 → ¬ nI (vkd ts t) = nI k := fun k h1 h2 z => h1 ((nI_eq (by omega) (by omega)).mp z)
  by_cases c : tI ts t 91 = true
  · have c0 : ¬ tI ts t 123 = true := by
      intro z
      rw [tI_eq] at z c
      omega
    have hvk : vkd ts t = 4 := by unfold vkd; rw [if_neg c0, if_pos c]
    rw [hvk, show nI 4 = 4 from rfl] at v0
    rcases cVl_c V with ⟨h0, -⟩ | ⟨-, -, n', -, f, s, a1, a2, a3, a4⟩ | ⟨-, -, h0, -⟩
    · exact absurd h0 c0
    · have cv := (E1.at a1 a2).1
      have hfi : mx_isr f = true := pG_isr a4 rfl
      refine fin (kd ts t) n' f h1 (by unfold iB; rw [if_pos c]) hfi (Fr.rfl _ _) (by omega) hk (pG.ex (fun w u => cVl.ex E1 _ _ _) E1 _ _ _ a4) ?_
      have x0 : mx_el h1 v 0 = .int 4 := by rw [ce_e cv]; rfl
      have x3 : mx_el h1 v 3 = f := by rw [ce_e cv]; rfl
      have xl : mx_ln h1 v = 4 := by rw [ce_n cv]; rfl
      simp only [g125_0, g125_3, g125_4, g125_7, g125_8, g125_9, g125_12, g125_13, g125_16, g125_17, g125_20, g125_23, g125_26, g125_27, g125_29, g125_30, g125_33, g125_34, g125_35, mx_isr_ref, mx_isr_null, mx_wt_nil, mx_wt_1, mx_wt_2, mx_wt_3, Option.bind_some, Option.toList_some, Option.toList_none, List.cons_append, List.nil_append, mx_nl_int, mx_nl_ref, mx_nl_null, mx_nl_none, mx_nb0, mx_nb1, mx_fb0, mx_fb1, mx_cat_int, mx_cat_ref, if_true, if_false, not_true_eq_false, not_false_eq_true, mx_wt_4, mx_w4_0, mx_w9_0, mx_w9_1, mx_kn_int, mx_kn_ref, mx_kn_null, Nat.reduceLT, ofn, n10, tt, n1, ce_t cv, xl, x0, x3, hfi, isr_kn hfi, nl_isr hfi]
    · rw [c] at h0; cases h0
  · have hvk : ¬ vkd ts t = 4 := by
      unfold vkd
      split
      · decide
      · unfold pk
        split
        · show ¬ 1 = 4; decide
        · split
          · show ¬ 2 = 4; decide
          · show ¬ 0 = 4; decide
    obtain ⟨h2, m1, m2, m3, m4, m5⟩ := jv_mkPart (d := d + 7) (h := h1) (by omega) 11 v
    have V1 := cVl.ex E1 _ _ _ V
    have E2 : Ex (fA h.length 2 ++ M) h1 (fA h.length 2 ++ M) h2 := Ex.fresh m3 (fun a ha => Or.inl ha)
    obtain ⟨num1, VC2, -⟩ := cVl_vc V1
    obtain ⟨s1, b1, f1, t1, l1, w0, w1, w2, w3, hf1, S1⟩ := VC_f VC2
    refine fin [t] n (.ref h1.length) h2 (by unfold iB iL; rw [if_neg c, iL]; cases iW ts t <;> rfl) rfl m3 (by omega) (by simp) ⟨h1.length, 11, v, .null, rfl, m2, ⟨by omega, fun z => ?_⟩, ?_, cVl.ex E2 _ _ _ V1, rfl⟩ ?_
    · rw [hfA] at z
      rcases List.mem_append.mp z with y | y
      · rw [List.mem_singleton] at y; omega
      · have := rM _ y; omega
    · refine KS.str (K1.fr m3 (by simp)).1 (fun a ha => ?_) 2 (by decide)
      rw [hfA] at ha
      rcases List.mem_append.mp ha with y | y
      · rw [List.mem_singleton] at y; omega
      · exact (rM _ y).1
    · have tt2 : mx_tag (h1 ++ [((.inl 6 : Nat ⊕ FieldType), [Value.null, .null, .null])]) h1.length = some (.inl 6) := by rw [mx_tag_app, if_pos rfl]
      have q := kv 4 hvk (by decide)
      rw [show nI 4 = 4 from rfl] at q
      simp only [g125_0, g125_3, g125_4, g125_7, g125_8, g125_9, g125_12, g125_13, g125_16, g125_17, g125_20, g125_23, g125_26, g125_27, g125_29, g125_30, g125_33, g125_34, g125_35, mx_isr_ref, mx_isr_null, mx_wt_nil, mx_wt_1, mx_wt_2, mx_wt_3, Option.bind_some, Option.toList_some, Option.toList_none, List.cons_append, List.nil_append, mx_nl_int, mx_nl_ref, mx_nl_null, mx_nl_none, mx_nb0, mx_nb1, mx_fb0, mx_fb1, mx_cat_int, mx_cat_ref, if_true, if_false, not_true_eq_false, not_false_eq_true, mx_wt_4, mx_w4_0, mx_w9_0, mx_w9_1, mx_kn_int, mx_kn_ref, mx_kn_null, Nat.reduceLT, ofn, n10, tt, n1, t1, l1, w0, q, tt2, m1]
end
