/-! isLike, settle, replace of the class. -/
theorem osm_A (a b : Option Int) : osm (agO a) (agO b) = decide (a = b) := by
  cases a <;> cases b <;> simp [osm, agO]
theorem osm_B (a b : Option Bool) : osm (vB a) (vB b) = decide (a = b) := by
  cases a with
  | none => cases b <;> simp [osm, vB]
  | some a =>
    cases b with
    | none => simp [osm, vB]
    | some b => cases a <;> cases b <;> simp [osm, vB]
theorem sVr_sVr (p : prs) (v w : Nat) : sVr (sVr p v) w = sVr p w := rfl
theorem fS1_ver (ts : List tk) (m : Nat) (p : prs) (v : Nat) : fS1 ts m (sVr p v) = (fS1 ts m p).map fun q => sVr q v := by
  unfold fS1
  split
  · rfl
  · split
    · split <;> rfl
    · split
      · split <;> rfl
      · split
        · split <;> rfl
        · split
          · cases iA ts (m + 2) with
            | none => rfl
            | some x =>
              simp only [Option.bind_some]
              split <;> rfl
          · rfl
theorem fS_ver (ts : List tk) (v : Nat) : ∀ (l : List Nat) (p : prs), fS ts l (sVr p v) = (fS ts l p).map fun q => sVr q v := by
  intro l
  induction l with
  | nil => intro p; rfl
  | cons m l ih =>
    intro p
    rw [fS_cons, fS_cons, fS1_ver]
    cases fS1 ts m p with
    | none => rfl
    | some q => exact ih q
theorem fP_ver (ts : List tk) (t id v : Nat) : fP ts t id v = (fP ts t id 1).map fun q => sVr q v := by
  unfold fP
  have := fS_ver ts v (kd ts t) (id, 1, [], none, none, [])
  rw [show sVr (id, 1, [], none, none, []) v = (id, v, [], none, none, []) from rfl] at this
  rw [this]
  cases fS ts (kd ts t) (id, 1, [], none, none, []) with
  | none => rfl
  | some q =>
    show (if pnm q = [] then none else some (sVr q v)) = (if pnm q = [] then none else some q).map _
    split <;> rfl
theorem s_set_ver (s : sto) (old p : prs) (v : Nat) : s_set s old (sVr p v) = s_set s old p := rfl
theorem pSet_at : ∀ (ps : List prs) (k : Nat) (p : prs), (ids ps).Nodup → k < ps.length → p.1 = (pAt' ps k).1 → pSet ps p = ps.set k p := by
  intro ps
  induction ps with
  | nil => intro k p _ hk; simp at hk
  | cons y ps ih =>
    intro k p hnd hk hp
    have hnd' : y.1 ∉ ids ps ∧ (ids ps).Nodup := List.nodup_cons.mp hnd
    cases k with
    | zero =>
      have hp' : p.1 = y.1 := hp
      unfold pSet
      rw [List.map_cons, if_pos hp'.symm, List.set_cons_zero]
      congr 1
      rw [List.map_eq_iff]
      intro i
      cases hi : ps[i]? with
      | none => rfl
      | some z =>
        have : z.1 ≠ p.1 := fun w => hnd'.1 (by rw [← hp', ← w]; exact List.mem_map.mpr ⟨z, List.mem_of_getElem? hi, rfl⟩)
        simp [this]
    | succ k =>
      rw [List.length_cons] at hk
      have hk' : k < ps.length := by omega
      have hp' : p.1 = (pAt' ps k).1 := hp
      unfold pSet
      rw [List.map_cons, List.set_cons_succ, if_neg (fun w => hnd'.1 (by rw [w, hp']; exact List.mem_map.mpr ⟨_, pAt_mem hk', rfl⟩))]
      congr 1
      exact ih k p hnd'.2 hk' hp'
section
variable {d : Nat} {h : mx_H} {M : List Nat}
theorem ji_like {e e' : Nat} {x x' : itm} (I : IT M h e x) (I' : IT M h e' x') : mx_G (d + 6) 154 0 [some (.ref e), some (.ref e')] [] h = some (some (.int (if x = x' then 1 else 0)), h) := by
  obtain ⟨c, g, I⟩ := I
  obtain ⟨c', g', I'⟩ := I'
  obtain ⟨a1, a2, t, l, x0, x1, -, -, o1, o2⟩ := IC_f I
  obtain ⟨b1, b2, t', l', y0, y1, -, -, p1, p2⟩ := IC_f I'
  have S1 := jv_same (d := d) o1 p1
  have S2 := jv_same (d := d) o2 p2
  rw [osm_T] at S1
  rw [osm_B] at S2
  have k1 := isr_kn o1.isr
  have k2 := isr_kn o2.isr
  have k3 := isr_kn p1.isr
  have k4 := isr_kn p2.isr
  by_cases c1 : x.1 = x'.1
  · rw [if_pos (by simpa using c1)] at S1
    by_cases c2 : x.2 = x'.2
    · rw [if_pos (by simpa using c2)] at S2
      rw [if_pos (Prod.ext c1 c2)]
      simp only [g154_0, g154_1, g154_4, g154_5, g154_8, g154_11, g154_14, g154_15, g154_18, g154_19, g154_22, g154_25, g154_28, g154_29, g154_32, g154_33, mx_isr_ref, mx_isr_null, mx_wt_nil, mx_wt_1, mx_wt_2, mx_wt_3, Option.bind_some, Option.toList_some, Option.toList_none, List.cons_append, List.nil_append, mx_nl_int, mx_nl_ref, mx_nl_null, mx_nl_none, mx_nb0, mx_nb1, mx_fb0, mx_fb1, mx_cat_int, mx_cat_ref, if_true, if_false, not_true_eq_false, not_false_eq_true, mx_wt_4, mx_w4_0, mx_w9_0, mx_w9_1, mx_kn_int, mx_kn_ref, mx_kn_null, Nat.reduceLT, ofn, n10, t, l, x0, x1, t', l', y0, y1, k1, k2, k3, k4, o1.isr, o2.isr, p1.isr, p2.isr, S1, S2]
    · rw [if_neg (by simpa using c2)] at S2
      rw [if_neg (fun z => c2 (by rw [z]))]
      simp only [g154_0, g154_1, g154_4, g154_5, g154_8, g154_11, g154_14, g154_15, g154_18, g154_19, g154_22, g154_25, g154_28, g154_29, g154_32, g154_33, mx_isr_ref, mx_isr_null, mx_wt_nil, mx_wt_1, mx_wt_2, mx_wt_3, Option.bind_some, Option.toList_some, Option.toList_none, List.cons_append, List.nil_append, mx_nl_int, mx_nl_ref, mx_nl_null, mx_nl_none, mx_nb0, mx_nb1, mx_fb0, mx_fb1, mx_cat_int, mx_cat_ref, if_true, if_false, not_true_eq_false, not_false_eq_true, mx_wt_4, mx_w4_0, mx_w9_0, mx_w9_1, mx_kn_int, mx_kn_ref, mx_kn_null, Nat.reduceLT, ofn, n10, t, l, x0, x1, t', l', y0, y1, k1, k2, k3, k4, o1.isr, o2.isr, p1.isr, p2.isr, S1, S2]
  · rw [if_neg (by simpa using c1)] at S1
    rw [if_neg (fun z => c1 (by rw [z]))]
    simp only [g154_0, g154_1, g154_4, g154_5, g154_8, g154_11, g154_14, g154_15, g154_18, g154_19, g154_22, g154_25, g154_28, g154_29, g154_32, g154_33, mx_isr_ref, mx_isr_null, mx_wt_nil, mx_wt_1, mx_wt_2, mx_wt_3, Option.bind_some, Option.toList_some, Option.toList_none, List.cons_append, List.nil_append, mx_nl_int, mx_nl_ref, mx_nl_null, mx_nl_none, mx_nb0, mx_nb1, mx_fb0, mx_fb1, mx_cat_int, mx_cat_ref, if_true, if_false, not_true_eq_false, not_false_eq_true, mx_wt_4, mx_w4_0, mx_w9_0, mx_w9_1, mx_kn_int, mx_kn_ref, mx_kn_null, Nat.reduceLT, ofn, n10, t, l, x0, t', l', y0, k1, k3, o1.isr, p1.isr, S1]
theorem iG_drop {r : List itm} {i : Nat} (h : i < r.length) : r.drop i = iG r i :: r.drop (i + 1) := by
  unfold iG
  rw [List.drop_eq_getElem_cons h, List.getD_eq_getElem?_getD, List.getElem?_eq_getElem h]
  rfl
theorem jp_likeL {p p' l l' A A' cp cp' : Nat} {es es' : List Nat} {r r' : List itm} (tp : mx_tag h p = some (.inl 7)) (lp : mx_ln h p = 7) (p6 : mx_el h p 6 = .ref l) (L : AL h l A cp es) (I : ITs M h es r) (tp' : mx_tag h p' = some (.inl 7)) (lp' : mx_ln h p' = 7) (p6' : mx_el h p' 6 = .ref l') (L' : AL h l' A' cp' es') (I' : ITs M h es' r') (hl : r.length = r'.length) : ∀ n i, n + i = r.length → mx_G (d + 7) 153 63 [some (.ref p), some (.ref p'), some (.int (nI i))] [] h = some (some (.int (if r.drop i = r'.drop i then 1 else 0)), h) := by
  have h1000 : r.length ≤ 1000 := by have := L.2.2.1; have := L.2.2.2.1; have := I.1; omega
  have sz := jl_size (d := d + 6) L
  rw [I.1] at sz
  have c1 := (AL_f L).1
  have c1' := (AL_f L').1
  intro n
  induction n with
  | zero =>
    intro i hi
    have : i = r.length := by omega
    subst this
    rw [List.drop_length, List.drop_of_length_le (by omega), if_pos rfl]
    simp only [g153_63, g153_64, g153_65, g153_68, g153_71, g153_110, g153_111, mx_isr_ref, mx_isr_null, mx_wt_nil, mx_wt_1, mx_wt_2, mx_wt_3, Option.bind_some, Option.toList_some, Option.toList_none, List.cons_append, List.nil_append, mx_nl_int, mx_nl_ref, mx_nl_null, mx_nl_none, mx_nb0, mx_nb1, mx_fb0, mx_fb1, mx_cat_int, mx_cat_ref, if_true, if_false, not_true_eq_false, not_false_eq_true, mx_wt_4, mx_w4_0, mx_w9_0, mx_w9_1, mx_kn_int, mx_kn_ref, mx_kn_null, Nat.reduceLT, ofn, n10, tp, lp, p6, c1, sz, show nI r.length ≤ nI r.length from nI_le (Nat.le_refl _) (by omega)]
  | succ n ih =>
    intro i hi
    have hir : i < r.length := by omega
    have q : ¬ nI r.length ≤ nI i := nI_ge hir (by omega)
    have G1 := jl_get (d := d + 4) L (show i < es.length by rw [I.1]; exact hir)
    have G2 := jl_get (d := d + 4) L' (show i < es'.length by rw [I'.1]; omega)
    have i1 := I.2 i hir
    have i2 := I'.2 i (by omega)
    have K := ji_like (d := d) i1 i2
    have te : mx_tag h (es.getD i 0) = some (.inl 8) := by obtain ⟨c, g, a1, a2, x, -⟩ := i1; exact ce_t x
    have te' : mx_tag h (es'.getD i 0) = some (.inl 8) := by obtain ⟨c, g, a1, a2, x, -⟩ := i2; exact ce_t x
    rw [iG_drop hir, iG_drop (show i < r'.length by omega), g153_63]
    by_cases e : iG r i = iG r' i
    · rw [if_pos e] at K
      simp only [g153_64, g153_65, g153_68, g153_71, g153_74, g153_75, g153_78, g153_79, g153_82n, g153_82, g153_85, g153_86, g153_89, g153_90, g153_93n, g153_93, g153_96, g153_99, g153_102, g153_103, g153_104, g153_107, mx_isr_ref, mx_isr_null, mx_wt_nil, mx_wt_1, mx_wt_2, mx_wt_3, Option.bind_some, Option.toList_some, Option.toList_none, List.cons_append, List.nil_append, mx_nl_int, mx_nl_ref, mx_nl_null, mx_nl_none, mx_nb0, mx_nb1, mx_fb0, mx_fb1, mx_cat_int, mx_cat_ref, if_true, if_false, not_true_eq_false, not_false_eq_true, mx_wt_4, mx_w4_0, mx_w9_0, mx_w9_1, mx_kn_int, mx_kn_ref, mx_kn_null, Nat.reduceLT, ofn, n10, tp, lp, p6, c1, sz, q, G1, te, tp', lp', p6', c1', G2, te', K, nI_1]
      rw [ih (i + 1) (by omega), e]
      simp
    · rw [if_neg e] at K
      rw [if_neg (fun z => e (List.cons.inj z).1)]
      simp only [g153_64, g153_65, g153_68, g153_71, g153_74, g153_75, g153_78, g153_79, g153_82n, g153_82, g153_85, g153_86, g153_89, g153_90, g153_93n, g153_93, g153_96, g153_99, g153_102, g153_103, mx_isr_ref, mx_isr_null, mx_wt_nil, mx_wt_1, mx_wt_2, mx_wt_3, Option.bind_some, Option.toList_some, Option.toList_none, List.cons_append, List.nil_append, mx_nl_int, mx_nl_ref, mx_nl_null, mx_nl_none, mx_nb0, mx_nb1, mx_fb0, mx_fb1, mx_cat_int, mx_cat_ref, if_true, if_false, not_true_eq_false, not_false_eq_true, mx_wt_4, mx_w4_0, mx_w9_0, mx_w9_1, mx_kn_int, mx_kn_ref, mx_kn_null, Nat.reduceLT, ofn, n10, tp, lp, p6, c1, sz, q, G1, te, tp', lp', p6', c1', G2, te', K]
theorem jp_like {p p' : Nat} {q q' : prs} (C : PP M h p q) (C' : PP M h p' q') : mx_G (d + 7) 153 0 [some (.ref p), some (.ref p'), none] [] h = some (some (.int (if pnm q = pnm q' ∧ pag q = pag q' ∧ pon q = pon q' ∧ pit q = pit q' then 1 else 0)), h) := by
  obtain ⟨l, C, A, cp, es, L, I, -⟩ := C
  obtain ⟨l', C', A', cp', es', L', I', -⟩ := C'
  obtain ⟨tp, lp, p6, i, v, nn, ff, aa, oo, p0, p1, p2, p3, p4, p5, V1, V2, O2, O3, O4, O5⟩ := PC_f C
  obtain ⟨tp', lp', p6', i', v', nn', ff', aa', oo', p0', p1', p2', p3', p4', p5', V1', V2', O2', O3', O4', O5'⟩ := PC_f C'
  have S2 := jv_same (d := d + 1) O2 O2'
  have S4 := jv_same (d := d + 1) O4 O4'
  have S5 := jv_same (d := d + 1) O5 O5'
  rw [osm_N] at S2
  rw [osm_A] at S4
  rw [osm_B] at S5
  have k1 := isr_kn O2.isr
  have k2 := isr_kn O4.isr
  have k3 := isr_kn O5.isr
  have k1' := isr_kn O2'.isr
  have k2' := isr_kn O4'.isr
  have k3' := isr_kn O5'.isr
  have sz := jl_size (d := d + 6) L
  have sz' := jl_size (d := d + 6) L'
  rw [I.1] at sz
  rw [I'.1] at sz'
  have c1 := (AL_f L).1
  have c1' := (AL_f L').1
  have hb : (pit q).length ≤ 1000 := by have := L.2.2.1; have := L.2.2.2.1; have := I.1; omega
  have hb' : (pit q').length ≤ 1000 := by have := L'.2.2.1; have := L'.2.2.2.1; have := I'.1; omega
  by_cases a1 : pnm q = pnm q'
  · rw [if_pos (by simpa using a1)] at S2
    by_cases a2 : pag q = pag q'
    · rw [if_pos (by simpa using a2)] at S4
      by_cases a3 : pon q = pon q'
      · rw [if_pos (by simpa using a3)] at S5
        by_cases a4 : (pit q).length = (pit q').length
        · have LL := jp_likeL (d := d) tp lp p6 L I tp' lp' p6' L' I' a4 (pit q).length 0 (by omega)
          rw [List.drop_zero, List.drop_zero, nI_0] at LL
          have q4 : nI (pit q).length = nI (pit q').length := by rw [a4]
          have hG : mx_G (d + 7) 153 0 [some (.ref p), some (.ref p'), none] [] h = mx_G (d + 7) 153 63 [some (.ref p), some (.ref p'), some (.int 0)] [] h := by
            simp only [g153_0, g153_1, g153_4, g153_5, g153_8, g153_11, g153_14, g153_15, g153_18, g153_19, g153_22, g153_25, g153_28, g153_29, g153_32, g153_33, g153_36, g153_39, g153_42, g153_43, g153_46, g153_49, g153_50, g153_53, g153_56, g153_59, g153_60, g153_61, g153_62, mx_isr_ref, mx_isr_null, mx_wt_nil, mx_wt_1, mx_wt_2, mx_wt_3, Option.bind_some, Option.toList_some, Option.toList_none, List.cons_append, List.nil_append, mx_nl_int, mx_nl_ref, mx_nl_null, mx_nl_none, mx_nb0, mx_nb1, mx_fb0, mx_fb1, mx_cat_int, mx_cat_ref, if_true, if_false, not_true_eq_false, not_false_eq_true, mx_wt_4, mx_w4_0, mx_w9_0, mx_w9_1, mx_kn_int, mx_kn_ref, mx_kn_null, Nat.reduceLT, ofn, n10, tp, lp, p2, p4, p5, p6, tp', lp', p2', p4', p5', p6', k1, k2, k3, k1', k2', k3', O2.isr, O4.isr, O5.isr, O2'.isr, O4'.isr, O5'.isr, S2, S4, S5, c1, c1', sz, sz', q4]
          rw [hG, LL]
          by_cases a5 : pit q = pit q'
          · rw [if_pos a5, if_pos ⟨a1, a2, a3, a5⟩]
          · rw [if_neg a5, if_neg (fun z => a5 z.2.2.2)]
        · rw [if_neg (fun z => a4 (by rw [z.2.2.2]))]
          have q4 : ¬ nI (pit q).length = nI (pit q').length := fun z => a4 ((nI_eq (by omega) (by omega)).mp z)
          simp only [g153_0, g153_1, g153_4, g153_5, g153_8, g153_11, g153_14, g153_15, g153_18, g153_19, g153_22, g153_25, g153_28, g153_29, g153_32, g153_33, g153_36, g153_39, g153_42, g153_43, g153_46, g153_49, g153_50, g153_53, g153_56, g153_59, g153_60, mx_isr_ref, mx_isr_null, mx_wt_nil, mx_wt_1, mx_wt_2, mx_wt_3, Option.bind_some, Option.toList_some, Option.toList_none, List.cons_append, List.nil_append, mx_nl_int, mx_nl_ref, mx_nl_null, mx_nl_none, mx_nb0, mx_nb1, mx_fb0, mx_fb1, mx_cat_int, mx_cat_ref, if_true, if_false, not_true_eq_false, not_false_eq_true, mx_wt_4, mx_w4_0, mx_w9_0, mx_w9_1, mx_kn_int, mx_kn_ref, mx_kn_null, Nat.reduceLT, ofn, n10, tp, lp, p2, p4, p5, p6, tp', lp', p2', p4', p5', p6', k1, k2, k3, k1', k2', k3', O2.isr, O4.isr, O5.isr, O2'.isr, O4'.isr, O5'.isr, S2, S4, S5, c1, c1', sz, sz', q4]
      · rw [if_neg (by simpa using a3)] at S5
        rw [if_neg (fun z => a3 z.2.2.1)]
        simp only [g153_0, g153_1, g153_4, g153_5, g153_8, g153_11, g153_14, g153_15, g153_18, g153_19, g153_22, g153_25, g153_28, g153_29, g153_32, g153_33, g153_36, g153_39, g153_42, g153_43, g153_46, g153_49, g153_50, g153_53, g153_56, g153_59, g153_60, mx_isr_ref, mx_isr_null, mx_wt_nil, mx_wt_1, mx_wt_2, mx_wt_3, Option.bind_some, Option.toList_some, Option.toList_none, List.cons_append, List.nil_append, mx_nl_int, mx_nl_ref, mx_nl_null, mx_nl_none, mx_nb0, mx_nb1, mx_fb0, mx_fb1, mx_cat_int, mx_cat_ref, if_true, if_false, not_true_eq_false, not_false_eq_true, mx_wt_4, mx_w4_0, mx_w9_0, mx_w9_1, mx_kn_int, mx_kn_ref, mx_kn_null, Nat.reduceLT, ofn, n10, tp, lp, p2, p4, p5, tp', lp', p2', p4', p5', k1, k2, k3, k1', k2', k3', O2.isr, O4.isr, O5.isr, O2'.isr, O4'.isr, O5'.isr, S2, S4, S5]
    · rw [if_neg (by simpa using a2)] at S4
      rw [if_neg (fun z => a2 z.2.1)]
      simp only [g153_0, g153_1, g153_4, g153_5, g153_8, g153_11, g153_14, g153_15, g153_18, g153_19, g153_22, g153_25, g153_28, g153_29, g153_32, g153_33, g153_36, g153_39, g153_42, g153_43, g153_46, g153_49, g153_50, g153_53, g153_56, g153_59, g153_60, mx_isr_ref, mx_isr_null, mx_wt_nil, mx_wt_1, mx_wt_2, mx_wt_3, Option.bind_some, Option.toList_some, Option.toList_none, List.cons_append, List.nil_append, mx_nl_int, mx_nl_ref, mx_nl_null, mx_nl_none, mx_nb0, mx_nb1, mx_fb0, mx_fb1, mx_cat_int, mx_cat_ref, if_true, if_false, not_true_eq_false, not_false_eq_true, mx_wt_4, mx_w4_0, mx_w9_0, mx_w9_1, mx_kn_int, mx_kn_ref, mx_kn_null, Nat.reduceLT, ofn, n10, tp, lp, p2, p4, tp', lp', p2', p4', k1, k2, k1', k2', O2.isr, O4.isr, O2'.isr, O4'.isr, S2, S4]
  · rw [if_neg (by simpa using a1)] at S2
    rw [if_neg (fun z => a1 z.1)]
    simp only [g153_0, g153_1, g153_4, g153_5, g153_8, g153_11, g153_14, g153_15, g153_18, g153_19, g153_22, g153_25, g153_28, g153_29, g153_32, g153_33, g153_36, g153_39, g153_42, g153_43, g153_46, g153_49, g153_50, g153_53, g153_56, g153_59, g153_60, mx_isr_ref, mx_isr_null, mx_wt_nil, mx_wt_1, mx_wt_2, mx_wt_3, Option.bind_some, Option.toList_some, Option.toList_none, List.cons_append, List.nil_append, mx_nl_int, mx_nl_ref, mx_nl_null, mx_nl_none, mx_nb0, mx_nb1, mx_fb0, mx_fb1, mx_cat_int, mx_cat_ref, if_true, if_false, not_true_eq_false, not_false_eq_true, mx_wt_4, mx_w4_0, mx_w9_0, mx_w9_1, mx_kn_int, mx_kn_ref, mx_kn_null, Nat.reduceLT, ofn, n10, tp, lp, p2, tp', lp', p2', k1, k1', O2.isr, O2'.isr, S2]
variable {x x2 A3 A4 : Nat} {bt : List Nat} {s : sto}
theorem jq_settle (C : cSt h x x2 A3 A4 bt s) (hid : ∀ p ∈ s.1, p.1 < 2 ^ 20) (hvr : ∀ p ∈ s.1, p.2.1 + 1 < 2 ^ 20) (hnd : (ids s.1).Nodup) {k p : Nat} {q : prs} (hk : k < s.1.length) (hq : q.1 = (pAt' s.1 k).1) (hp102 : 102 ≤ p) (hpM : fz (x :: mR x2 A3 A4) p) (P : plS (p :: x :: mR x2 A3 A4) h A3 s.1) (Q : PP (p :: x :: mR x2 A3 A4) h p q) :
    ∃ h', mx_G (d + 8) 152 0 [some (.ref 63), some (.int (nI k)), some (.ref p), none] [] h = some (some (.int (Int32.ofInt (s_set s (pAt' s.1 k) q).1)), h') ∧ cSt h' x x2 A3 A4 bt (s_set s (pAt' s.1 k) q).2 ∧ mdl h h' ∧ mw h' ≤ mw h + 16 := by
  obtain ⟨s1, s2, s3, s4, s5, s6, s7, s8, s9⟩ := pS_f C.2.2.1
  obtain ⟨r1, r2⟩ := cSt_R C
  obtain ⟨lq, CQ, FQ⟩ := id Q
  have hqb := hid _ (pAt_mem hk)
  have T := jq_taken (d := d + 1) C.2.2.1 P hid (q := q) (by omega) CQ
  obtain ⟨cp, es, L, hle, h8, PP1⟩ := P
  obtain ⟨l, pi, pv, ff, g1, tp, lp, p0, p1, p3, ti, li, i1, tv_, lv, v1, -, CO, FO⟩ := pl_get (d := d + 5) L hle PP1 hk
  have K := jp_like (d := d) Q (show PP (p :: x :: mR x2 A3 A4) h (es.getD k 0) (pAt' s.1 k) from ⟨l, CO, FO⟩)
  have t71 := (AL_f L).1
  have tQ := (PC_f CQ).1
  unfold s_set
  by_cases ct : tkn s.1 q = true
  · rw [if_pos ct] at T ⊢
    refine ⟨h, ?_, C, mdl.rfl h, by omega⟩
    simp only [g152_0, g152_1, g152_2, g152_5, g152_8, g152_11, mx_isr_ref, mx_isr_null, mx_wt_nil, mx_wt_1, mx_wt_2, mx_wt_3, Option.bind_some, Option.toList_some, Option.toList_none, List.cons_append, List.nil_append, mx_nl_int, mx_nl_ref, mx_nl_null, mx_nl_none, mx_nb0, mx_nb1, mx_fb0, mx_fb1, mx_cat_int, mx_cat_ref, if_true, if_false, not_true_eq_false, not_false_eq_true, mx_wt_4, mx_w4_0, mx_w9_0, mx_w9_1, mx_kn_int, mx_kn_ref, mx_kn_null, Nat.reduceLT, ofn, n10, s1, T]
    rfl
  · rw [if_neg ct] at T ⊢
    by_cases cl : pnm q = pnm (pAt' s.1 k) ∧ pag q = pag (pAt' s.1 k) ∧ pon q = pon (pAt' s.1 k) ∧ pit q = pit (pAt' s.1 k)
    · rw [if_pos cl] at K ⊢
      refine ⟨h, ?_, C, mdl.rfl h, by omega⟩
      simp only [g152_0, g152_1, g152_2, g152_5, g152_8, g152_11, g152_12, g152_13, g152_16, g152_17, g152_20n, g152_20, g152_23, g152_24, g152_25, g152_26, g152_29, g152_32, g152_33, g152_36, g152_39, mx_isr_ref, mx_isr_null, mx_wt_nil, mx_wt_1, mx_wt_2, mx_wt_3, Option.bind_some, Option.toList_some, Option.toList_none, List.cons_append, List.nil_append, mx_nl_int, mx_nl_ref, mx_nl_null, mx_nl_none, mx_nb0, mx_nb1, mx_fb0, mx_fb1, mx_cat_int, mx_cat_ref, if_true, if_false, not_true_eq_false, not_false_eq_true, mx_wt_4, mx_w4_0, mx_w9_0, mx_w9_1, mx_kn_int, mx_kn_ref, mx_kn_null, Nat.reduceLT, ofn, n10, s1, s2, s4, T, t71, g1, tp, tQ, K, lp, p1, tv_, lv, v1]
      rw [oI_nat]
    · rw [if_neg cl] at K ⊢
      have hvb := hvr _ (pAt_mem hk)
      have hn1 : nI (pAt' s.1 k).2.1 + 1 = nI ((pAt' s.1 k).2.1 + 1) := nI_1 _
      have hl := C.2.1
      -- the new version
      generalize hg1 : h ++ [((.inl 4 : Nat ⊕ FieldType), [Value.int 0, .int 0, .null, .null])] = g1' at *
      obtain ⟨h1, m1, m2, m3, m4, m5⟩ := jv_mkInt (d := d + 6) (h := h) (by omega) (nI ((pAt' s.1 k).2.1 + 1))
      rw [hg1] at m1
      have hpl : p < h.length := by obtain ⟨_, _, _, _, _, _, e1, _⟩ := CQ; exact ce_l e1
      have tvg : mx_tag g1' (es.getD k 0) = some (.inl 7) ∧ mx_ln g1' (es.getD k 0) = 7 ∧ mx_el g1' (es.getD k 0) 1 = .ref pv ∧ mx_tag g1' pv = some (.inl 4) ∧ mx_ln g1' pv = 4 ∧ mx_el g1' pv 1 = .int (nI (pAt' s.1 k).2.1) := by
        have a : es.getD k 0 ≠ h.length := by have := mx_tag_lt tp; omega
        have b : pv ≠ h.length := by have := mx_tag_lt tv_; omega
        rw [← hg1]
        refine ⟨by rw [mx_tag_app, if_neg a]; exact tp, by rw [mx_ln_app, if_neg a]; exact lp, by rw [mx_el_app, if_neg a]; exact p1, by rw [mx_tag_app, if_neg b]; exact tv_, by rw [mx_ln_app, if_neg b]; exact lv, by rw [mx_el_app, if_neg b]; exact v1⟩
      obtain ⟨z1, z2, z3, z4, z5, z6⟩ := tvg
      have tg1 : mx_tag g1' h.length = some (.inl 4) := by rw [← hg1, mx_tag_app, if_pos rfl]
      have E1 : Ex (p :: x :: mR x2 A3 A4) h (p :: x :: mR x2 A3 A4) h1 := Ex.fresh m3 (fun a ha => Or.inl ha)
      have CQ1 : PC (p :: x :: mR x2 A3 A4) h1 p lq q := CQ.ex E1 (m3.2 p hpl (by simp))
      have tQ1 := (PC_f CQ1).1
      have hnp : mt_nO ≤ p := by rw [show mt_nO = 63 by decide]; omega
      have E2 := Ex.up1 (h := h1) (k := 1) (v := .ref h.length) (show p ∈ p :: x :: mR x2 A3 A4 by simp)
      have fzN : fz (p :: x :: mR x2 A3 A4) h.length := ⟨by omega, fun z => by
        rcases List.mem_cons.mp z with y | y
        · omega
        · have := (r2 _ y).2; omega⟩
      have M63 : ∀ a ∈ p :: x :: mR x2 A3 A4, 63 ≤ a := fun a ha => by
        rcases List.mem_cons.mp ha with y | y
        · omega
        · exact (r2 _ y).1
      generalize hg2 : mx_up h1 p 1 (.ref h.length) = h2 at *
      have F12 : Fr [p] h1 h2 := by rw [← hg2]; exact Fr.up (by simp)
      have CQ2 : PC (p :: x :: mR x2 A3 A4) h2 p lq (sVr q ((pAt' s.1 k).2.1 + 1)) := by
        obtain ⟨i, v, n, f, a, o, e1, e2, e3, e4, e5, e6, e7⟩ := CQ1
        refine ⟨i, h.length, n, f, a, o, by rw [← hg2, c_up e1]; rfl, e2.ex E2, ⟨11, ?_, fzN, ?_⟩, e4.ex E2, e5.ex E2, e6.ex E2, e7.ex E2⟩
        · rw [F12.at m2 (by rw [List.mem_singleton]; omega), oI_nat]
          rfl
        · exact KS.str ((C.1.fr m3 (by simp)).fr F12 (by simp; omega)).1 M63 2 (by decide)
      have FQ2 := (FQ.ex E1).ex E2
      have L2 : AL h2 71 A3 cp es := AL_fr (AL_fr L m3 (by simp) (by simp)) F12 (by rw [List.mem_singleton]; omega) (by
        rw [List.mem_singleton]
        rintro rfl
        have := (AL_f (AL_fr L m3 (by simp) (by simp))).2.2.2.2.2.1
        rw [tQ1] at this
        cases this)
      have hpS2 : pS h2 s := F12.at (m3.at C.2.2.1 (by simp)) (by rw [List.mem_singleton]; omega)
      obtain ⟨u1, u2, u3, u4, -⟩ := pS_f hpS2
      obtain ⟨h3, b1, b2, b3, b4⟩ := jl_set (d := d + 5) L2 (show k < es.length by omega) (e := p) (Or.inl (PC_f CQ2).1)
      obtain ⟨hA63, -⟩ := AL_A L2 (show k < es.length by omega)
      have hm := C.2.2.2.2.2.2.2.2
      have hA2 : A3 ≠ 2 := by omega
      have hA102 : 102 ≤ A3 := by have := hm.2.1; omega
      have pA : p ≠ A3 := by
        rintro rfl
        have := (AL_f L2).2.2.2.2.2.1
        rw [(PC_f CQ2).1] at this
        cases this
      -- from the start to the end
      have F13 : Fr [p, A3] h h3 := ((m3.mono (F' := [p, A3]) (by simp)).trans F12 (fun a ha => Or.inl (by rw [List.mem_singleton] at ha; simp [ha]))).trans b3 (fun a ha => Or.inl (by rw [List.mem_singleton] at ha; simp [ha]))
      have EA : ∀ M0 : List Nat, p ∈ M0 → A3 ∈ M0 → (∀ a ∈ x :: mR x2 A3 A4, a ∈ M0) → Ex M0 h (x :: mR x2 A3 A4) h3 := fun M0 h1 h2 hs => F13.ex (fun a ha z => by
        simp only [List.mem_cons, List.not_mem_nil, or_false] at ha
        rcases ha with rfl | rfl
        · exact z.2 h1
        · exact z.2 h2) (fun a ha => Or.inl (hs a ha))
      have A3M : A3 ∈ x :: mR x2 A3 A4 := by unfold mR fA0; rw [if_neg hA2]; simp
      have E := EA (p :: x :: mR x2 A3 A4) (by simp) (List.mem_cons_of_mem _ A3M) (fun a ha => List.mem_cons_of_mem _ ha)
      have E23 : Ex (p :: x :: mR x2 A3 A4) h2 (x :: mR x2 A3 A4) h3 := b3.ex (fun a ha z => by rw [List.mem_singleton] at ha; rw [ha] at z; exact z.2 (List.mem_cons_of_mem _ A3M)) (fun a ha => Or.inl (List.mem_cons_of_mem _ ha))
      have Q3 : PP (x :: mR x2 A3 A4) h3 p (sVr q ((pAt' s.1 k).2.1 + 1)) := by
        have hp2 : p < h2.length := by obtain ⟨_, _, _, _, _, _, e1, _⟩ := CQ2; exact ce_l e1
        exact PP.ex ⟨lq, CQ2, FQ2⟩ E23 (b3.2 p hp2 (by rw [List.mem_singleton]; exact pA))
      have hpS3 : pS h3 s := b3.at hpS2 (by rw [List.mem_singleton]; omega)
      have key : plS (x :: mR x2 A3 A4) h3 A3 (s.1.set k (sVr q ((pAt' s.1 k).2.1 + 1))) := by
        refine ⟨cp, es.set k p, b2, by rw [List.length_set, List.length_set, hle], by rw [List.length_set]; exact h8, fun j hj => ?_⟩
        rw [List.length_set] at hj
        by_cases ej : j = k
        · subst ej
          have e1 : (es.set j p).getD j 0 = p := by simp [List.getD_eq_getElem?_getD, show j < es.length by omega]
          have e2 : pAt' (s.1.set j (sVr q ((pAt' s.1 j).2.1 + 1))) j = sVr q ((pAt' s.1 j).2.1 + 1) := by unfold pAt'; simp [List.getD_eq_getElem?_getD, hk]
          rw [e1, e2]
          exact ⟨Q3, hpM⟩
        · have e1 : (es.set k p).getD j 0 = es.getD j 0 := by simp [List.getD_eq_getElem?_getD, List.getElem?_set_ne (Ne.symm ej)]
          have e2 : pAt' (s.1.set k (sVr q ((pAt' s.1 k).2.1 + 1))) j = pAt' s.1 j := by unfold pAt'; simp [List.getD_eq_getElem?_getD, List.getElem?_set_ne (Ne.symm ej)]
          rw [e1, e2]
          obtain ⟨y1, y2⟩ := PP1 j hj
          have hp : es.getD j 0 < h.length := by obtain ⟨l, ⟨_, _, _, _, _, _, e1, _⟩, _⟩ := y1; exact ce_l e1
          exact ⟨y1.ex E (E.2 _ hp y2).1, (E.2 _ hp y2).2⟩
      have hps : pSet s.1 (sVr q ((pAt' s.1 k).2.1 + 1)) = s.1.set k (sVr q ((pAt' s.1 k).2.1 + 1)) := pSet_at _ _ _ hnd hk hq
      refine ⟨h3, ?_, ?_, F13.mdl hl (fun a ha => by simp only [List.mem_cons, List.not_mem_nil, or_false] at ha; omega), ?_⟩
      · obtain ⟨l3, C3, -⟩ := Q3
        obtain ⟨tp3, lp3, -, i3, v3, nn3, ff3, aa3, oo3, w0, w1, w2, w3, w4, w5, V13, V3, -⟩ := PC_f C3
        obtain ⟨s3', b3', f3', t3', l3', e0', e1', -⟩ := VC_f V3.vc
        rw [oI_nat] at e1'
        simp only [g152_0, g152_1, g152_2, g152_5, g152_8, g152_11, g152_12, g152_13, g152_16, g152_17, g152_20n, g152_20, g152_23, g152_24, g152_25, g152_26, g152_29, g152_32, g152_33, g152_36, g152_39, g152_40, g152_41, g152_44, g152_45, g152_46, g152_49, g152_52, g152_53, g152_54, g152_57, g152_60, g152_61, g152_64, g152_65, g152_66, g152_69, g152_70, g152_71, g152_74, g152_77, mx_isr_ref, mx_isr_null, mx_wt_nil, mx_wt_1, mx_wt_2, mx_wt_3, Option.bind_some, Option.toList_some, Option.toList_none, List.cons_append, List.nil_append, mx_nl_int, mx_nl_ref, mx_nl_null, mx_nl_none, mx_nb0, mx_nb1, mx_fb0, mx_fb1, mx_cat_int, mx_cat_ref, if_true, if_false, not_true_eq_false, not_false_eq_true, mx_wt_4, mx_w4_0, mx_w9_0, mx_w9_1, mx_kn_int, mx_kn_ref, mx_kn_null, Nat.reduceLT, ofn, n10, s1, s2, s4, T, t71, g1, tp, tQ, K, hg1, z1, z2, z3, z4, z5, z6, hn1, tg1, m1, tQ1, hnp, hg2, u1, u2, u4, (AL_f L2).1, b1, tp3, lp3, w1, t3', l3', e1']
        rw [oI_nat]
        rfl
      · -- the store again
        have hfA : fA 71 A3 = [71, A3] := by unfold fA; rw [if_neg hA2]
        -- the person's own place is no matter of the store
        have C1 : cSt h2 x x2 A3 A4 bt s := by
          have C1' := cSt_new C m3
          obtain ⟨K', hl', hp', hb', hpl', hf', hg', hw', hm'⟩ := C1'
          obtain ⟨ls, ks, ss, es', t, c, n, us, BB, r1', S, rn, rA, rx⟩ := id hb'
          have px : p ≠ x := fun z => hpM.2 (by rw [z]; simp)
          have px2 : p ≠ x2 := fun z => hpM.2 (by rw [z]; unfold mR; simp)
          obtain ⟨cp4, es4, L4, e4, n4⟩ := hf'
          obtain ⟨pl, gg1, gg2⟩ := hg'
          obtain ⟨n2, us2, S2, hx2⟩ := hw'
          have pA4 : p ≠ A4 := by
            rintro rfl
            have := (AL_f L4).2.2.2.2.2.1
            rw [tQ1] at this
            cases this
          refine ⟨K'.fr F12 (by simp; omega), Nat.le_trans hl' F12.1, hpS2, bufS_fr hb' F12 (fun a ha => by rw [List.mem_singleton] at ha; rw [ha]; exact ⟨by omega, px⟩), ?_, ⟨cp4, es4, AL_fr L4 F12 (by rw [List.mem_singleton]; omega) (by rw [List.mem_singleton]; exact Ne.symm pA4), fun e he => ⟨?_, (e4 e he).2⟩, n4⟩, ⟨pl, F12.at gg1 (by rw [List.mem_singleton]; omega), gg2⟩, ⟨n2, us2, SB_fr S2 F12 (by rw [List.mem_singleton]; omega) (by rw [List.mem_singleton]; exact Ne.symm px2), hx2⟩, hm'⟩
          · have E02 : Ex (p :: x :: mR x2 A3 A4) h (x :: mR x2 A3 A4) h2 := ((m3.mono (F' := [p]) (by simp)).trans F12 (fun a ha => Or.inl ha)).ex (fun a ha z => by rw [List.mem_singleton] at ha; exact z.2 (by rw [ha]; simp)) (fun a ha => Or.inl (List.mem_cons_of_mem _ ha))
            exact (show plS (p :: x :: mR x2 A3 A4) h A3 s.1 from ⟨cp, es, L, hle, h8, PP1⟩).ex E02 (by rw [F12.2 71 (by omega) (by rw [List.mem_singleton]; omega), m3.2 71 (by omega) (by simp)]) (by rw [F12.2 A3 (by have := ce_l L.2.1; omega) (by rw [List.mem_singleton]; exact Ne.symm pA), m3.2 A3 (ce_l L.2.1) (by simp)])
          · have := (e4 e he).1
            unfold elt at this ⊢
            rw [← hg2, mx_tag_up]
            exact this
        show cSt h3 x x2 A3 A4 bt (pSet s.1 (sVr q ((pAt' s.1 k).2.1 + 1)), s.2)
        rw [hps]
        exact cSt_ppl C1 (b3.mono (fun a ha => by rw [hfA]; rw [List.mem_singleton] at ha; rw [ha]; simp)) (Or.inl rfl) (Or.inr hA102) hpS3 key rfl
      · rw [b4, ← hg2, mw_up]
        omega
end
