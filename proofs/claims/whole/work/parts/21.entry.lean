theorem mx_artot {q : mt_AR} {args : Array Value} {s : State} {A : Nat → Prop} (hs : ∀ w ∈ mt_fl0, w.before args s = true) (hq : q ∈ mt_ar) (hl : q.2.2.length < 2 ^ 31) (hA : ∀ a : Nat, a < s.heap.size → ¬ A a) : ∃ t : Nat, (mx_art q).eval args s none [] s = some (.ref t) ∧ va_T q.2.1 t q.2.2.length (fun j => .int (q.2.2.getD j 0)) A s s.heap := by
  have hw : ∀ w ∈ mx_ara q, w.before args s = true := fun w h => hs w (mt_ara w (List.mem_flatMap.mpr ⟨q, hq, h⟩))
  refine va_Tof (f := fun j => .int (q.2.2.getD j 0)) hl (hw _ (by unfold mx_ara; simp)) (va_eqt (hw _ (by unfold mx_ara; simp))) (fun j hj => va_eqt (hw _ (by unfold mx_ara; simp only [List.mem_append, List.mem_map, List.mem_range]; exact Or.inr ⟨j, hj, rfl⟩))) hA
theorem mx_arz {q : mt_AR} {args : Array Value} {s : State} {A : Nat → Prop} {t : Nat} (hts : ∀ w ∈ mt_tbl, w.before args s = true) (hq : q ∈ mt_ar) (he : (mx_art q).eval args s none [] s = some (.ref t)) (hA : ∀ a : Nat, a < s.heap.size → ¬ A a) : va_Z q.1.1 q.1.2.1 q.1.2.2 (.ref t) A s s.heap := by
  have hw : ∀ w ∈ mx_arw q, w.before args s = true := fun w h => hts w (mt_arw w (List.mem_flatMap.mpr ⟨q, hq, h⟩))
  exact va_Zof (hw _ (by unfold mx_arw; simp)) (hw _ (by unfold mx_arw; simp)) he hA
theorem mx_RAprim {s : State} {cA : ClassId} {ty : FieldType} (h : ∀ C, ty ≠ .object C) (hf : s.vm.findClass ("[" ++ ty.toString) = some cA) : va_RA s cA ty := by
  cases ty <;> first | exact absurd rfl (h _) | exact hf
theorem mx_world {p : Program} {s : State} {m : MethodId} {meth : Method} {c : Code} {b L : Nat} {xs : Nat → Int32} (C0 : lw_At p s m meth c b L xs) :
    ∃ (D : va_G) (dA : FieldType → ClassId) (al : mx_A), mx_al al s.heap.size (mx_olds L xs).length ∧ al.1 0 = b ∧ mx_K D dA al s.heap.size s.heap (mx_olds L xs) s ∧ ∀ w ∈ mt_Ts, w.before #[Value.ref b] s = true := by
  obtain ⟨hx, hb, hr, hml, hown, hts0, hX, hbl, hlk, hgv⟩ := C0
  have hts := mx_hts hts0
  have hT : ∀ w ∈ mt_Ts, w.before #[Value.ref b] s = true := fun w hw => hts w (List.mem_filter.mp hw).1
  have hs : ∀ w ∈ mt_fl0, w.before #[Value.ref b] s = true := flat_of_before _ hgv
  have hA : ∀ a : Nat, a < s.heap.size → ¬ (fun x => s.heap.size ≤ x) a := fun a h z => by have z : s.heap.size ≤ a := z; omega
  -- the classes
  have hD : ∀ c : Nat, ∃ q : ClassId × (Nat → Nat), ∀ r, mt_cl[c]? = some r → u_Kn s r.1 r.2.1 r.2.2 q.1 q.2 := by
    intro c
    cases hc : mt_cl[c]? with
    | none => exact ⟨(0, fun _ => 0), fun r h => by cases h⟩
    | some r =>
      obtain ⟨q, hq, hrq, -⟩ := mt_cl_at hc
      have hi := hts _ (mt_insw _ (List.mem_map.mpr ⟨q, List.mem_of_getElem? hq, rfl⟩))
      subst hrq
      obtain ⟨cC, iS, h⟩ := u_known hT (mt_cls_ok hc).1 hi
      exact ⟨(cC, iS), fun r' h' => by cases h'; exact h⟩
  obtain ⟨fD, hfD⟩ := Classical.axiomOfChoice hD
  -- arrays
  have hAr : ∀ ty : FieldType, ∃ cA : ClassId, ty ∈ mt_ty → ArrOfT s cA ty ∧ va_RA s cA ty := by
    intro ty
    by_cases h1 : ty ∈ mt_na
    · obtain ⟨-, n2, -, n4⟩ := mt_na_ok h1
      obtain ⟨cA, kA, comp, hfind, hk, hkind⟩ := Cond.arrayClass_spec (hT _ n2)
      exact ⟨cA, fun _ => ⟨fun n z => ⟨(fun k h => by cases h), kA, hk, comp, hkind⟩, mx_RAprim n4 hfind⟩⟩
    · by_cases h2 : ty = .object "java/lang/Object"
      · subst h2
        obtain ⟨comp, cA, kA, f1, -, f3, f4, f5⟩ := Cond.arrayOver_spec (hts _ (mt_xsi _ (List.mem_cons_of_mem _ List.mem_cons_self)))
        exact ⟨cA, fun _ => ⟨fun n z => ⟨(fun k h => by cases h), kA, f3, comp, f4⟩, kA, comp, f3, f4, f1, f5⟩⟩
      · refine ⟨0, fun h => ?_⟩
        exfalso
        simp [mt_ty, mt_na] at h h1
        rcases h with h | h | h | h | h | h
        · exact h1.1 h
        · exact h1.2.1 h
        · exact h1.2.2.1 h
        · exact h1.2.2.2.1 h
        · exact h1.2.2.2.2 h
        · exact h2 h
  obtain ⟨dA, hdA⟩ := Classical.axiomOfChoice hAr
  -- static arrays
  have hSt : ∀ k : Nat, ∃ t : Nat, ∀ q, mt_ar[k]? = some q → (mx_art q).eval #[Value.ref b] s none [] s = some (.ref t) ∧ va_T q.2.1 t q.2.2.length (fun j => .int (q.2.2.getD j 0)) (fun x => s.heap.size ≤ x) s s.heap := by
    intro k
    cases hk : mt_ar[k]? with
    | none => exact ⟨0, fun q h => by cases h⟩
    | some q =>
      have hl : ∀ q ∈ mt_ar, q.2.2.length < 2 ^ 31 := by decide +kernel
      obtain ⟨t, ht⟩ := mx_artot hs (List.mem_of_getElem? hk) (hl q (List.mem_of_getElem? hk)) hA
      exact ⟨t, fun q' h' => by cases h'; exact ht⟩
  obtain ⟨tr, htr⟩ := Classical.axiomOfChoice hSt
  -- the class object
  obtain ⟨mir, hmir⟩ := va_Mi.of (hs _ (mt_mir _ List.mem_cons_self))
  -- strings
  have hStr : ∀ k : Nat, ∃ q : Nat × Nat, (k < mt_nT → (mx_stt (mt_sf.getD k ("", 0))).eval #[Value.ref b] s none [] s = some (.ref q.1) ∧ va_O "java/lang/String" q.1 (fun x => s.heap.size ≤ x) s s.heap ∧ va_OF "java/lang/String" "coder" "B" (.int 0) q.1 (fun x => s.heap.size ≤ x) s s.heap ∧ va_OF "java/lang/String" "value" "[B" (.ref q.2) q.1 (fun x => s.heap.size ≤ x) s s.heap ∧ va_T .byte q.2 (mt_tx.getD k []).length (fun j => .int ((mt_tx.getD k []).getD j 0)) (fun x => s.heap.size ≤ x) s s.heap) ∧ (k = 99 → q.1 = mir) := by
    intro k
    by_cases hk : k < mt_nT
    · have hw : ∀ w ∈ mx_sta k, w.before #[Value.ref b] s = true := fun w h => hs w (mt_sta w (List.mem_flatMap.mpr ⟨k, List.mem_range.mpr hk, h⟩))
      obtain ⟨q, hq⟩ := mx_strOf (tm := mx_stt (mt_sf.getD k ("", 0))) (mx_tx_len k hk) (hw _ (by unfold mx_sta; simp)) (hw _ (by unfold mx_sta; simp)) (hw _ (by unfold mx_sta mx_stv; simp)) (hw _ (by unfold mx_sta mx_stv; simp)) (fun j hj => hw _ (by unfold mx_sta mx_stv; simp only [List.mem_append, List.mem_map, List.mem_range]; exact Or.inr ⟨j, hj, rfl⟩)) hA
      exact ⟨q, fun _ => hq, fun h => absurd hk (by rw [h]; decide)⟩
    · exact ⟨(mir, 0), fun h => absurd h hk, fun _ => rfl⟩
  obtain ⟨ad, had0⟩ := Classical.axiomOfChoice hStr
  have had := fun k => (had0 k).1
  have had99 : (ad 99).1 = mir := (had0 99).2 rfl
  -- the formatter
  have hsio : ∃ o : Option Nat, va_Z "jdk/internal/util/Preconditions" "SIOOBE_FORMATTER" "Ljava/util/function/BiFunction;" (va_rf o) (fun x => s.heap.size ≤ x) s s.heap := by
    rcases va_Zqof (hts _ (mt_siow _ List.mem_cons_self)) (hts _ (mt_siow _ (List.mem_cons_of_mem _ List.mem_cons_self))) (hs _ (mt_sio _ List.mem_cons_self)) hA with h | ⟨t, h⟩
    · exact ⟨none, h⟩
    · exact ⟨some t, h⟩
  obtain ⟨o, hsio⟩ := hsio
  have hnO : mt_nO = 63 := rfl
  have hnT : mt_nT = 28 := rfl
  have trlt : ∀ k : Nat, k < 5 → tr k < s.heap.size := by
    intro k hk
    have : mt_ar.length = 5 := rfl
    obtain ⟨-, cell, h1, -⟩ := htr k _ (List.getElem?_eq_getElem (by omega))
    exact (Array.getElem?_eq_some_iff.mp h1).1
  have adlt : ∀ k : Nat, k < mt_nT → (ad k).1 < s.heap.size ∧ (ad k).2 < s.heap.size := by
    intro k hk
    obtain ⟨-, ⟨cell, h1, -⟩, -, -, ⟨cell2, h2, -⟩⟩ := had k hk
    exact ⟨(Array.getElem?_eq_some_iff.mp h1).1, (Array.getElem?_eq_some_iff.mp h2).1⟩
  have adinj : ∀ i j : Nat, i < mt_nT → j < mt_nT → (ad i).1 = (ad j).1 → i = j := by
    intro i j hi hj he
    obtain ⟨-, -, -, v1, t1⟩ := had i hi
    obtain ⟨-, -, -, v2, t2⟩ := had j hj
    rw [he] at v1
    obtain ⟨cf, k, fi, f, cell, a1, a2, a3, a4, a5, -⟩ := v1
    obtain ⟨cf', k', fi', f', cell', b1, b2, b3, b4, b5, -⟩ := v2
    cases a1.symm.trans b1
    cases a3.symm.trans b3
    have e2 : (ad i).2 = (ad j).2 := by
      have := a5.symm.trans b5
      simpa using this
    rw [e2] at t1
    exact mx_tx_inj i j hi hj (mx_T_eq t1 t2 (mx_tx_len i hi) (mx_tx_len j hj))
  have hlt : ∀ i : Nat, i < mt_nO → i ≠ 1 → mx_al0 b s.heap.size tr ad i < s.heap.size := by
    intro i hi hi1
    unfold mx_al0
    rw [if_neg (by omega)]
    split
    · exact hbl
    · skip
      · split
        · exact trlt _ (by omega)
        · split
          · exact (adlt _ (by omega)).1
          · exact (adlt _ (by omega)).2
  have hnew : ∀ i : Nat, mt_nO ≤ i → mx_al0 b s.heap.size tr ad i = s.heap.size + (i - mt_nO) := by
    intro i hi
    unfold mx_al0
    rw [if_pos hi]
  have hal : mx_al (mx_al0 b s.heap.size tr ad, o) s.heap.size (mx_olds L xs).length := by
    rw [mx_olds_len]
    refine ⟨fun i j hsep he => ?_, hnew, hlt⟩
    dsimp only at he
    unfold mx_sep at hsep
    simp only [Bool.or_eq_true, beq_iff_eq, decide_eq_true_eq, Bool.and_eq_true, Bool.not_eq_true', beq_eq_false_iff_ne, ne_eq] at hsep
    rcases hsep with hsep | ⟨hi1, hj1, hsep⟩
    · exact hsep
    by_cases hi : mt_nO ≤ i
    · by_cases hj : mt_nO ≤ j
      · rw [hnew i hi, hnew j hj] at he
        omega
      · have := hlt j (by omega) hj1
        rw [hnew i hi] at he
        omega
    · by_cases hj : mt_nO ≤ j
      · have := hlt i (by omega) hi1
        rw [hnew j hj] at he
        omega
      · rcases hsep with h | h | h
        · exact absurd h hi
        · exact absurd h hj
        · unfold mx_str at h
          simp only [Bool.and_eq_true, decide_eq_true_eq, beq_iff_eq] at h
          obtain ⟨⟨i1, i2⟩, j1, j2⟩ := h
          have ei : mx_al0 b s.heap.size tr ad i = (ad ((i - 7) / 2)).1 := by
            unfold mx_al0
            rw [if_neg hi, if_neg (by omega), if_neg (by omega), if_neg (by omega), if_pos i2]
          have ej : mx_al0 b s.heap.size tr ad j = (ad ((j - 7) / 2)).1 := by
            unfold mx_al0
            rw [if_neg hj, if_neg (by omega), if_neg (by omega), if_neg (by omega), if_pos j2]
          rw [ei, ej] at he
          have := adinj _ _ (by omega) (by omega) he
          omega
  refine ⟨(fun c => (fD c).1, fun c => (fD c).2), dA, (mx_al0 b s.heap.size tr ad, o), hal, (by show mx_al0 b s.heap.size tr ad 0 = b; unfold mx_al0; rw [if_neg (by rw [hnO]; omega), if_pos rfl]), ⟨fun c q hq => hfD c q hq, fun ty ht => hdA ty ht, fun i q hq => ?_, fun q hq => ?_, fun q hq => ?_, fun w hw => ?_, va_AO.of (hts _ (mt_xsi _ (List.mem_cons_of_mem _ List.mem_cons_self))), rfl, ?_, va_Dc.of (hts _ (mt_dcw _ List.mem_cons_self))⟩, hT⟩
  · -- the old cells
    have hil : i < 63 := by
      have := (List.getElem?_eq_some_iff.mp hq).1
      rw [mx_olds_len] at this
      exact this
    by_cases i0 : i = 0
    · subst i0
      have e0 : mx_scr L xs = q := Option.some.inj hq
      subst e0
      obtain ⟨scr, s1, s2, s3, s4, s5⟩ := hX
      have ea : mx_al0 b s.heap.size tr ad 0 = b := by unfold mx_al0; rw [if_neg (by rw [hnO]; omega), if_pos rfl]
      show mx_old _ _ _ (mx_al0 b s.heap.size tr ad 0) s s.heap
      rw [ea]
      refine ⟨scr, s1, s2, s3, (by rw [s4]; simp [mx_scr]), (by rw [s4]; simp [mx_scr]), fun j v hj => ?_⟩
      simp only [mx_scr, List.getElem?_map, Option.map_eq_some_iff] at hj
      obtain ⟨x, hx', rfl⟩ := hj
      have hjl := (List.getElem?_eq_some_iff.mp hx').1
      rw [List.length_range] at hjl
      rw [List.getElem?_range hjl] at hx'
      cases hx'
      exact s5 j hjl
    · have hq' : mt_old[i - 1]? = some q := by
        have : (mx_olds L xs)[i - 1 + 1]? = some q := by rw [show i - 1 + 1 = i by omega]; exact hq
        exact this
      show mx_old _ _ _ (mx_al0 b s.heap.size tr ad i) s s.heap
      by_cases i7 : i < 7
      · have harr : ∀ k : Nat, i = k + 2 → k < 5 → ∀ r, mt_ar[k]? = some r → mt_old[k + 1]? = some (.inr r.2.1, r.2.2.map Value.int) → mx_old (fun c => (fD c).1, fun c => (fD c).2) (mx_al0 b s.heap.size tr ad, o) q (mx_al0 b s.heap.size tr ad i) s s.heap := by
          intro k hk hk5 r hr' ho'
          have ea : mx_al0 b s.heap.size tr ad i = tr k := by
            unfold mx_al0
            rw [if_neg (by omega), if_neg (by omega), if_neg (by omega), if_pos i7, show i - 2 = k by omega]
          rw [ea]
          rw [show i - 1 = k + 1 by omega, ho'] at hq'
          cases hq'
          exact mx_oldT (htr k r hr').2
        have hcase : i = 1 ∨ i = 2 ∨ i = 3 ∨ i = 4 ∨ i = 5 ∨ i = 6 := by omega
        obtain ⟨o1, o2, o3, o4, o5⟩ := mt_old_arr
        rcases hcase with h | h | h | h | h | h
        · subst h
          have e0 : ((.inl 99, []) : mx_C) = q := Option.some.inj hq'
          subst e0
          exact Or.inl rfl
        · exact harr 0 h (by omega) _ rfl o1
        · exact harr 1 h (by omega) _ rfl o2
        · exact harr 2 h (by omega) _ rfl o3
        · exact harr 3 h (by omega) _ rfl o4
        · exact harr 4 h (by omega) _ rfl o5
      · by_cases hp : i % 2 = 1
        · have hk : (i - 7) / 2 < mt_nT := by omega
          obtain ⟨o1, -⟩ := mt_old_str _ hk
          rw [show i - 1 = 6 + 2 * ((i - 7) / 2) by omega, o1] at hq'
          cases hq'
          have ea : mx_al0 b s.heap.size tr ad i = (ad ((i - 7) / 2)).1 := by
            unfold mx_al0
            rw [if_neg (by omega), if_neg (by omega), if_neg (by omega), if_neg (by omega), if_pos hp]
          have ev : mx_al0 b s.heap.size tr ad (8 + 2 * ((i - 7) / 2)) = (ad ((i - 7) / 2)).2 := by
            unfold mx_al0
            rw [if_neg (by omega), if_neg (by omega), if_neg (by omega), if_neg (by omega), if_neg (by omega), show (8 + 2 * ((i - 7) / 2) - 8) / 2 = (i - 7) / 2 by omega]
          rw [ea]
          obtain ⟨-, ⟨cell, c1, c2, c3, -⟩, ⟨cf, kf, fi, f, cell2, d1, d2, d3, d4, d5, -⟩, ⟨cf', kf', fi', f', cell3, g1, g2, g3, g4, g5, -⟩, -⟩ := had _ hk
          cases c1.symm.trans d3
          cases c1.symm.trans g3
          have hr5 : mt_cl[5]? = some (mt_c1 ("java/lang/String", (mt_cq 5))) := rfl
          obtain ⟨kS, kfc, -⟩ := hfD 5 _ hr5
          refine Or.inr ⟨_, cell, hr5, rfl, c1, c2, d4, Option.some.inj (c3.symm.trans kfc), fun k v hv hkn => ?_⟩
          match k, hv with
          | 0, hv =>
            cases hv
            obtain ⟨x1, x2, x3, x4, y1, y2⟩ := kS 0 (by decide +kernel)
            cases y1.symm.trans g1
            show cell.slots[(fD 5).2 0]? = some (.ref (mx_al0 b s.heap.size tr ad (8 + 2 * ((i - 7) / 2))))
            rw [ev, ← y2]
            exact g5
          | 1, hv =>
            cases hv
            obtain ⟨x1, x2, x3, x4, y1, y2⟩ := kS 1 (by decide +kernel)
            cases y1.symm.trans d1
            show cell.slots[(fD 5).2 1]? = some (.int 0)
            rw [← y2]
            exact d5
          | 2, hv => cases hv; cases hkn
          | 3, hv => cases hv; cases hkn
          | k + 4, hv => simp at hv
        · have hk : (i - 8) / 2 < mt_nT := by omega
          obtain ⟨-, o2⟩ := mt_old_str _ hk
          rw [show i - 1 = 7 + 2 * ((i - 8) / 2) by omega, o2] at hq'
          cases hq'
          have ea : mx_al0 b s.heap.size tr ad i = (ad ((i - 8) / 2)).2 := by
            unfold mx_al0
            rw [if_neg (by omega), if_neg (by omega), if_neg (by omega), if_neg (by omega), if_neg hp]
          rw [ea]
          exact mx_oldT (had _ hk).2.2.2.2
  · -- the statics
    have hint : ∀ z ∈ mt_si, va_Z z.1 z.2.1 z.2.2.1 (.int z.2.2.2) (fun x => s.heap.size ≤ x) s s.heap := by
      intro z hz
      exact va_Zof (hts _ (mt_siw _ (List.mem_flatMap.mpr ⟨z, hz, List.mem_cons_self⟩))) (hts _ (mt_siw _ (List.mem_flatMap.mpr ⟨z, hz, List.mem_cons_of_mem _ List.mem_cons_self⟩))) (va_eqi (hs _ (mt_sia _ (List.mem_map.mpr ⟨z, hz, rfl⟩)))) hA
    have har : ∀ k : Nat, k < 5 → ∀ r, mt_ar[k]? = some r → va_Z r.1.1 r.1.2.1 r.1.2.2 (mx_tr (mx_al0 b s.heap.size tr ad, o) (.ref (k + 2))) (fun x => s.heap.size ≤ x) s s.heap := by
      intro k hk r hr'
      have ea : mx_al0 b s.heap.size tr ad (k + 2) = tr k := by
        unfold mx_al0
        rw [if_neg (by omega), if_neg (by omega), if_neg (by omega), if_pos (by omega), show k + 2 - 2 = k by omega]
      show va_Z _ _ _ (.ref (mx_al0 b s.heap.size tr ad (k + 2))) _ s s.heap
      rw [ea]
      exact mx_arz hts (List.mem_of_getElem? hr') (htr k r hr').1 hA
    unfold mt_st at hq
    simp only [List.mem_cons, List.not_mem_nil, or_false] at hq
    rcases hq with rfl | rfl | rfl | rfl | rfl | rfl | rfl | rfl | rfl | rfl
    · exact hint ("java/lang/String", "COMPACT_STRINGS", "Z", 1) (by decide)
    · exact har 0 (by omega) _ rfl
    · exact hsio
    · exact har 1 (by omega) _ rfl
    · exact har 2 (by omega) _ rfl
    · exact har 3 (by omega) _ rfl
    · exact har 4 (by omega) _ rfl
    · exact hint ("java/lang/StringUTF16", "$assertionsDisabled", "Z", 1) (by decide)
    · exact hint ("java/lang/StringUTF16", "HI_BYTE_SHIFT", "I", 0) (by decide)
    · exact hint ("java/lang/StringUTF16", "LO_BYTE_SHIFT", "I", 8) (by decide)
  · -- the String constants
    obtain ⟨k, hk, hp, hor⟩ := mt_ksd q hq
    have ea : mx_al0 b s.heap.size tr ad q.2.2.2 = (ad k).1 := by
      unfold mx_al0
      rw [hp, if_neg (by omega), if_neg (by omega), if_neg (by omega), if_neg (by omega), if_pos (by omega), show (7 + 2 * k - 7) / 2 = k by omega]
    show vk_R _ _ _ (mx_al0 b s.heap.size tr ad q.2.2.2) s
    rw [ea]
    refine vk_R.of (hts _ (mt_ksr _ (List.mem_map.mpr ⟨q, hq, rfl⟩))) ?_
    have hfirst := (had k (by omega)).1
    rcases hor with h | h
    · rw [h] at hfirst
      exact hfirst
    · have hw : ∀ w ∈ ([.eq (mx_stt (mt_sf.getD k ("", 0))) (mx_stt (q.1, q.2.1)), .exactly (mx_stt (q.1, q.2.1)) "java/lang/String"] : List Cond), w.before #[Value.ref b] s = true := fun w hw => hs w (mt_dua w (List.mem_flatMap.mpr ⟨_, h, hw⟩))
      obtain ⟨a, c', cA, kA, q1, -⟩ := Cond.exactly_spec (hw _ (List.mem_cons_of_mem _ List.mem_cons_self))
      have he := hw _ List.mem_cons_self
      have : (ad k).1 = a := by
        simp only [Cond.before, Cond.holds, Cond.value, hfirst, q1] at he
        simpa using he
      rw [this]
      exact q1
  · -- nest mates, casts
    have hw2 := List.mem_filter.mp hw
    have hon : w.onTables = true := by
      have hn := hw2.2
      cases w <;> first | rfl | (simp [mx_nest] at hn; done)
    exact va_Nw.of hon (hts w hw2.1)
  · -- the class object
    have ea : mx_al0 b s.heap.size tr ad 1 = mir := by
      unfold mx_al0
      rw [if_neg (by omega), if_neg (by omega), if_pos rfl, had99]
    show va_Mi _ (mx_al0 b s.heap.size tr ad 1) s
    rw [ea]
    exact hmir
