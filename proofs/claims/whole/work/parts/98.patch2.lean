section
variable {d : Nat} {h : mx_H} {ts : List tk}
theorem rTg_bd {c k : Nat} {q : (Nat × cdP) × Nat} (hk : k ≤ ts.length) (hq : rTg ts c k = some q) : k ≤ q.2 ∧ q.2 ≤ ts.length ∧ (c = 45 → k < q.2) := by
  unfold rTg at hq
  split at hq
  · rename_i z; cases hq; exact ⟨Nat.le_refl _, hk, fun e => absurd e z.2⟩
  · split at hq
    · split at hq
      · cases hq
      · rename_i z1 z2
        cases hq
        have kl : k < ts.length := by
          rcases Nat.lt_or_ge k ts.length with y | y
          · exact y
          · exfalso
            apply z2
            have w0 : ∀ w, tW ts k w = false := fun w => by unfold tW; rw [tA_geP y]; rfl
            unfold pAt
            simp [w0]
        exact ⟨Nat.le_succ k, kl, fun _ => Nat.lt_succ_self k⟩
    · rename_i z1
      have kl : k < ts.length := tW_lt (by simpa using z1)
      have tail : ∀ b : (Nat × cdP) × Nat, k < b.2 → b.2 ≤ ts.length → (if tI ts b.2 46 = false then some b else if tW ts (b.2 + 1) w_v = true then some ((b.1.1 + 1, b.1.2), b.2 + 2) else if tW ts (b.2 + 1) w_p = true then some ((b.1.1 + 2, b.1.2), b.2 + 2) else none) = some q → k ≤ q.2 ∧ q.2 ≤ ts.length ∧ (c = 45 → k < q.2) := by
        intro b h1 h2 h3
        split at h3
        · cases h3; exact ⟨by omega, h2, fun _ => h1⟩
        · split at h3
          · rename_i y; cases h3; have := tW_lt y; exact ⟨by show k ≤ b.2 + 2; omega, by show b.2 + 2 ≤ _; omega, fun _ => by show k < b.2 + 2; omega⟩
          · split at h3
            · rename_i y; cases h3; have := tW_lt y; exact ⟨by show k ≤ b.2 + 2; omega, by show b.2 + 2 ≤ _; omega, fun _ => by show k < b.2 + 2; omega⟩
            · cases h3
      split at hq
      · cases zc : cF ts 5 true (k + 2) with
        | none => rw [zc] at hq; cases hq
        | some b =>
          rw [zc] at hq
          simp only [Option.bind_some] at hq
          have bd := cO_bd _ _ _ _ zc
          by_cases y : tI ts b.2 93 = true
          · rw [if_pos y] at hq
            have := tI_lt (by decide) y
            exact tail ((9, b.1), b.2 + 1) (by show k < b.2 + 1; omega) (by show b.2 + 1 ≤ _; omega) hq
          · rw [if_neg y] at hq; cases hq
      · exact tail ((6, nof), k + 1) (Nat.lt_succ_self k) kl hq
theorem rOp_bd {k : Nat} {q : opr × Nat} (hq : rOp ts k = some q) : k + 2 ≤ q.2 ∧ q.2 ≤ ts.length := by
  unfold rOp at hq
  split at hq
  · cases hq
  · rename_i z
    have kl : k < ts.length := by
      rcases Nat.lt_or_ge k ts.length with y | y
      · exact y
      · exfalso
        apply z
        unfold tI
        rw [tA_geP y]
        decide
    cases zt : rTg ts (tA ts k).1 (k + 1) with
    | none => rw [zt] at hq; cases hq
    | some b =>
      rw [zt] at hq
      obtain ⟨b1, b2, b3⟩ := rTg_bd (by omega) zt
      simp only [Option.bind_some] at hq
      split at hq
      · rename_i c; cases hq; have := b3 c; exact ⟨by show k + 2 ≤ b.2; omega, b2⟩
      · split at hq
        · cases hq
        · cases zv : pV ts 3 (b.2 + 1) with
          | none => rw [zv] at hq; cases hq
          | some e =>
            rw [zv] at hq; cases hq
            have := pE_bd _ _ _ (pV_pE 3 _ _ (by omega) zv)
            exact ⟨by show k + 2 ≤ e; omega, this.2⟩
def oprR (h : mx_H) (ts : List tk) (out : List stp) (j : Nat) (q : opr) : Prop := (q.1 = 43 ∨ q.1 = 45 ∨ q.1 = 61) ∧ mi h 93 j = nI q.1 ∧ tgR h ts out j (q.2.1, q.2.2.1) ∧ (q.1 = 45 → q.2.1 ≠ 0) ∧ (q.1 ≠ 45 → mi h 97 j = nI q.2.2.2 ∧ vOk ts q.2.2.2)
def opsR (h : mx_H) (ts : List tk) (out : List stp) (l : List opr) : Prop := mi h 76 26 = nI l.length ∧ outR h out ∧ ∀ j (hj : j < l.length), oprR h ts out j l[j]
theorem tgR_keep {h h' : mx_H} {out o' : List stp} {j : Nat} {q : Nat × cdP} (G : tgR h ts out j q) (e1 : mi h' 94 j = mi h 94 j) (e2 : mi h' 95 j = mi h 95 j) (e3 : mi h' 96 j = mi h 96 j) : tgR h' ts (out ++ o') j q := by
  refine ⟨e1.trans G.1, G.2.1, fun z => ?_⟩
  obtain ⟨low, a, b, c, e, f⟩ := G.2.2 z
  refine ⟨low, e2.trans a, e3.trans b, by rw [List.length_append]; omega, fun i hi => ?_, f⟩
  rw [← e i hi]
  unfold sG
  rw [List.getD_eq_getElem?_getD, List.getD_eq_getElem?_getD, List.getElem?_append_left (by omega)]
theorem rTg_0 {k : Nat} {q : (Nat × cdP) × Nat} (hq : rTg ts 45 k = some q) : q.1.1 ≠ 0 := by
  unfold rTg at hq
  rw [if_neg (fun z => z.2 rfl)] at hq
  split at hq
  · split at hq
    · cases hq
    · rename_i z; cases hq; exact z
  · have tail : ∀ b : (Nat × cdP) × Nat, 6 ≤ b.1.1 → (if tI ts b.2 46 = false then some b else if tW ts (b.2 + 1) w_v = true then some ((b.1.1 + 1, b.1.2), b.2 + 2) else if tW ts (b.2 + 1) w_p = true then some ((b.1.1 + 2, b.1.2), b.2 + 2) else none) = some q → q.1.1 ≠ 0 := by
      intro b h1 h3
      split at h3
      · cases h3; omega
      · split at h3
        · cases h3; show b.1.1 + 1 ≠ 0; omega
        · split at h3
          · cases h3; show b.1.1 + 2 ≠ 0; omega
          · cases h3
    split at hq
    · cases zc : cF ts 5 true (k + 2) with
      | none => rw [zc] at hq; cases hq
      | some b =>
        rw [zc] at hq
        simp only [Option.bind_some] at hq
        by_cases y : tI ts b.2 93 = true
        · rw [if_pos y] at hq
          exact tail ((9, b.1), b.2 + 1) (by show 6 ≤ 9; decide) hq
        · rw [if_neg y] at hq; cases hq
    · exact tail ((6, nof), k + 1) (Nat.le_refl _) hq
theorem rm_readOp (S : rm_TK h ts) {k : Nat} (hk : k ≤ ts.length) {out : List stp} {l : List opr} (P : opsR h ts out l) (h3 : 3 * l.length ≤ k) (ho : out.length ≤ k) :
    ∃ h' o', mx_G (d + 6) 289 0 [some (.ref 76), some (.int (nI k)), none] [] h = some (some (.int (match rOp ts k with | some q => nI q.2 | none => -1)), h') ∧ mf Pop h h' ∧ ∀ q, rOp ts k = some q → opsR h' ts (out ++ o') (l ++ [q.1]) ∧ (out ++ o').length ≤ q.2 := by
  have T := S.1.1
  have hl := S.1.2.1
  have i0 := rm_isF (d := d + 5) S.1 (t := k) (by omega)
  obtain ⟨p26, pO, pR⟩ := P
  unfold rOp
  by_cases cs : tI ts k 43 = false ∧ tI ts k 45 = false ∧ tI ts k 61 = false
  · rw [if_pos cs]
    refine ⟨h, [], ?_, mf_rfl T, fun q hq => by cases hq⟩
    simp only [r289_0, r289_1, r289_2, r289_4, r289_7, r289_10, r289_11, r289_12, r289_14, r289_17, r289_20, r289_21, r289_22, r289_24, r289_27, r289_30, r289_31, mx_isr_ref, mx_isr_null, mx_wt_nil, mx_wt_1, mx_wt_2, mx_wt_3, Option.bind_some, Option.toList_some, Option.toList_none, List.cons_append, List.nil_append, mx_nl_int, mx_nl_ref, mx_nl_null, mx_nl_none, mx_nb0, mx_nb1, mx_fb0, mx_fb1, mx_cat_int, mx_cat_ref, if_true, if_false, not_true_eq_false, not_false_eq_true, T, i0, cs.1, cs.2.1, cs.2.2, Bool.false_eq_true]
  · rw [if_neg cs]
    have cc : (tA ts k).1 = 43 ∨ (tA ts k).1 = 45 ∨ (tA ts k).1 = 61 := by
      rcases Decidable.em ((tA ts k).1 = 43) with a | a
      · exact Or.inl a
      · rcases Decidable.em ((tA ts k).1 = 45) with b | b
        · exact Or.inr (Or.inl b)
        · rcases Decidable.em ((tA ts k).1 = 61) with c | c
          · exact Or.inr (Or.inr c)
          · exact absurd ⟨tI_ne.2 a, tI_ne.2 b, tI_ne.2 c⟩ cs
    have kl : k < ts.length := by
      rcases cc with e | e | e
      · exact tI_lt (by decide) (tI_eq.2 e)
      · exact tI_lt (by decide) (tI_eq.2 e)
      · exact tI_lt (by decide) (tI_eq.2 e)
    have hk' := S.1.2.2.2 k kl
    rw [show ts.getD k (0, []) = tA ts k from rfl] at hk'
    have cd : ml h 82 k = lN (tA ts k).1 := by
      rcases hk' with ⟨a, -⟩ | ⟨a, -⟩ | ⟨a, -⟩ | ⟨-, -, -, e⟩
      · omega
      · omega
      · omega
      · exact e
    have c128 : (tA ts k).1 < 128 := by omega
    have k1 : (nI k).toNatClampNeg = k := nI_clamp (by omega)
    have k2 : (0 : Int32) ≤ nI k := nI_pos' (by omega)
    have k3 : k < 130 := by omega
    have j1 : (nI l.length).toNatClampNeg = l.length := nI_clamp (by omega)
    have j2 : (0 : Int32) ≤ nI l.length := nI_pos' (by omega)
    have j3 : l.length < 60 := by omega
    have m1 : mf Pop h (mx_up h 93 l.length (.int (nI (tA ts k).1))) := mf_up (mf_rfl T) (by decide) rfl
    have T1 := m1.1
    have o1 : ∀ a, a ≠ 93 → ∀ i, mi (mx_up h 93 l.length (.int (nI (tA ts k).1))) a i = mi h a i := fun a ha i => mi_o ha _ _
    have r93 : ∀ i, mi (mx_up h 93 l.length (.int (nI (tA ts k).1))) 93 i = if i = l.length then nI (tA ts k).1 else mi h 93 i := fun i => mi_a T mr_ty_93 j3 _ i
    have O1 : outR (mx_up h 93 l.length (.int (nI (tA ts k).1))) out := ⟨by rw [o1 76 (by decide)]; exact pO.1, fun i hi => stpR_keep (pO.2 i hi) (o1 85 (by decide) i) (o1 86 (by decide) i) (ml_upI _ _ _ _ _ _ (by decide)) (o1 87 (by decide) i) (o1 88 (by decide) i)⟩
    obtain ⟨h2, o', r2, m2, f26, f93, f9, f97, g2⟩ := rm_readTarget (d := d) (TK_mf S m1 tkop) (c := (tA ts k).1) (k := k + 1) (j := l.length) c128 (by omega) j3 (by rw [o1 76 (by decide)]; exact p26) (by rw [r93, if_pos rfl]) O1 (by omega)
    have m2' := mf_trans m1 m2
    have T2 := m2.1
    have S2 := TK_mf S m2' tkop
    have st : mx_G (d + 6) 289 0 [some (.ref 76), some (.int (nI k)), none] [] h = mx_G (d + 6) 289 55 [some (.ref 76), some (.int (nI k)), none] [.int (match rTg ts (tA ts k).1 (k + 1) with | some q => nI q.2 | none => -1)] h2 := by
      have pre : mx_G (d + 6) 289 0 [some (.ref 76), some (.int (nI k)), none] [] h = mx_G (d + 6) 289 32 [some (.ref 76), some (.int (nI k)), none] [] h := by
        cases z1 : tI ts k 43 with
        | true => simp only [r289_0, r289_1, r289_2, r289_4, r289_7, r289_10, r289_11, r289_12, r289_14, r289_17, r289_20, r289_21, r289_22, r289_24, r289_27, mx_isr_ref, mx_isr_null, mx_wt_nil, mx_wt_1, mx_wt_2, mx_wt_3, Option.bind_some, Option.toList_some, Option.toList_none, List.cons_append, List.nil_append, mx_nl_int, mx_nl_ref, mx_nl_null, mx_nl_none, mx_nb0, mx_nb1, mx_fb0, mx_fb1, mx_cat_int, mx_cat_ref, if_true, if_false, not_true_eq_false, not_false_eq_true, T, i0, z1, show ¬ (1 : Int32) = 0 by decide]
        | false =>
          cases z2 : tI ts k 45 with
          | true => simp only [r289_0, r289_1, r289_2, r289_4, r289_7, r289_10, r289_11, r289_12, r289_14, r289_17, r289_20, r289_21, r289_22, r289_24, r289_27, mx_isr_ref, mx_isr_null, mx_wt_nil, mx_wt_1, mx_wt_2, mx_wt_3, Option.bind_some, Option.toList_some, Option.toList_none, List.cons_append, List.nil_append, mx_nl_int, mx_nl_ref, mx_nl_null, mx_nl_none, mx_nb0, mx_nb1, mx_fb0, mx_fb1, mx_cat_int, mx_cat_ref, if_true, if_false, not_true_eq_false, not_false_eq_true, T, i0, z1, z2, Bool.false_eq_true, show ¬ (1 : Int32) = 0 by decide]
          | false =>
            have z3 : tI ts k 61 = true := by rcases Bool.eq_false_or_eq_true (tI ts k 61) with e | e; exact e; exact absurd ⟨z1, z2, e⟩ cs
            simp only [r289_0, r289_1, r289_2, r289_4, r289_7, r289_10, r289_11, r289_12, r289_14, r289_17, r289_20, r289_21, r289_22, r289_24, r289_27, mx_isr_ref, mx_isr_null, mx_wt_nil, mx_wt_1, mx_wt_2, mx_wt_3, Option.bind_some, Option.toList_some, Option.toList_none, List.cons_append, List.nil_append, mx_nl_int, mx_nl_ref, mx_nl_null, mx_nl_none, mx_nb0, mx_nb1, mx_fb0, mx_fb1, mx_cat_int, mx_cat_ref, if_true, if_false, not_true_eq_false, not_false_eq_true, T, i0, z1, z2, z3, Bool.false_eq_true, show ¬ (1 : Int32) = 0 by decide]
      rw [pre]
      simp only [r289_32, r289_33, r289_36, r289_37, r289_40, r289_41, r289_44, r289_45, r289_46, r289_47, r289_48, r289_49, r289_50, r289_51, r289_52, mx_isr_ref, mx_isr_null, mx_wt_nil, mx_wt_1, mx_wt_2, mx_wt_3, Option.bind_some, Option.toList_some, Option.toList_none, List.cons_append, List.nil_append, mx_nl_int, mx_nl_ref, mx_nl_null, mx_nl_none, mx_nb0, mx_nb1, mx_fb0, mx_fb1, mx_cat_int, mx_cat_ref, if_true, if_false, not_true_eq_false, not_false_eq_true, T, T1, p26, mr_ty_77, mr_n_77, mr_isI_77, mr_ty_78, mr_n_78, mr_isI_78, mr_ty_79, mr_n_79, mr_isI_79, mr_ty_80, mr_n_80, mr_isI_80, mr_ty_81, mr_n_81, mr_isI_81, mr_ty_82, mr_n_82, mr_isJ_82, mr_ty_83, mr_n_83, mr_isI_83, mr_ty_84, mr_n_84, mr_isI_84, mr_ty_85, mr_n_85, mr_isI_85, mr_ty_86, mr_n_86, mr_isI_86, mr_ty_87, mr_n_87, mr_isI_87, mr_ty_88, mr_n_88, mr_isI_88, mr_ty_89, mr_n_89, mr_isJ_89, mr_ty_90, mr_n_90, mr_isI_90, mr_ty_91, mr_n_91, mr_isI_91, mr_ty_92, mr_n_92, mr_isI_92, mr_ty_93, mr_n_93, mr_isI_93, mr_ty_94, mr_n_94, mr_isI_94, mr_ty_95, mr_n_95, mr_isI_95, mr_ty_96, mr_n_96, mr_isI_96, mr_ty_97, mr_n_97, mr_isI_97, mr_ty_98, mr_n_98, mr_isI_98, mr_ty_99, mr_n_99, mr_isI_99, mr_ty_100, mr_n_100, mr_isI_100, mr_ty_101, mr_n_101, mr_isI_101, mr_isF_1, mr_isF_3, mr_isF_4, mr_isF_10, mr_isF_12, mr_isF_18, mr_isF_19, mr_isF_21, mr_isF_22, mr_isF_23, mr_isF_26, mr_isF_34, mr_isF_37, mr_isF_38, mr_isF_39, mr_T_up, mr_T_upJ, mr_T_f, k1, k2, k3, cd, lN_i, j1, j2, j3, nI_1, r2]
      cases rTg ts (tA ts k).1 (k + 1) <;> rfl
    rw [st]
    cases zt : rTg ts (tA ts k).1 (k + 1) with
    | none =>
      refine ⟨h2, [], ?_, m2', fun q hq => by simp at hq⟩
      simp only [r289_55, r289_56, r289_57, r289_60, r289_61, mx_isr_ref, mx_isr_null, mx_wt_nil, mx_wt_1, mx_wt_2, mx_wt_3, Option.bind_some, Option.toList_some, Option.toList_none, List.cons_append, List.nil_append, mx_nl_int, mx_nl_ref, mx_nl_null, mx_nl_none, mx_nb0, mx_nb1, mx_fb0, mx_fb1, mx_cat_int, mx_cat_ref, if_true, if_false, not_true_eq_false, not_false_eq_true, show ¬ (0 : Int32) ≤ -1 by decide]
      rfl
    | some b =>
      obtain ⟨b1, b2, b3⟩ := rTg_bd (by omega) zt
      obtain ⟨gO, gT, gL⟩ := g2 b zt
      have n1 : (0 : Int32) ≤ nI b.2 := nI_pos' (by omega)
      have q93 : mi h2 93 l.length = nI (tA ts k).1 := by rw [f93, r93, if_pos rfl]
      -- the row of operations with the new one
      have row : ∀ (h3 : mx_H) (v : Nat), mi h3 76 26 = nI (l.length + 1) → outR h3 (out ++ o') → (∀ a i, a = 93 ∨ a = 94 ∨ a = 95 ∨ a = 96 → mi h3 a i = mi h2 a i) → (∀ i, i ≠ l.length → mi h3 97 i = mi h2 97 i) → ((tA ts k).1 ≠ 45 → mi h3 97 l.length = nI v ∧ vOk ts v) → opsR h3 ts (out ++ o') (l ++ [((tA ts k).1, b.1.1, b.1.2, v)]) := by
        intro h3 v e26 eO e9 e97 ev
        refine ⟨by rw [e26, List.length_append, List.length_singleton], eO, fun i hi => ?_⟩
        rw [List.length_append, List.length_singleton] at hi
        by_cases ci : i = l.length
        · subst ci
          rw [List.getElem_append_right (Nat.le_refl _)]
          simp only [Nat.sub_self, List.getElem_cons_zero]
          refine ⟨cc, by rw [e9 93 _ (Or.inl rfl)]; exact q93, ?_, fun e => ?_, ev⟩
          · have := tgR_keep (o' := []) gT (e9 94 _ (Or.inr (Or.inl rfl))) (e9 95 _ (Or.inr (Or.inr (Or.inl rfl)))) (e9 96 _ (Or.inr (Or.inr (Or.inr rfl))))
            rw [List.append_nil] at this
            exact this
          · have e : (tA ts k).1 = 45 := e
            rw [e] at zt
            exact rTg_0 zt
        · have il : i < l.length := by omega
          rw [List.getElem_append_left il]
          obtain ⟨q1, q2, q3, q4, q5⟩ := pR i il
          obtain ⟨f94, f95, f96⟩ := f9 i ci
          refine ⟨q1, by rw [e9 93 _ (Or.inl rfl), f93, r93, if_neg ci]; exact q2, tgR_keep q3 (by rw [e9 94 _ (Or.inr (Or.inl rfl)), f94, o1 94 (by decide)]) (by rw [e9 95 _ (Or.inr (Or.inr (Or.inl rfl))), f95, o1 95 (by decide)]) (by rw [e9 96 _ (Or.inr (Or.inr (Or.inr rfl))), f96, o1 96 (by decide)]), q4, fun e => ⟨by rw [e97 i ci, f97, o1 97 (by decide)]; exact (q5 e).1, (q5 e).2⟩⟩
      by_cases c45 : (tA ts k).1 = 45
      · have e45 : nI (tA ts k).1 = 45 := by rw [c45]; rfl
        have m3 : mf Pop h (mx_up h2 76 26 (.int (nI (l.length + 1)))) := mf_f m2' (by decide) rfl
        have T3 := m3.1
        refine ⟨mx_up h2 76 26 (.int (nI (l.length + 1))), o', ?_, m3, fun q hq => ?_⟩
        · simp only [Option.bind_some, if_pos c45]
          simp only [r289_55, r289_56, r289_57, r289_60, r289_61, r289_62, r289_63, r289_66, r289_67, r289_70, r289_71, r289_73, r289_110, r289_111, r289_112, r289_115, r289_116, r289_117, r289_120, r289_121, mx_isr_ref, mx_isr_null, mx_wt_nil, mx_wt_1, mx_wt_2, mx_wt_3, Option.bind_some, Option.toList_some, Option.toList_none, List.cons_append, List.nil_append, mx_nl_int, mx_nl_ref, mx_nl_null, mx_nl_none, mx_nb0, mx_nb1, mx_fb0, mx_fb1, mx_cat_int, mx_cat_ref, if_true, if_false, not_true_eq_false, not_false_eq_true, T2, n1, mr_ty_77, mr_n_77, mr_isI_77, mr_ty_78, mr_n_78, mr_isI_78, mr_ty_79, mr_n_79, mr_isI_79, mr_ty_80, mr_n_80, mr_isI_80, mr_ty_81, mr_n_81, mr_isI_81, mr_ty_82, mr_n_82, mr_isJ_82, mr_ty_83, mr_n_83, mr_isI_83, mr_ty_84, mr_n_84, mr_isI_84, mr_ty_85, mr_n_85, mr_isI_85, mr_ty_86, mr_n_86, mr_isI_86, mr_ty_87, mr_n_87, mr_isI_87, mr_ty_88, mr_n_88, mr_isI_88, mr_ty_89, mr_n_89, mr_isJ_89, mr_ty_90, mr_n_90, mr_isI_90, mr_ty_91, mr_n_91, mr_isI_91, mr_ty_92, mr_n_92, mr_isI_92, mr_ty_93, mr_n_93, mr_isI_93, mr_ty_94, mr_n_94, mr_isI_94, mr_ty_95, mr_n_95, mr_isI_95, mr_ty_96, mr_n_96, mr_isI_96, mr_ty_97, mr_n_97, mr_isI_97, mr_ty_98, mr_n_98, mr_isI_98, mr_ty_99, mr_n_99, mr_isI_99, mr_ty_100, mr_n_100, mr_isI_100, mr_ty_101, mr_n_101, mr_isI_101, mr_isF_1, mr_isF_3, mr_isF_4, mr_isF_10, mr_isF_12, mr_isF_18, mr_isF_19, mr_isF_21, mr_isF_22, mr_isF_23, mr_isF_26, mr_isF_34, mr_isF_37, mr_isF_38, mr_isF_39, mr_T_up, mr_T_upJ, mr_T_f, f26, j1, j2, j3, q93, eq_true e45, nI_1]
        · simp only [Option.bind_some, if_pos c45] at hq
          cases hq
          refine ⟨row _ 0 (by rw [mi_f T2 (by decide), if_pos rfl]) ⟨by rw [mi_f T2 (by decide), if_neg (by decide)]; exact gO.1, fun i hi => stpR_keep (gO.2 i hi) (mi_o (by decide) _ _) (mi_o (by decide) _ _) (ml_upI _ _ _ _ _ _ (by decide)) (mi_o (by decide) _ _) (mi_o (by decide) _ _)⟩ (fun a i ha => mi_o (by omega) _ _) (fun i _ => mi_o (by decide) _ _) (fun z => absurd c45 z), gL⟩
      · have e45 : ¬ nI (tA ts k).1 = 45 := fun z => c45 ((nI_eq (b := 45) (by omega) (by decide)).mp z)
        have m3 : mf Pop h (mx_up h2 97 l.length (.int (nI (b.2 + 1)))) := mf_up m2' (by decide) rfl
        have T3 := m3.1
        have S3 := TK_mf S m3 tkop
        have i3 := rm_isF (d := d + 5) S3.1 (t := b.2) (by omega)
        have o3 : ∀ a, a ≠ 97 → ∀ i, mi (mx_up h2 97 l.length (.int (nI (b.2 + 1)))) a i = mi h2 a i := fun a ha i => mi_o ha _ _
        have r97 : ∀ i, mi (mx_up h2 97 l.length (.int (nI (b.2 + 1)))) 97 i = if i = l.length then nI (b.2 + 1) else mi h2 97 i := fun i => mi_a T2 mr_ty_97 j3 _ i
        have O3 : outR (mx_up h2 97 l.length (.int (nI (b.2 + 1)))) (out ++ o') := ⟨by rw [o3 76 (by decide)]; exact gO.1, fun i hi => stpR_keep (gO.2 i hi) (o3 85 (by decide) i) (o3 86 (by decide) i) (ml_upI _ _ _ _ _ _ (by decide)) (o3 87 (by decide) i) (o3 88 (by decide) i)⟩
        have s26 : mi (mx_up h2 97 l.length (.int (nI (b.2 + 1)))) 76 26 = nI l.length := by rw [o3 76 (by decide)]; exact f26
        have s1 : mx_G (d + 6) 289 55 [some (.ref 76), some (.int (nI k)), none] [.int (nI b.2)] h2 = mx_G (d + 6) 289 88 [some (.ref 76), some (.int (nI k)), some (.int (nI b.2))] [] (mx_up h2 97 l.length (.int (nI (b.2 + 1)))) := by
          simp only [r289_55, r289_56, r289_57, r289_60, r289_61, r289_62, r289_63, r289_66, r289_67, r289_70, r289_71, r289_73, r289_76, r289_77, r289_80, r289_81, r289_84, r289_85, r289_86, r289_87, mx_isr_ref, mx_isr_null, mx_wt_nil, mx_wt_1, mx_wt_2, mx_wt_3, Option.bind_some, Option.toList_some, Option.toList_none, List.cons_append, List.nil_append, mx_nl_int, mx_nl_ref, mx_nl_null, mx_nl_none, mx_nb0, mx_nb1, mx_fb0, mx_fb1, mx_cat_int, mx_cat_ref, if_true, if_false, not_true_eq_false, not_false_eq_true, T2, n1, mr_ty_77, mr_n_77, mr_isI_77, mr_ty_78, mr_n_78, mr_isI_78, mr_ty_79, mr_n_79, mr_isI_79, mr_ty_80, mr_n_80, mr_isI_80, mr_ty_81, mr_n_81, mr_isI_81, mr_ty_82, mr_n_82, mr_isJ_82, mr_ty_83, mr_n_83, mr_isI_83, mr_ty_84, mr_n_84, mr_isI_84, mr_ty_85, mr_n_85, mr_isI_85, mr_ty_86, mr_n_86, mr_isI_86, mr_ty_87, mr_n_87, mr_isI_87, mr_ty_88, mr_n_88, mr_isI_88, mr_ty_89, mr_n_89, mr_isJ_89, mr_ty_90, mr_n_90, mr_isI_90, mr_ty_91, mr_n_91, mr_isI_91, mr_ty_92, mr_n_92, mr_isI_92, mr_ty_93, mr_n_93, mr_isI_93, mr_ty_94, mr_n_94, mr_isI_94, mr_ty_95, mr_n_95, mr_isI_95, mr_ty_96, mr_n_96, mr_isI_96, mr_ty_97, mr_n_97, mr_isI_97, mr_ty_98, mr_n_98, mr_isI_98, mr_ty_99, mr_n_99, mr_isI_99, mr_ty_100, mr_n_100, mr_isI_100, mr_ty_101, mr_n_101, mr_isI_101, mr_isF_1, mr_isF_3, mr_isF_4, mr_isF_10, mr_isF_12, mr_isF_18, mr_isF_19, mr_isF_21, mr_isF_22, mr_isF_23, mr_isF_26, mr_isF_34, mr_isF_37, mr_isF_38, mr_isF_39, mr_T_up, mr_T_upJ, mr_T_f, f26, j1, j2, j3, q93, e45, nI_1]
        cases z58 : tI ts b.2 58 with
        | false =>
          have m4 : mf Pop h (mx_up (mx_up h2 97 l.length (.int (nI (b.2 + 1)))) 76 26 (.int (nI (l.length + 1)))) := mf_f m3 (by decide) rfl
          refine ⟨_, [], ?_, m4, fun q hq => by simp [c45, z58] at hq⟩
          simp only [Option.bind_some, if_neg c45, z58, if_true]
          refine s1.trans ?_
          simp only [r289_88, r289_89, r289_90, r289_92, r289_95, r289_98, r289_99, r289_100, r289_101, r289_102, r289_105, r289_108, r289_109, r289_110, r289_111, r289_112, r289_115, r289_116, r289_117, r289_120, r289_121, mx_isr_ref, mx_isr_null, mx_wt_nil, mx_wt_1, mx_wt_2, mx_wt_3, Option.bind_some, Option.toList_some, Option.toList_none, List.cons_append, List.nil_append, mx_nl_int, mx_nl_ref, mx_nl_null, mx_nl_none, mx_nb0, mx_nb1, mx_fb0, mx_fb1, mx_cat_int, mx_cat_ref, if_true, if_false, not_true_eq_false, not_false_eq_true, T3, i3, z58, s26, mr_ty_77, mr_n_77, mr_isI_77, mr_ty_78, mr_n_78, mr_isI_78, mr_ty_79, mr_n_79, mr_isI_79, mr_ty_80, mr_n_80, mr_isI_80, mr_ty_81, mr_n_81, mr_isI_81, mr_ty_82, mr_n_82, mr_isJ_82, mr_ty_83, mr_n_83, mr_isI_83, mr_ty_84, mr_n_84, mr_isI_84, mr_ty_85, mr_n_85, mr_isI_85, mr_ty_86, mr_n_86, mr_isI_86, mr_ty_87, mr_n_87, mr_isI_87, mr_ty_88, mr_n_88, mr_isI_88, mr_ty_89, mr_n_89, mr_isJ_89, mr_ty_90, mr_n_90, mr_isI_90, mr_ty_91, mr_n_91, mr_isI_91, mr_ty_92, mr_n_92, mr_isI_92, mr_ty_93, mr_n_93, mr_isI_93, mr_ty_94, mr_n_94, mr_isI_94, mr_ty_95, mr_n_95, mr_isI_95, mr_ty_96, mr_n_96, mr_isI_96, mr_ty_97, mr_n_97, mr_isI_97, mr_ty_98, mr_n_98, mr_isI_98, mr_ty_99, mr_n_99, mr_isI_99, mr_ty_100, mr_n_100, mr_isI_100, mr_ty_101, mr_n_101, mr_isI_101, mr_isF_1, mr_isF_3, mr_isF_4, mr_isF_10, mr_isF_12, mr_isF_18, mr_isF_19, mr_isF_21, mr_isF_22, mr_isF_23, mr_isF_26, mr_isF_34, mr_isF_37, mr_isF_38, mr_isF_39, mr_T_up, mr_T_upJ, mr_T_f, nI_1, Bool.false_eq_true]
        | true =>
          have bl := tI_lt (by decide) z58
          obtain ⟨h4, r4, m4⟩ := rm_valueAt (d := d + 1) S3 (t := b.2 + 1) (by omega)
          have T4 := m4.1
          have m4' := mf_trans m3 (mf_mono p84_op m4)
          have t26 : mi h4 76 26 = nI l.length := by rw [m4.2.1 76 26 rfl]; exact s26
          have m5 : mf Pop h (mx_up h4 76 26 (.int (nI (l.length + 1)))) := mf_f m4' (by decide) rfl
          have ev : ∀ x : Int32, mx_G (d + 5) 250 0 [some (.ref 76), some (.int (nI (b.2 + 1))), none] [] (mx_up h2 97 l.length (.int (nI (b.2 + 1)))) = some (some (.int x), h4) → mx_G (d + 6) 289 88 [some (.ref 76), some (.int (nI k)), some (.int (nI b.2))] [] (mx_up h2 97 l.length (.int (nI (b.2 + 1)))) = some (some (.int x), mx_up h4 76 26 (.int (nI (l.length + 1)))) := by
            intro x hx
            simp only [r289_88, r289_89, r289_90, r289_92, r289_95, r289_98, r289_99, r289_100, r289_101, r289_102, r289_105, r289_108, r289_109, r289_110, r289_111, r289_112, r289_115, r289_116, r289_117, r289_120, r289_121, mx_isr_ref, mx_isr_null, mx_wt_nil, mx_wt_1, mx_wt_2, mx_wt_3, Option.bind_some, Option.toList_some, Option.toList_none, List.cons_append, List.nil_append, mx_nl_int, mx_nl_ref, mx_nl_null, mx_nl_none, mx_nb0, mx_nb1, mx_fb0, mx_fb1, mx_cat_int, mx_cat_ref, if_true, if_false, not_true_eq_false, not_false_eq_true, T3, T4, i3, z58, hx, t26, mr_ty_77, mr_n_77, mr_isI_77, mr_ty_78, mr_n_78, mr_isI_78, mr_ty_79, mr_n_79, mr_isI_79, mr_ty_80, mr_n_80, mr_isI_80, mr_ty_81, mr_n_81, mr_isI_81, mr_ty_82, mr_n_82, mr_isJ_82, mr_ty_83, mr_n_83, mr_isI_83, mr_ty_84, mr_n_84, mr_isI_84, mr_ty_85, mr_n_85, mr_isI_85, mr_ty_86, mr_n_86, mr_isI_86, mr_ty_87, mr_n_87, mr_isI_87, mr_ty_88, mr_n_88, mr_isI_88, mr_ty_89, mr_n_89, mr_isJ_89, mr_ty_90, mr_n_90, mr_isI_90, mr_ty_91, mr_n_91, mr_isI_91, mr_ty_92, mr_n_92, mr_isI_92, mr_ty_93, mr_n_93, mr_isI_93, mr_ty_94, mr_n_94, mr_isI_94, mr_ty_95, mr_n_95, mr_isI_95, mr_ty_96, mr_n_96, mr_isI_96, mr_ty_97, mr_n_97, mr_isI_97, mr_ty_98, mr_n_98, mr_isI_98, mr_ty_99, mr_n_99, mr_isI_99, mr_ty_100, mr_n_100, mr_isI_100, mr_ty_101, mr_n_101, mr_isI_101, mr_isF_1, mr_isF_3, mr_isF_4, mr_isF_10, mr_isF_12, mr_isF_18, mr_isF_19, mr_isF_21, mr_isF_22, mr_isF_23, mr_isF_26, mr_isF_34, mr_isF_37, mr_isF_38, mr_isF_39, mr_T_up, mr_T_upJ, mr_T_f, nI_1, show ¬ (1 : Int32) = 0 by decide]
          cases zv : pV ts 3 (b.2 + 1) with
          | none =>
            rw [zv] at r4
            refine ⟨_, [], ?_, m5, fun q hq => by simp [c45, z58, zv] at hq⟩
            simp only [Option.bind_some, if_neg c45, z58, zv]
            exact s1.trans (ev _ r4)
          | some e =>
            rw [zv] at r4
            have O5 : outR (mx_up h4 76 26 (.int (nI (l.length + 1)))) (out ++ o') := ⟨by rw [mi_f T4 (by decide), if_neg (by decide), m4.2.1 76 12 rfl]; exact O3.1, fun i hi => stpR_keep (O3.2 i hi) (by rw [mi_o (by decide), m4.2.1 85 i rfl]) (by rw [mi_o (by decide), m4.2.1 86 i rfl]) (by rw [ml_upI _ _ _ _ _ _ (by decide), m4.2.2 89 i (Or.inr rfl) rfl]) (by rw [mi_o (by decide), m4.2.1 87 i rfl]) (by rw [mi_o (by decide), m4.2.1 88 i rfl])⟩
            refine ⟨mx_up h4 76 26 (.int (nI (l.length + 1))), o', ?_, m5, fun q hq => ?_⟩
            · simp only [Option.bind_some, if_neg c45, z58, zv]
              exact s1.trans (ev _ r4)
            · simp only [Option.bind_some, if_neg c45, z58, zv, Option.map_some] at hq
              have hq : (((tA ts k).1, b.1.1, b.1.2, b.2 + 1), e) = q := by simpa using hq
              subst hq
              have be := pE_bd _ _ _ (pV_pE 3 _ _ (by omega) zv)
              refine ⟨row _ (b.2 + 1) (by rw [mi_f T4 (by decide), if_pos rfl]) O5 (fun a i ha => by rw [mi_o (by omega), m4.2.1 a i (by unfold P84; simp; omega), o3 a (by omega)]) (fun i hi => by rw [mi_o (by decide), m4.2.1 97 i rfl, r97, if_neg hi]) (fun _ => ⟨by rw [mi_o (by decide), m4.2.1 97 _ rfl, r97, if_pos rfl], vOk_V zv⟩), by show _ ≤ e; omega⟩
end
