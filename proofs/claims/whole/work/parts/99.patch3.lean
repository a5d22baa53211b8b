section
variable {d : Nat} {h : mx_H} {ts : List tk}
theorem rm_rpL (S : rm_TK h ts) : ∀ (f k : Nat) (res : Option (List opr)) (h1 : mx_H) (out : List stp) (l : List opr), rOps ts f k = res → k ≤ ts.length → ts.length + 1 ≤ k + 2 * f → mf Pop h h1 → opsR h1 ts out l → 3 * l.length ≤ k → out.length ≤ k →
    ∃ h' out', (∀ (x : Int32) (hx : mx_H), mx_G (d + 6) 289 0 [some (.ref 76), some (.int (nI k)), none] [] h1 = some (some (.int x), hx) → mx_G (d + 7) 288 25 [some (.ref 76), some (.int x)] [] hx = some (some (.int (if res.isSome = true then 1 else 0)), h')) ∧ mf Pop h h' ∧ ∀ r, res = some r → opsR h' ts out' (l ++ r) ∧ 3 * (l ++ r).length ≤ ts.length + 1 ∧ out'.length ≤ ts.length := by
  have hl := S.1.2.1
  intro f
  induction f with
  | zero => intro k res h1 out l _ hk hf; omega
  | succ f ih =>
    intro k res h1 out l hres hk hf m P h3 ho
    have S1 := TK_mf S m tkop
    obtain ⟨h2, o', r2, m2, g2⟩ := rm_readOp (d := d) S1 hk P h3 ho
    have m2' := mf_trans m m2
    have T2 := m2.1
    have S2 := TK_mf S m2' tkop
    have tk := S2.1.2.2.1
    have same : ∀ (y x : Int32) (hx : mx_H), mx_G (d + 6) 289 0 [some (.ref 76), some (.int (nI k)), none] [] h1 = some (some (.int y), h2) → mx_G (d + 6) 289 0 [some (.ref 76), some (.int (nI k)), none] [] h1 = some (some (.int x), hx) → x = y ∧ hx = h2 := by
      intro y x hx e1 e2
      rw [e1] at e2
      simp only [Option.some.injEq, Prod.mk.injEq, Value.int.injEq] at e2
      exact ⟨e2.1.symm, e2.2.symm⟩
    rw [rOps] at hres
    cases zo : rOp ts k with
    | none =>
      rw [zo] at r2 hres
      have hres : res = none := hres.symm
      subst hres
      refine ⟨h2, [], fun x hx he => ?_, m2', fun r hr => by cases hr⟩
      obtain ⟨e1, e2⟩ := same _ _ _ r2 he
      have e1 : x = -1 := e1
      subst e1 e2
      have ne : ¬ (-1 : Int32) = nI ts.length := fun z => by
        have := congrArg Int32.toInt z
        rw [nI_toInt (by omega)] at this
        have : (-1 : Int32).toInt = -1 := by decide
        omega
      simp only [r288_25, r288_26, r288_50, r288_51, r288_52, r288_55, r288_58, r288_59, r288_62, r288_63, mx_isr_ref, mx_isr_null, mx_wt_nil, mx_wt_1, mx_wt_2, mx_wt_3, Option.bind_some, Option.toList_some, Option.toList_none, List.cons_append, List.nil_append, mx_nl_int, mx_nl_ref, mx_nl_null, mx_nl_none, mx_nb0, mx_nb1, mx_fb0, mx_fb1, mx_cat_int, mx_cat_ref, if_true, if_false, not_true_eq_false, not_false_eq_true, T2, tk, ne, show (-1 : Int32) < 0 by decide, Option.isSome_none, Bool.false_eq_true]
    | some q =>
      rw [zo] at r2 hres
      simp only [Option.bind_some] at hres
      obtain ⟨b1, b2⟩ := rOp_bd zo
      obtain ⟨P2, L2⟩ := g2 q zo
      have n1 : ¬ nI q.2 < 0 := nI_pos (by omega)
      have i2 := rm_isF (d := d + 6) S2.1 (t := q.2) (by omega)
      by_cases ce : q.2 = ts.length
      · have e1 : nI q.2 = nI ts.length := by rw [ce]
        have z10 : tI ts q.2 10 = false := by
          rw [tI_ne, tA_geP (by omega)]; decide
        rw [if_pos ce] at hres
        subst hres
        refine ⟨h2, out ++ o', fun x hx he => ?_, m2', fun r hr => by cases hr; exact ⟨P2, by rw [List.length_append, List.length_singleton]; omega, by omega⟩⟩
        obtain ⟨e3, e4⟩ := same _ _ _ r2 he
        have e3 : x = nI q.2 := e3
        subst e3 e4
        simp only [r288_25, r288_26, r288_29, r288_30, r288_31, r288_33, r288_36, r288_50, r288_51, r288_52, r288_55, r288_58, r288_59, r288_62, r288_63, mx_isr_ref, mx_isr_null, mx_wt_nil, mx_wt_1, mx_wt_2, mx_wt_3, Option.bind_some, Option.toList_some, Option.toList_none, List.cons_append, List.nil_append, mx_nl_int, mx_nl_ref, mx_nl_null, mx_nl_none, mx_nb0, mx_nb1, mx_fb0, mx_fb1, mx_cat_int, mx_cat_ref, if_true, if_false, not_true_eq_false, not_false_eq_true, T2, n1, i2, z10, tk, eq_true e1, Bool.false_eq_true, Option.isSome_some]
      · have e1 : ¬ nI q.2 = nI ts.length := fun z => ce ((nI_eq (by omega) (by omega)).mp z)
        rw [if_neg ce] at hres
        cases z10 : tI ts q.2 10 with
        | false =>
          rw [z10] at hres
          have hres : res = none := hres.symm
          subst hres
          refine ⟨h2, [], fun x hx he => ?_, m2', fun r hr => by cases hr⟩
          obtain ⟨e3, e4⟩ := same _ _ _ r2 he
          have e3 : x = nI q.2 := e3
          subst e3 e4
          simp only [r288_25, r288_26, r288_29, r288_30, r288_31, r288_33, r288_36, r288_50, r288_51, r288_52, r288_55, r288_58, r288_59, r288_62, r288_63, mx_isr_ref, mx_isr_null, mx_wt_nil, mx_wt_1, mx_wt_2, mx_wt_3, Option.bind_some, Option.toList_some, Option.toList_none, List.cons_append, List.nil_append, mx_nl_int, mx_nl_ref, mx_nl_null, mx_nl_none, mx_nb0, mx_nb1, mx_fb0, mx_fb1, mx_cat_int, mx_cat_ref, if_true, if_false, not_true_eq_false, not_false_eq_true, T2, n1, i2, z10, tk, e1, Bool.false_eq_true, Option.isSome_none]
        | true =>
          rw [z10, if_pos rfl] at hres
          have ql := tI_lt (by decide) z10
          obtain ⟨h', out', r', m', g'⟩ := ih (q.2 + 1) _ h2 (out ++ o') (l ++ [q.1]) rfl (by omega) (by omega) m2' P2 (by rw [List.length_append, List.length_singleton]; omega) (by omega)
          obtain ⟨h3', o3, r3, -, -⟩ := rm_readOp (d := d) S2 (k := q.2 + 1) (by omega) P2 (by rw [List.length_append, List.length_singleton]; omega) (by omega)
          have rr := r' _ h3' r3
          subst hres
          refine ⟨h', out', fun x hx he => ?_, m', fun r hr => ?_⟩
          · obtain ⟨e3, e4⟩ := same _ _ _ r2 he
            have e3 : x = nI q.2 := e3
            subst e3 e4
            have e : (Option.map (fun l => q.1 :: l) (rOps ts f (q.2 + 1))).isSome = (rOps ts f (q.2 + 1)).isSome := by cases rOps ts f (q.2 + 1) <;> rfl
            rw [e, ← rr]
            simp only [r288_25, r288_26, r288_29, r288_30, r288_31, r288_33, r288_36, r288_39, r288_40, r288_41, r288_42, r288_43, r288_46, r288_47, mx_isr_ref, mx_isr_null, mx_wt_nil, mx_wt_1, mx_wt_2, mx_wt_3, Option.bind_some, Option.toList_some, Option.toList_none, List.cons_append, List.nil_append, mx_nl_int, mx_nl_ref, mx_nl_null, mx_nl_none, mx_nb0, mx_nb1, mx_fb0, mx_fb1, mx_cat_int, mx_cat_ref, if_true, if_false, not_true_eq_false, not_false_eq_true, T2, n1, i2, z10, nI_1, r3, show ¬ (1 : Int32) = 0 by decide]
          · cases zr : rOps ts f (q.2 + 1) with
            | none => rw [zr] at hr; cases hr
            | some r0 =>
              rw [zr] at hr; cases hr
              have := g' r0 zr
              rw [List.append_assoc, List.singleton_append] at this
              exact this
theorem rm_readPatch {bs : List Nat} (T : mr_T h) (B : rm_buf h bs) : ∃ h' out, mx_G (d + 7) 288 0 [some (.ref 76), none] [] h = some (some (.int (if ((if lx_good (lx bs.length bs) = true then rOps (lx bs.length bs) 120 0 else none) : Option (List opr)).isSome = true then 1 else 0)), h') ∧ mf (fun a k => Pop a k || Pct a k) h h' ∧ (lx_good (lx bs.length bs) = true → rm_TK h' (lx bs.length bs) ∧ tkOK (lx bs.length bs) ∧ ∀ r, rOps (lx bs.length bs) 120 0 = some r → opsR h' (lx bs.length bs) out r ∧ 3 * r.length ≤ (lx bs.length bs).length + 1 ∧ out.length ≤ (lx bs.length bs).length) := by
  have m1 : mf Pop h (mx_up h 76 26 (.int 0)) := mf_f (mf_rfl T) (by decide) rfl
  have T1 := m1.1
  have m2 : mf Pop h (mx_up (mx_up h 76 26 (.int 0)) 76 12 (.int 0)) := mf_f m1 (by decide) rfl
  have T2 := m2.1
  obtain ⟨h1, r1, Tc, -, F, S⟩ := rm_cut (d := d + 3) (rm_buf_f (rm_buf_f B 0 (k := 26) (by decide) (by decide)) 0 (k := 12) (by decide) (by decide))
  have mc := fr_mf Tc F
  have pu : ∀ a k, (Pop a k || Pct a k) = false → Pop a k = false := fun a k e => by simp at e; exact e.1
  have pu2 : ∀ a k, (Pop a k || Pct a k) = false → Pct a k = false := fun a k e => by simp at e; exact e.2
  have m3 := mf_trans (mf_mono pu m2) (mf_mono pu2 mc)
  have q26 : mi h1 76 26 = 0 := by rw [mc.2.1 76 26 rfl, mi_f T1 (by decide), if_neg (by decide), mi_f T (by decide), if_pos rfl]
  have q12 : mi h1 76 12 = 0 := by rw [mc.2.1 76 12 rfl, mi_f T1 (by decide), if_pos rfl]
  cases g : lx_good (lx bs.length bs) with
  | false =>
    rw [g] at r1
    refine ⟨h1, [], ?_, m3, fun z => by cases z⟩
    simp only [r288_0, r288_1, r288_2, r288_5, r288_6, r288_7, r288_10, r288_11, r288_14, r288_17, r288_18, mx_isr_ref, mx_isr_null, mx_wt_nil, mx_wt_1, mx_wt_2, mx_wt_3, Option.bind_some, Option.toList_some, Option.toList_none, List.cons_append, List.nil_append, mx_nl_int, mx_nl_ref, mx_nl_null, mx_nl_none, mx_nb0, mx_nb1, mx_fb0, mx_fb1, mx_cat_int, mx_cat_ref, if_true, if_false, not_true_eq_false, not_false_eq_true, T, T1, T2, mr_ty_77, mr_n_77, mr_isI_77, mr_ty_78, mr_n_78, mr_isI_78, mr_ty_79, mr_n_79, mr_isI_79, mr_ty_80, mr_n_80, mr_isI_80, mr_ty_81, mr_n_81, mr_isI_81, mr_ty_82, mr_n_82, mr_isJ_82, mr_ty_83, mr_n_83, mr_isI_83, mr_ty_84, mr_n_84, mr_isI_84, mr_ty_85, mr_n_85, mr_isI_85, mr_ty_86, mr_n_86, mr_isI_86, mr_ty_87, mr_n_87, mr_isI_87, mr_ty_88, mr_n_88, mr_isI_88, mr_ty_89, mr_n_89, mr_isJ_89, mr_ty_90, mr_n_90, mr_isI_90, mr_ty_91, mr_n_91, mr_isI_91, mr_ty_92, mr_n_92, mr_isI_92, mr_ty_93, mr_n_93, mr_isI_93, mr_ty_94, mr_n_94, mr_isI_94, mr_ty_95, mr_n_95, mr_isI_95, mr_ty_96, mr_n_96, mr_isI_96, mr_ty_97, mr_n_97, mr_isI_97, mr_ty_98, mr_n_98, mr_isI_98, mr_ty_99, mr_n_99, mr_isI_99, mr_ty_100, mr_n_100, mr_isI_100, mr_ty_101, mr_n_101, mr_isI_101, mr_isF_1, mr_isF_3, mr_isF_4, mr_isF_10, mr_isF_12, mr_isF_18, mr_isF_19, mr_isF_21, mr_isF_22, mr_isF_23, mr_isF_26, mr_isF_34, mr_isF_37, mr_isF_38, mr_isF_39, mr_T_up, mr_T_upJ, mr_T_f, r1, Bool.false_eq_true]
    rfl
  | true =>
    rw [g] at r1
    obtain ⟨S1, K⟩ := TK_of (buf_128 B) S g
    generalize lx bs.length bs = ts at S1 K
    have hl := S1.1.2.1
    have P0 : opsR h1 ts [] [] := ⟨by rw [q26]; rfl, ⟨by rw [q12]; rfl, fun i hi => by cases hi⟩, fun i hi => by cases hi⟩
    obtain ⟨h', out', r', m', g'⟩ := rm_rpL (d := d) S1 120 0 _ h1 [] [] rfl (Nat.zero_le _) (by omega) (mf_rfl Tc) P0 (Nat.le_refl _) (Nat.le_refl _)
    obtain ⟨h3', o3, r3, -, -⟩ := rm_readOp (d := d) S1 (k := 0) (Nat.zero_le _) P0 (Nat.le_refl _) (Nat.le_refl _)
    have rr := r' _ h3' r3
    rw [show nI 0 = 0 from rfl] at r3
    refine ⟨h', out', ?_, mf_trans m3 (mf_mono pu m'), fun _ => ⟨TK_mf S1 m' tkop, K, fun r hr => by have := g' r hr; rw [List.nil_append] at this; exact this⟩⟩
    rw [if_pos rfl, ← rr]
    simp only [r288_0, r288_1, r288_2, r288_5, r288_6, r288_7, r288_10, r288_11, r288_14, r288_17, r288_18, r288_19, r288_20, r288_21, r288_24, mx_isr_ref, mx_isr_null, mx_wt_nil, mx_wt_1, mx_wt_2, mx_wt_3, Option.bind_some, Option.toList_some, Option.toList_none, List.cons_append, List.nil_append, mx_nl_int, mx_nl_ref, mx_nl_null, mx_nl_none, mx_nb0, mx_nb1, mx_fb0, mx_fb1, mx_cat_int, mx_cat_ref, if_true, if_false, not_true_eq_false, not_false_eq_true, T, T1, T2, Tc, mr_ty_77, mr_n_77, mr_isI_77, mr_ty_78, mr_n_78, mr_isI_78, mr_ty_79, mr_n_79, mr_isI_79, mr_ty_80, mr_n_80, mr_isI_80, mr_ty_81, mr_n_81, mr_isI_81, mr_ty_82, mr_n_82, mr_isJ_82, mr_ty_83, mr_n_83, mr_isI_83, mr_ty_84, mr_n_84, mr_isI_84, mr_ty_85, mr_n_85, mr_isI_85, mr_ty_86, mr_n_86, mr_isI_86, mr_ty_87, mr_n_87, mr_isI_87, mr_ty_88, mr_n_88, mr_isI_88, mr_ty_89, mr_n_89, mr_isJ_89, mr_ty_90, mr_n_90, mr_isI_90, mr_ty_91, mr_n_91, mr_isI_91, mr_ty_92, mr_n_92, mr_isI_92, mr_ty_93, mr_n_93, mr_isI_93, mr_ty_94, mr_n_94, mr_isI_94, mr_ty_95, mr_n_95, mr_isI_95, mr_ty_96, mr_n_96, mr_isI_96, mr_ty_97, mr_n_97, mr_isI_97, mr_ty_98, mr_n_98, mr_isI_98, mr_ty_99, mr_n_99, mr_isI_99, mr_ty_100, mr_n_100, mr_isI_100, mr_ty_101, mr_n_101, mr_isI_101, mr_isF_1, mr_isF_3, mr_isF_4, mr_isF_10, mr_isF_12, mr_isF_18, mr_isF_19, mr_isF_21, mr_isF_22, mr_isF_23, mr_isF_26, mr_isF_34, mr_isF_37, mr_isF_38, mr_isF_39, mr_T_up, mr_T_upJ, mr_T_f, r1, r3, show ¬ (1 : Int32) = 0 by decide]
end
