section
variable {d : Nat} {h : mx_H} {ts : List tk}
/-- the code is no longer than the text, and its comparisons are as they must be -/
def cdA (ts : List tk) (c : List stp) : Prop := c ≠ [] ∧ ∀ q ∈ c, q.1 = 0 → stV ts q
theorem cC_V (K : ∀ q ∈ ts, tk_ok q) (hl : ts.length ≤ 120) {w : Bool} {k : Nat} {q : stp × Nat} (hc : cC ts w k = some q) : stV ts q.1 := by
  have bd := cC_bd hc
  have og := oAt_gt (ts := ts) w k
  unfold cC at hc
  split at hc
  · cases hc
  · rename_i z
    have z1 : ¬ pAt ts w k = 0 := fun x => z (Or.inl x)
    have z3 : ¬ (¬ (opw ts (oAt ts w k) = w_pr ∨ (vld (opw ts (oAt ts w k)) (tyO (pAt ts w k)) = true ∧ sc ts (oAt ts w k + 1) = tyO (pAt ts w k)))) := fun x => z (Or.inr (Or.inr x))
    cases hc
    refine ⟨by show 1 ≤ pAt ts w k; omega, by have := pAt_lt (ts := ts) w k; show pAt ts w k ≤ 7; omega, opw_let K _, ?_, ?_⟩
    · show oAt ts w k + 1 < 2 ^ 20
      simp only at bd
      split at bd <;> omega
    · rcases Decidable.not_not.1 z3 with x | x
      · exact Or.inl x
      · exact Or.inr x.2
theorem cT_A (K : ∀ q ∈ ts, tk_ok q) (hl : ts.length ≤ 120) {rO : Bool → Nat → Option (cdP × Nat)} (hr : ∀ w k q, rO w k = some q → k + q.1.1.length ≤ q.2 ∧ cdA ts q.1.1) {w : Bool} {k : Nat} {q : cdP × Nat} (hc : cT (hd ts) itn ts rO w k = some q) : k + q.1.1.length ≤ q.2 ∧ cdA ts q.1.1 := by
  unfold cT at hc
  split at hc
  · cases z : rO w (k + 2) with
    | none => rw [z] at hc; cases hc
    | some q' =>
      rw [z] at hc
      have hc : (if tI ts q'.2 41 = true then some (cd_not q'.1, q'.2 + 1) else none) = some q := hc
      split at hc
      · cases hc
        obtain ⟨a, b, c⟩ := hr _ _ _ z
        refine ⟨by simp only [cd_not, List.length_append, List.length_cons, List.length_nil]; omega, by simp [cd_not], fun x hx h0 => ?_⟩
        rcases List.mem_append.1 hx with y | y
        · exact c x y h0
        · rw [List.mem_singleton.1 y] at h0; cases h0
      · cases hc
  · split at hc
    · cases z : rO w (k + 1) with
      | none => rw [z] at hc; cases hc
      | some q' =>
        rw [z] at hc
        have hc : (if tI ts q'.2 41 = true then some (q'.1, q'.2 + 1) else none) = some q := hc
        split at hc
        · cases hc
          obtain ⟨a, b⟩ := hr _ _ q' z
          exact ⟨by simp only; omega, b⟩
        · cases hc
    · split at hc
      · cases z : rO true (k + 2) with
        | none => rw [z] at hc; cases hc
        | some q' =>
          rw [z] at hc
          have hc : (if tI ts q'.2 93 = true then some (cd_itm itn q'.1, q'.2 + 1) else none) = some q := hc
          split at hc
          · cases hc
            obtain ⟨a, b, c⟩ := hr _ _ _ z
            refine ⟨by simp only [cd_itm, List.length_cons]; omega, by simp [cd_itm], fun x hx h0 => ?_⟩
            rcases List.mem_cons.1 hx with y | y
            · rw [y] at h0; cases h0
            · exact c x y h0
          · cases hc
      · cases z : cC ts w k with
        | none => rw [z] at hc; cases hc
        | some q' =>
          rw [z] at hc; cases hc
          have bd := cC_bd z
          refine ⟨by simp only [cd_one, List.length_cons, List.length_nil]; omega, by simp [cd_one], fun x hx h0 => ?_⟩
          rw [List.mem_singleton.1 hx]; exact cC_V K hl z
def ob (b : Bool) : Nat := if b = true then 1 else 0
theorem cL_A {rT : Nat → Option (cdP × Nat)} (hr : ∀ k q, rT k = some q → k + q.1.1.length ≤ q.2 ∧ cdA ts q.1.1) (L0 : Nat) : ∀ f o a k q, L0 + (oc o).length + ob o.isSome + (oc a).length + ob a.isSome ≤ k → (∀ x, o = some x → cdA ts x.1) → (∀ x, a = some x → cdA ts x.1) → cL ts rT f o a k = some q → L0 + q.1.1.length ≤ q.2 ∧ cdA ts q.1.1 := by
  intro f
  induction f with
  | zero => intro o a k q _ _ _ hc; cases hc
  | succ f ih =>
    intro o a k q hb ho ha hc
    rw [cL] at hc
    cases z : rT k with
    | none => rw [z] at hc; cases hc
    | some q' =>
      rw [z] at hc
      simp only at hc
      obtain ⟨l1, v1⟩ := hr _ _ z
      have la : (cA a q'.1).1.length = (oc a).length + q'.1.1.length + ob a.isSome := by
        cases a with
        | none => simp [cA, oc, ob]
        | some x => simp [cA, oc, ob, cd_and]; omega
      have va : cdA ts (cA a q'.1).1 := by
        cases a with
        | none => exact v1
        | some x =>
          refine ⟨by simp [cA, cd_and], fun y hy h0 => ?_⟩
          simp only [cA, cd_and] at hy
          rcases List.mem_append.1 hy with e | e
          · rcases List.mem_append.1 e with e | e
            · exact (ha x rfl).2 y e h0
            · exact v1.2 y e h0
          · rw [List.mem_singleton.1 e] at h0; cases h0
      have lo : (cB o (cA a q'.1)).1.length = (oc o).length + (cA a q'.1).1.length + ob o.isSome := by
        cases o with
        | none => simp [cB, oc, ob]
        | some x => simp [cB, oc, ob, cd_or]; omega
      have vo : cdA ts (cB o (cA a q'.1)).1 := by
        cases o with
        | none => exact va
        | some x =>
          refine ⟨by simp [cB, cd_or], fun y hy h0 => ?_⟩
          simp only [cB, cd_or] at hy
          rcases List.mem_append.1 hy with e | e
          · rcases List.mem_append.1 e with e | e
            · exact (ho x rfl).2 y e h0
            · exact va.2 y e h0
          · rw [List.mem_singleton.1 e] at h0; cases h0
      split at hc
      · refine ih o (some (cA a q'.1)) _ q ?_ ho (fun x hx => by cases hx; exact va) hc
        show L0 + (oc o).length + ob o.isSome + (cA a q'.1).1.length + 1 ≤ _
        omega
      · split at hc
        · refine ih (some (cB o (cA a q'.1))) none _ q ?_ (fun x hx => by cases hx; exact vo) (fun x hx => by cases hx) hc
          show L0 + (cB o (cA a q'.1)).1.length + 1 + 0 + 0 ≤ _
          omega
        · cases hc
          exact ⟨by simp only; omega, vo⟩
theorem cF_A (K : ∀ q ∈ ts, tk_ok q) (hl : ts.length ≤ 120) : ∀ n w k q, cF ts n w k = some q → k + q.1.1.length ≤ q.2 ∧ cdA ts q.1.1 := by
  intro n
  induction n with
  | zero => intro w k q hc; exact cL_A (fun k q hc => cT_A K hl (fun _ _ _ y => by cases y) hc) k _ _ _ _ _ (Nat.le_refl _) (fun x hx => by cases hx) (fun x hx => by cases hx) hc
  | succ n ih => intro w k q hc; exact cL_A (fun k q hc => cT_A K hl ih hc) k _ _ _ _ _ (Nat.le_refl _) (fun x hx => by cases hx) (fun x hx => by cases hx) hc
theorem row_of {c : List stp} (O : outR h c) (A : cdA ts c) (hl : c.length ≤ 120) : rowR h ts 0 c := by
  refine ⟨by omega, fun j hj => ⟨by rw [Nat.zero_add]; exact O.2 j hj, fun h0 => A.2 _ ?_ h0⟩⟩
  unfold sG
  rw [List.getD_eq_getElem?_getD, List.getElem?_eq_getElem hj]
  exact List.getElem_mem hj
/-- the page so far -/
theorem pg_step {α : Type} (r : List α) (S C k : Nat) (hk : k < r.length) : ((r.take (k + 1)).drop S).take C = if S ≤ k ∧ (((r.take k).drop S).take C).length < C then ((r.take k).drop S).take C ++ [r[k]] else ((r.take k).drop S).take C := by
  have e : r.take (k + 1) = r.take k ++ [r[k]] := by rw [List.take_add_one, List.getElem?_eq_getElem hk]; rfl
  have lk : (r.take k).length = k := by rw [List.length_take]; omega
  rw [e]
  by_cases c : S ≤ k
  · rw [List.drop_append_of_le_length (by omega)]
    generalize (r.take k).drop S = B
    by_cases c2 : (B.take C).length < C
    · rw [if_pos ⟨c, c2⟩]
      have lt : B.length < C := by rw [List.length_take] at c2; omega
      rw [List.take_of_length_le (l := B) (by omega), List.take_of_length_le (l := B ++ [r[k]]) (by rw [List.length_append, List.length_singleton]; omega)]
    · rw [if_neg (fun z => c2 z.2)]
      rw [List.length_take] at c2
      rw [List.take_append_of_le_length (by omega)]
  · rw [if_neg (fun z => c z.1), List.drop_eq_nil_iff.2 (by rw [List.length_append, List.length_singleton]; omega), List.drop_eq_nil_iff.2 (by omega)]
theorem pA_get : ∀ (l : List Nat), pA h 0 l → ∀ k, k < l.length → mi h 101 k = nI (l.reverse.getD k 0) := by
  intro l
  induction l with
  | nil => intro _ k hk; cases hk
  | cons x l ih =>
    intro A k hk
    rw [List.reverse_cons, List.getD_eq_getElem?_getD]
    simp only [List.length_cons] at hk
    by_cases c : k = l.length
    · subst c
      rw [List.getElem?_append_right (by rw [List.length_reverse]; exact Nat.le_refl _), List.length_reverse, Nat.sub_self]
      exact A.1
    · rw [List.getElem?_append_left (by rw [List.length_reverse]; omega), ← List.getD_eq_getElem?_getD]
      exact ih A.2 k (by omega)
def Ppg (a k : Nat) : Bool := a == 100 || (a == 76 && k == 34)
theorem rm_pgL {k : Nat} {dn : Bool} {c1 c2 : Int32} {R : spl} (hR : R.length ≤ 8) (T0 : mr_T h) (SP : spR h R) (A : ∀ j (hj : j < R.length), mi h 101 j = nI (R[j]).1) {l7 : Option Value} : ∀ (n j : Nat) (h1 : mx_H), j + n = R.length → mf Ppg h h1 → (mi h1 76 34 = nI (((R.take j).drop (c1.toInt - 1).toNat).take c2.toInt.toNat).length ∧ ∀ i, i < (((R.take j).drop (c1.toInt - 1).toNat).take c2.toInt.toNat).length → mi h1 100 i = nI (((((R.take j).drop (c1.toInt - 1).toNat).take c2.toInt.toNat).map fun x => x.2.1).getD i 0)) →
    ∃ h', mx_G (d + 1) 321 166 [some (.ref 76), some (.int (nI k)), some (.int (if dn = true then 1 else 0)), some (.int c1), some (.int c2), some (.int (nI R.length)), some (.int (nI j)), l7] [] h1 = some (some (.int (nI R.length)), h') ∧ mf Ppg h h' ∧ (mi h' 76 34 = nI ((R.drop (c1.toInt - 1).toNat).take c2.toInt.toNat).length ∧ ∀ i, i < ((R.drop (c1.toInt - 1).toNat).take c2.toInt.toNat).length → mi h' 100 i = nI ((((R.drop (c1.toInt - 1).toNat).take c2.toInt.toNat).map fun x => x.2.1).getD i 0)) := by
  intro n
  induction n with
  | zero =>
    intro j h1 hj m P
    have e1 : nI R.length ≤ nI j := nI_le (by omega) (by omega)
    have e2 : R.take j = R := List.take_of_length_le (by omega)
    rw [e2] at P
    refine ⟨h1, ?_, m, P⟩
    simp only [r321_166, r321_168, r321_170, r321_227, r321_229, mx_isr_ref, mx_isr_null, mx_wt_nil, mx_wt_1, mx_wt_2, mx_wt_3, Option.bind_some, Option.toList_some, Option.toList_none, List.cons_append, List.nil_append, mx_nl_int, mx_nl_ref, mx_nl_null, mx_nl_none, mx_nb0, mx_nb1, mx_fb0, mx_fb1, mx_cat_int, mx_cat_ref, if_true, if_false, not_true_eq_false, not_false_eq_true, e1]
  | succ n ih =>
    intro j h1 hj m P
    have T := m.1
    have jl : j < R.length := by omega
    have e1 : ¬ nI R.length ≤ nI j := nI_ge jl (by omega)
    have st := pg_step R (c1.toInt - 1).toNat c2.toInt.toNat j jl
    have ih := ih (j + 1)
    rw [st] at ih
    have pl : (((R.take j).drop (c1.toInt - 1).toNat).take c2.toInt.toNat).length ≤ j := by rw [List.length_take, List.length_drop, List.length_take]; omega
    generalize ((R.take j).drop (c1.toInt - 1).toNat).take c2.toInt.toNat = pg at st ih P pl
    have skip : ¬ ((c1.toInt - 1).toNat ≤ j ∧ pg.length < c2.toInt.toNat) → mx_G (d + 1) 321 166 [some (.ref 76), some (.int (nI k)), some (.int (if dn = true then 1 else 0)), some (.int c1), some (.int c2), some (.int (nI R.length)), some (.int (nI j)), l7] [] h1 = mx_G (d + 1) 321 166 [some (.ref 76), some (.int (nI k)), some (.int (if dn = true then 1 else 0)), some (.int c1), some (.int c2), some (.int (nI R.length)), some (.int (nI (j + 1))), l7] [] h1 →
        ∃ h', mx_G (d + 1) 321 166 [some (.ref 76), some (.int (nI k)), some (.int (if dn = true then 1 else 0)), some (.int c1), some (.int c2), some (.int (nI R.length)), some (.int (nI j)), l7] [] h1 = some (some (.int (nI R.length)), h') ∧ mf Ppg h h' ∧ (mi h' 76 34 = nI ((R.drop (c1.toInt - 1).toNat).take c2.toInt.toNat).length ∧ ∀ i, i < ((R.drop (c1.toInt - 1).toNat).take c2.toInt.toNat).length → mi h' 100 i = nI ((((R.drop (c1.toInt - 1).toNat).take c2.toInt.toNat).map fun x => x.2.1).getD i 0)) := by
      intro hn st2
      rw [st2]
      simp only [if_neg hn] at ih
      exact ih h1 (by omega) m P
    by_cases c3 : c1.toInt ≤ (j : Int) + 1
    · have s1 : ¬ nI (j + 1) < c1 := by rw [Int32.lt_iff_toInt_lt, nI_toInt (by omega)]; omega
      by_cases c4 : pg.length < c2.toInt.toNat
      · have s2 : ¬ c2 ≤ nI pg.length := by rw [Int32.le_iff_toInt_le, nI_toInt (by omega)]; omega
        have hin : (c1.toInt - 1).toNat ≤ j ∧ pg.length < c2.toInt.toNat := ⟨by omega, c4⟩
        simp only [if_pos hin] at ih
        obtain ⟨r8, rr, -, rb⟩ := SP R[j] (List.getElem_mem jl)
        have fj : mi h1 101 j = nI (R[j]).1 := by rw [m.2.1 101 j rfl]; exact A j jl
        have f0 := rm_f (d := d) T (s := (R[j]).1) (o := 0) (by omega)
        rw [m.2.1 77 (80 * (R[j]).1 + 0) rfl, rr.1 0 (by decide), show nI 0 = 0 from rfl, show pe (R[j]).2 0 = nI (R[j]).2.1 from rfl] at f0
        have t1 : (nI j).toNatClampNeg = j := nI_clamp (by omega)
        have t2 : (0 : Int32) ≤ nI j := nI_pos' (by omega)
        have t3 : j < 8 := by omega
        have u1 : (nI pg.length).toNatClampNeg = pg.length := nI_clamp (by omega)
        have u2 : (0 : Int32) ≤ nI pg.length := nI_pos' (by omega)
        have u3 : pg.length < 8 := by omega
        have m2 : mf Ppg h (mx_up h1 100 pg.length (.int (nI (R[j]).2.1))) := mf_up m (by decide) rfl
        have T2 := m2.1
        have m3 : mf Ppg h (mx_up (mx_up h1 100 pg.length (.int (nI (R[j]).2.1))) 76 34 (.int (nI (pg.length + 1)))) := mf_f m2 (by decide) rfl
        have p34 : mi (mx_up h1 100 pg.length (.int (nI (R[j]).2.1))) 76 34 = nI pg.length := by rw [mi_o (by decide), P.1]
        obtain ⟨h', r', m', P'⟩ := ih (mx_up (mx_up h1 100 pg.length (.int (nI (R[j]).2.1))) 76 34 (.int (nI (pg.length + 1)))) (by omega) m3 ⟨by rw [mi_f T2 (by decide), if_pos rfl, List.length_append, List.length_singleton], fun i hi => by
          rw [List.length_append, List.length_singleton] at hi
          rw [mi_o (by decide), mi_a T mr_ty_100 u3, List.map_append, List.getD_eq_getElem?_getD]
          by_cases ci : i = pg.length
          · rw [if_pos ci, ci, List.getElem?_append_right (by rw [List.length_map]; exact Nat.le_refl _), List.length_map, Nat.sub_self]; rfl
          · rw [if_neg ci, List.getElem?_append_left (by rw [List.length_map]; omega), ← List.getD_eq_getElem?_getD]
            exact P.2 i (by omega)⟩
        refine ⟨h', ?_, m', P'⟩
        rw [← r', r321_166]
        simp only [r321_168, r321_170, r321_173, r321_175, r321_176, r321_177, r321_178, r321_181, r321_182, r321_185, r321_187, r321_190, r321_191, r321_194, r321_195, r321_198, r321_199, r321_200, r321_203, r321_205, r321_206, r321_207, r321_210, r321_211, r321_212, r321_213, r321_216, r321_217, r321_218, r321_221, r321_224, mx_isr_ref, mx_isr_null, mx_wt_nil, mx_wt_1, mx_wt_2, mx_wt_3, Option.bind_some, Option.toList_some, Option.toList_none, List.cons_append, List.nil_append, mx_nl_int, mx_nl_ref, mx_nl_null, mx_nl_none, mx_nb0, mx_nb1, mx_fb0, mx_fb1, mx_cat_int, mx_cat_ref, if_true, if_false, not_true_eq_false, not_false_eq_true, T, T2, e1, nI_1, s1, P.1, s2, mr_ty_77, mr_n_77, mr_isI_77, mr_ty_78, mr_n_78, mr_isI_78, mr_ty_79, mr_n_79, mr_isI_79, mr_ty_80, mr_n_80, mr_isI_80, mr_ty_81, mr_n_81, mr_isI_81, mr_ty_82, mr_n_82, mr_isJ_82, mr_ty_83, mr_n_83, mr_isI_83, mr_ty_84, mr_n_84, mr_isI_84, mr_ty_85, mr_n_85, mr_isI_85, mr_ty_86, mr_n_86, mr_isI_86, mr_ty_87, mr_n_87, mr_isI_87, mr_ty_88, mr_n_88, mr_isI_88, mr_ty_89, mr_n_89, mr_isJ_89, mr_ty_90, mr_n_90, mr_isI_90, mr_ty_91, mr_n_91, mr_isI_91, mr_ty_92, mr_n_92, mr_isI_92, mr_ty_93, mr_n_93, mr_isI_93, mr_ty_94, mr_n_94, mr_isI_94, mr_ty_95, mr_n_95, mr_isI_95, mr_ty_96, mr_n_96, mr_isI_96, mr_ty_97, mr_n_97, mr_isI_97, mr_ty_98, mr_n_98, mr_isI_98, mr_ty_99, mr_n_99, mr_isI_99, mr_ty_100, mr_n_100, mr_isI_100, mr_ty_101, mr_n_101, mr_isI_101, mr_isF_1, mr_isF_3, mr_isF_4, mr_isF_10, mr_isF_12, mr_isF_18, mr_isF_19, mr_isF_21, mr_isF_22, mr_isF_23, mr_isF_26, mr_isF_34, mr_isF_37, mr_isF_38, mr_isF_39, mr_T_up, mr_T_upJ, mr_T_f, fj, f0, t1, t2, t3, u1, u2, u3, p34]
      · have s2 : c2 ≤ nI pg.length := by rw [Int32.le_iff_toInt_le, nI_toInt (by omega)]; omega
        refine skip (fun z => c4 z.2) ?_
        rw [r321_166]
        simp only [r321_168, r321_170, r321_173, r321_175, r321_176, r321_177, r321_178, r321_181, r321_182, r321_185, r321_187, r321_190, r321_191, r321_194, r321_195, r321_198, r321_199, r321_200, r321_203, r321_205, r321_206, r321_207, r321_210, r321_211, r321_212, r321_213, r321_216, r321_217, r321_218, r321_221, r321_224, mx_isr_ref, mx_isr_null, mx_wt_nil, mx_wt_1, mx_wt_2, mx_wt_3, Option.bind_some, Option.toList_some, Option.toList_none, List.cons_append, List.nil_append, mx_nl_int, mx_nl_ref, mx_nl_null, mx_nl_none, mx_nb0, mx_nb1, mx_fb0, mx_fb1, mx_cat_int, mx_cat_ref, if_true, if_false, not_true_eq_false, not_false_eq_true, T, e1, nI_1, s1, P.1, s2]
    · have s1 : nI (j + 1) < c1 := by rw [Int32.lt_iff_toInt_lt, nI_toInt (by omega)]; omega
      refine skip (fun z => by omega) ?_
      rw [r321_166]
      simp only [r321_168, r321_170, r321_173, r321_175, r321_176, r321_177, r321_178, r321_181, r321_182, r321_185, r321_187, r321_190, r321_191, r321_194, r321_195, r321_198, r321_199, r321_200, r321_203, r321_205, r321_206, r321_207, r321_210, r321_211, r321_212, r321_213, r321_216, r321_217, r321_218, r321_221, r321_224, mx_isr_ref, mx_isr_null, mx_wt_nil, mx_wt_1, mx_wt_2, mx_wt_3, Option.bind_some, Option.toList_some, Option.toList_none, List.cons_append, List.nil_append, mx_nl_int, mx_nl_ref, mx_nl_null, mx_nl_none, mx_nb0, mx_nb1, mx_fb0, mx_fb1, mx_cat_int, mx_cat_ref, if_true, if_false, not_true_eq_false, not_false_eq_true, e1, nI_1, s1]
end
