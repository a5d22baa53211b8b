section
variable {d : Nat} {h : mx_H} {ts : List tk}
/-- the row of those found, the last one first -/
def pA (h : mx_H) (base : Nat) : List Nat → Prop
  | [] => True
  | x :: l => mi h 101 (l.length + base) = nI x ∧ pA h base l
theorem pA_keep {h h' : mx_H} {base : Nat} : ∀ {l : List Nat}, pA h base l → (∀ k, base ≤ k → k < l.length + base → mi h' 101 k = mi h 101 k) → pA h' base l := by
  intro l
  induction l with
  | nil => intro _ _; exact True.intro
  | cons x l ih => intro S e; exact ⟨(e _ (by omega) (by simp only [List.length_cons]; omega)).trans S.1, ih S.2 fun k h1 h2 => e k h1 (by simp only [List.length_cons]; omega)⟩
theorem pA_app {base : Nat} : ∀ {l m : List Nat}, pA h (m.length + base) l → pA h base m → pA h base (l ++ m) := by
  intro l m
  induction l with
  | nil => intro _ h2; exact h2
  | cons x l ih =>
    intro h1 h2
    refine ⟨?_, ih h1.2 h2⟩
    show mi h 101 ((l ++ m).length + base) = nI x
    rw [List.length_append, Nat.add_assoc]
    exact h1.1
def P101 (a _ : Nat) : Bool := a == 101
def Pq (a _ : Nat) : Bool := a == 91 || (a == 92 || a == 101)
theorem tkq : tkP Pq := ⟨rfl, fun _ => ⟨rfl, rfl, rfl, rfl, rfl⟩⟩
theorem stq : stP Pq := ⟨fun _ _ => rfl, rfl, rfl, fun _ => rfl⟩
/-- places with the people in them -/
abbrev spl : Type := List (Nat × prs)
def spR (h : mx_H) (l : spl) : Prop := ∀ x ∈ l, x.1 < 8 ∧ rcP h x.1 x.2 ∧ wfP x.2 ∧ x.2.1 < 2 ^ 20
def insP (lt : prs → prs → Bool) (x : Nat × prs) : spl → spl
  | [] => [x]
  | y :: l => if lt x.2 y.2 = true then y :: insP lt x l else x :: y :: l
theorem insP_map (lt : prs → prs → Bool) (x : Nat × prs) : ∀ l : spl, (insP lt x l).map (fun y => y.2) = insR lt x.2 (l.map fun y => y.2) := by
  intro l
  induction l with
  | nil => rfl
  | cons y l ih =>
    rw [insP, List.map_cons, insR]
    split
    · rw [List.map_cons, ih]
    · rfl
theorem insP_len (lt : prs → prs → Bool) (x : Nat × prs) : ∀ l : spl, (insP lt x l).length = l.length + 1 := by
  intro l
  induction l with
  | nil => rfl
  | cons y l ih =>
    rw [insP]
    split
    · rw [List.length_cons, ih, List.length_cons]
    · rfl
theorem insP_mem (lt : prs → prs → Bool) (x : Nat × prs) : ∀ (l : spl) y, y ∈ insP lt x l → y = x ∨ y ∈ l := by
  intro l
  induction l with
  | nil => intro y hy; rw [insP] at hy; exact Or.inl (List.mem_singleton.1 hy)
  | cons z l ih =>
    intro y hy
    rw [insP] at hy
    split at hy
    · rcases List.mem_cons.1 hy with e | e
      · exact Or.inr (by rw [e]; exact List.mem_cons_self ..)
      · rcases ih y e with e | e
        · exact Or.inl e
        · exact Or.inr (List.mem_cons_of_mem _ e)
    · rcases List.mem_cons.1 hy with e | e
      · exact Or.inl e
      · exact Or.inr e
theorem spR_mf {P : Nat → Nat → Bool} {h h' : mx_H} {l : spl} (S : spR h l) (m : mf P h h') (hP : ∀ k, P 77 k = false) : spR h' l := fun x hx => ⟨(S x hx).1, rc_mf (S x hx).2.1 m hP, (S x hx).2.2⟩
theorem rm_qI {k s : Nat} {p : prs} (hk : k ≤ 4) (hs : s < 8) {dn : Bool} {c1 c2 : Int32} {n : Nat} (hn : n < 8) (W : wfP p) (b1 : p.1 < 2 ^ 20) : ∀ (suf pre : spl) (h1 : mx_H), pre.length + suf.length = n → rcP h1 s p → spR h1 (pre ++ suf) → mr_T h1 → pA h1 (suf.length + 1) (pre.map fun y => y.1) → pA h1 0 (suf.map fun y => y.1) →
    ∃ h' x, mx_G (d + 4) 321 93 [some (.ref 76), some (.int (nI k)), some (.int (if dn = true then 1 else 0)), some (.int c1), some (.int c2), some (.int (nI n)), some (.int (nI s)), some (.int (nI suf.length))] [] h1 =
      mx_G (d + 4) 321 152 [some (.ref 76), some (.int (nI k)), some (.int (if dn = true then 1 else 0)), some (.int c1), some (.int c2), some (.int (nI (n + 1))), some (.int (nI s)), some (.int x)] [] h' ∧ mf P101 h1 h' ∧ pA h' 0 ((pre ++ insP (bef k dn) (s, p) suf).map fun y => y.1) := by
  have store : ∀ (suf pre : spl) (h1 : mx_H), pre.length + suf.length = n → mr_T h1 → pA h1 (suf.length + 1) (pre.map fun y => y.1) → pA h1 0 (suf.map fun y => y.1) → mx_G (d + 4) 321 140 [some (.ref 76), some (.int (nI k)), some (.int (if dn = true then 1 else 0)), some (.int c1), some (.int c2), some (.int (nI n)), some (.int (nI s)), some (.int (nI suf.length))] [] h1 = mx_G (d + 4) 321 152 [some (.ref 76), some (.int (nI k)), some (.int (if dn = true then 1 else 0)), some (.int c1), some (.int c2), some (.int (nI (n + 1))), some (.int (nI s)), some (.int (nI suf.length))] [] (mx_up h1 101 suf.length (.int (nI s))) ∧ mf P101 h1 (mx_up h1 101 suf.length (.int (nI s))) ∧ pA (mx_up h1 101 suf.length (.int (nI s))) 0 ((pre ++ (s, p) :: suf).map fun y => y.1) := by
    intro suf pre h1 hl T A1 A2
    have t1 : (nI suf.length).toNatClampNeg = suf.length := nI_clamp (by omega)
    have t2 : (0 : Int32) ≤ nI suf.length := nI_pos' (by omega)
    have t3 : suf.length < 8 := by omega
    have rd := fun j => mi_a T mr_ty_101 (k := suf.length) t3 (nI s) j
    refine ⟨by simp only [r321_140, r321_141, r321_144, r321_146, r321_148, r321_149, mx_isr_ref, mx_isr_null, mx_wt_nil, mx_wt_1, mx_wt_2, mx_wt_3, Option.bind_some, Option.toList_some, Option.toList_none, List.cons_append, List.nil_append, mx_nl_int, mx_nl_ref, mx_nl_null, mx_nl_none, mx_nb0, mx_nb1, mx_fb0, mx_fb1, mx_cat_int, mx_cat_ref, if_true, if_false, not_true_eq_false, not_false_eq_true, T, mr_ty_77, mr_n_77, mr_isI_77, mr_ty_78, mr_n_78, mr_isI_78, mr_ty_79, mr_n_79, mr_isI_79, mr_ty_80, mr_n_80, mr_isI_80, mr_ty_81, mr_n_81, mr_isI_81, mr_ty_82, mr_n_82, mr_isJ_82, mr_ty_83, mr_n_83, mr_isI_83, mr_ty_84, mr_n_84, mr_isI_84, mr_ty_85, mr_n_85, mr_isI_85, mr_ty_86, mr_n_86, mr_isI_86, mr_ty_87, mr_n_87, mr_isI_87, mr_ty_88, mr_n_88, mr_isI_88, mr_ty_89, mr_n_89, mr_isJ_89, mr_ty_90, mr_n_90, mr_isI_90, mr_ty_91, mr_n_91, mr_isI_91, mr_ty_92, mr_n_92, mr_isI_92, mr_ty_93, mr_n_93, mr_isI_93, mr_ty_94, mr_n_94, mr_isI_94, mr_ty_95, mr_n_95, mr_isI_95, mr_ty_96, mr_n_96, mr_isI_96, mr_ty_97, mr_n_97, mr_isI_97, mr_ty_98, mr_n_98, mr_isI_98, mr_ty_99, mr_n_99, mr_isI_99, mr_ty_100, mr_n_100, mr_isI_100, mr_ty_101, mr_n_101, mr_isI_101, mr_isF_1, mr_isF_3, mr_isF_4, mr_isF_10, mr_isF_12, mr_isF_18, mr_isF_19, mr_isF_21, mr_isF_22, mr_isF_23, mr_isF_26, mr_isF_34, mr_isF_37, mr_isF_38, mr_isF_39, mr_T_up, mr_T_upJ, mr_T_f, t1, t2, t3, nI_1], mf_up (mf_rfl T) (by decide) rfl, ?_⟩
    rw [List.map_append]
    refine pA_app ?_ ?_
    · simp only [List.map_cons, List.length_cons, List.length_map, Nat.add_zero]
      exact pA_keep A1 fun j h1 h2 => by rw [rd, if_neg (by omega)]
    · rw [List.map_cons]
      refine ⟨?_, pA_keep A2 fun j h1 h2 => ?_⟩
      · rw [rd, if_pos (by simp)]
      · rw [List.length_map] at h2
        rw [rd, if_neg (by omega)]
  intro suf
  induction suf with
  | nil =>
    intro pre h1 hl R S T A1 A2
    obtain ⟨r, m, A⟩ := store [] pre h1 hl T A1 A2
    refine ⟨_, nI ([] : spl).length, ?_, m, A⟩
    rw [← r]
    simp only [r321_93, r321_95, mx_isr_ref, mx_isr_null, mx_wt_nil, mx_wt_1, mx_wt_2, mx_wt_3, Option.bind_some, Option.toList_some, Option.toList_none, List.cons_append, List.nil_append, mx_nl_int, mx_nl_ref, mx_nl_null, mx_nl_none, mx_nb0, mx_nb1, mx_fb0, mx_fb1, mx_cat_int, mx_cat_ref, if_true, if_false, not_true_eq_false, not_false_eq_true, List.length_nil, show nI 0 ≤ 0 by decide]
  | cons y suf ih =>
    intro pre h1 hl R S T A1 A2
    obtain ⟨y8, Ry, Wy, by1⟩ := S y (List.mem_append_right _ (List.mem_cons_self ..))
    simp only [List.length_cons] at hl
    have e0 : ¬ nI (suf.length + 1) ≤ 0 := nI_nle (by omega) (by omega)
    have e1 : nI (suf.length + 1) - 1 = nI suf.length := nI_pred _
    have t1 : (nI suf.length).toNatClampNeg = suf.length := nI_clamp (by omega)
    have t2 : (0 : Int32) ≤ nI suf.length := nI_pos' (by omega)
    have t3 : suf.length < 8 := by omega
    have rd : mi h1 101 suf.length = nI y.1 := by have := A2.1; rw [List.length_map] at this; exact this
    have be := rm_before (d := d) T R W (by omega) Ry Wy (by omega) hk b1 by1 dn
    by_cases c : bef k dn p y.2 = true
    · rw [if_pos c] at be
      have u1 : (nI (suf.length + 1)).toNatClampNeg = suf.length + 1 := nI_clamp (by omega)
      have u2 : (0 : Int32) ≤ nI (suf.length + 1) := nI_pos' (by omega)
      have u3 : suf.length + 1 < 8 := by omega
      have m2 : mf P101 h1 (mx_up h1 101 (suf.length + 1) (.int (nI y.1))) := mf_up (mf_rfl T) (by decide) rfl
      have T2 := m2.1
      have rd2 := fun j => mi_a T mr_ty_101 (k := suf.length + 1) u3 (nI y.1) j
      obtain ⟨h', x, r, m, A⟩ := ih (pre ++ [y]) (mx_up h1 101 (suf.length + 1) (.int (nI y.1))) (by simp; omega) (rc_mf R m2 fun _ => rfl) (by rw [List.append_assoc]; exact spR_mf S m2 fun _ => rfl) T2 (by
        rw [List.map_append]
        refine pA_app ?_ ?_
        · simp only [List.map_cons, List.map_nil, List.length_cons, List.length_nil]
          rw [show 0 + 1 + (suf.length + 1) = suf.length + 1 + 1 by omega]
          exact pA_keep A1 fun j h1 h2 => by rw [rd2, if_neg (by omega)]
        · refine ⟨?_, True.intro⟩
          rw [rd2, if_pos (by simp)]) (pA_keep A2.2 fun j h1 h2 => by rw [List.length_map] at h2; rw [rd2, if_neg (by omega)])
      refine ⟨h', x, ?_, mf_trans m2 m, ?_⟩
      · rw [← r, List.length_cons, r321_93]
        have e5 : nI (suf.length + 1) + (-1) = nI suf.length := nI_m1 _ (by omega)
        simp only [r321_95, r321_98, r321_99, r321_101, r321_102, r321_105, r321_107, r321_108, r321_109, r321_110, r321_111, r321_112, r321_115, r321_118, r321_119, r321_122, r321_124, r321_125, r321_128, r321_130, r321_131, r321_132, r321_133, r321_134, r321_137, mx_isr_ref, mx_isr_null, mx_wt_nil, mx_wt_1, mx_wt_2, mx_wt_3, Option.bind_some, Option.toList_some, Option.toList_none, List.cons_append, List.nil_append, mx_nl_int, mx_nl_ref, mx_nl_null, mx_nl_none, mx_nb0, mx_nb1, mx_fb0, mx_fb1, mx_cat_int, mx_cat_ref, if_true, if_false, not_true_eq_false, not_false_eq_true, T, e0, e1, mr_ty_77, mr_n_77, mr_isI_77, mr_ty_78, mr_n_78, mr_isI_78, mr_ty_79, mr_n_79, mr_isI_79, mr_ty_80, mr_n_80, mr_isI_80, mr_ty_81, mr_n_81, mr_isI_81, mr_ty_82, mr_n_82, mr_isJ_82, mr_ty_83, mr_n_83, mr_isI_83, mr_ty_84, mr_n_84, mr_isI_84, mr_ty_85, mr_n_85, mr_isI_85, mr_ty_86, mr_n_86, mr_isI_86, mr_ty_87, mr_n_87, mr_isI_87, mr_ty_88, mr_n_88, mr_isI_88, mr_ty_89, mr_n_89, mr_isJ_89, mr_ty_90, mr_n_90, mr_isI_90, mr_ty_91, mr_n_91, mr_isI_91, mr_ty_92, mr_n_92, mr_isI_92, mr_ty_93, mr_n_93, mr_isI_93, mr_ty_94, mr_n_94, mr_isI_94, mr_ty_95, mr_n_95, mr_isI_95, mr_ty_96, mr_n_96, mr_isI_96, mr_ty_97, mr_n_97, mr_isI_97, mr_ty_98, mr_n_98, mr_isI_98, mr_ty_99, mr_n_99, mr_isI_99, mr_ty_100, mr_n_100, mr_isI_100, mr_ty_101, mr_n_101, mr_isI_101, mr_isF_1, mr_isF_3, mr_isF_4, mr_isF_10, mr_isF_12, mr_isF_18, mr_isF_19, mr_isF_21, mr_isF_22, mr_isF_23, mr_isF_26, mr_isF_34, mr_isF_37, mr_isF_38, mr_isF_39, mr_T_up, mr_T_upJ, mr_T_f, t1, t2, t3, rd, be, u1, u2, u3, e5, show ¬ (1 : Int32) = 0 by decide]
      · rw [insP, if_pos c]
        rw [List.append_assoc] at A
        exact A
    · rw [if_neg c] at be
      obtain ⟨r, m, A⟩ := store (y :: suf) pre h1 (by simp only [List.length_cons]; omega) T A1 A2
      refine ⟨_, nI (y :: suf).length, ?_, m, by rw [insP, if_neg c]; exact A⟩
      rw [← r, List.length_cons]
      simp only [r321_93, r321_95, r321_98, r321_99, r321_101, r321_102, r321_105, r321_107, r321_108, r321_109, r321_110, r321_111, r321_112, r321_115, mx_isr_ref, mx_isr_null, mx_wt_nil, mx_wt_1, mx_wt_2, mx_wt_3, Option.bind_some, Option.toList_some, Option.toList_none, List.cons_append, List.nil_append, mx_nl_int, mx_nl_ref, mx_nl_null, mx_nl_none, mx_nb0, mx_nb1, mx_fb0, mx_fb1, mx_cat_int, mx_cat_ref, if_true, if_false, not_true_eq_false, not_false_eq_true, T, e0, e1, mr_ty_77, mr_n_77, mr_isI_77, mr_ty_78, mr_n_78, mr_isI_78, mr_ty_79, mr_n_79, mr_isI_79, mr_ty_80, mr_n_80, mr_isI_80, mr_ty_81, mr_n_81, mr_isI_81, mr_ty_82, mr_n_82, mr_isJ_82, mr_ty_83, mr_n_83, mr_isI_83, mr_ty_84, mr_n_84, mr_isI_84, mr_ty_85, mr_n_85, mr_isI_85, mr_ty_86, mr_n_86, mr_isI_86, mr_ty_87, mr_n_87, mr_isI_87, mr_ty_88, mr_n_88, mr_isI_88, mr_ty_89, mr_n_89, mr_isJ_89, mr_ty_90, mr_n_90, mr_isI_90, mr_ty_91, mr_n_91, mr_isI_91, mr_ty_92, mr_n_92, mr_isI_92, mr_ty_93, mr_n_93, mr_isI_93, mr_ty_94, mr_n_94, mr_isI_94, mr_ty_95, mr_n_95, mr_isI_95, mr_ty_96, mr_n_96, mr_isI_96, mr_ty_97, mr_n_97, mr_isI_97, mr_ty_98, mr_n_98, mr_isI_98, mr_ty_99, mr_n_99, mr_isI_99, mr_ty_100, mr_n_100, mr_isI_100, mr_ty_101, mr_n_101, mr_isI_101, mr_isF_1, mr_isF_3, mr_isF_4, mr_isF_10, mr_isF_12, mr_isF_18, mr_isF_19, mr_isF_21, mr_isF_22, mr_isF_23, mr_isF_26, mr_isF_34, mr_isF_37, mr_isF_38, mr_isF_39, mr_T_up, mr_T_upJ, mr_T_f, t1, t2, t3, rd, be]
theorem rm_matches0 {s : Int32} : mx_G d 322 0 [some (.ref 76), some (.int s), some (.int (nI 0)), none, none, none, none, none] [] h = some (some (.int 1), h) := by
  simp only [r322_0, r322_1, r322_2, r322_3, r322_5, r322_7, r322_8, r322_256, r322_257, r322_260, r322_261, r322_264, r322_265, r322_266, r322_269, r322_270, r322_273, r322_274, mx_isr_ref, mx_isr_null, mx_wt_nil, mx_wt_1, mx_wt_2, mx_wt_3, Option.bind_some, Option.toList_some, Option.toList_none, List.cons_append, List.nil_append, mx_nl_int, mx_nl_ref, mx_nl_null, mx_nl_none, mx_nb0, mx_nb1, mx_fb0, mx_fb1, mx_cat_int, mx_cat_ref, if_true, if_false, not_true_eq_false, not_false_eq_true, show nI 0 = 0 by decide, show (0 : Int32) ≤ 0 by decide]
/-- what a slot adds -/
def slA (lt : prs → prs → Bool) (g : prs → Bool) (s : Nat) (o : Option prs) (acc : spl) : spl := match o with
  | none => acc
  | some p => if g p = true then insP lt (s, p) acc else acc
theorem rm_qL {sl : slt} {sT : sto} (M : mSt h sl sT) (S : rm_TK h ts) (K : tkOK ts) {k : Nat} (hk : k ≤ 4) {dn : Bool} {c1 c2 : Int32} {c : List stp} (h12 : mi h 76 12 = nI c.length) (V : rowR h ts 0 c) {g : prs → Bool} (hg : ∀ p, (c = [] → g p = true) ∧ (c ≠ [] → vW (hd ts) itn false p none c (g p))) :
    ∀ (n s : Nat) (acc : spl) (h1 : mx_H) (l7 : Option Value), s + n = 8 → acc.length ≤ s → mf Pq h h1 → spR h1 acc → pA h1 0 (acc.map fun y => y.1) →
    ∃ h' l7' acc', mx_G (d + 8) 321 59 [some (.ref 76), some (.int (nI k)), some (.int (if dn = true then 1 else 0)), some (.int c1), some (.int c2), some (.int (nI acc.length)), some (.int (nI s)), l7] [] h1 =
      mx_G (d + 8) 321 158 [some (.ref 76), some (.int (nI k)), some (.int (if dn = true then 1 else 0)), some (.int c1), some (.int c2), some (.int (nI acc'.length)), some (.int (nI 8)), l7'] [] h' ∧ mf Pq h h' ∧ spR h' acc' ∧ acc'.length ≤ 8 ∧ pA h' 0 (acc'.map fun y => y.1) ∧ acc'.map (fun y => y.2) = ((ppl (sl.drop s)).filter g).foldl (fun a x => insR (bef k dn) x a) (acc.map fun y => y.2) := by
  have hl8 := M.2.1.1
  intro n
  induction n with
  | zero =>
    intro s acc h1 l7 hs ha m SP A
    have : s = 8 := by omega
    subst this
    refine ⟨h1, l7, acc, ?_, m, SP, by omega, A, ?_⟩
    · simp only [r321_59, r321_61, r321_63, mx_isr_ref, mx_isr_null, mx_wt_nil, mx_wt_1, mx_wt_2, mx_wt_3, Option.bind_some, Option.toList_some, Option.toList_none, List.cons_append, List.nil_append, mx_nl_int, mx_nl_ref, mx_nl_null, mx_nl_none, mx_nb0, mx_nb1, mx_fb0, mx_fb1, mx_cat_int, mx_cat_ref, if_true, if_false, not_true_eq_false, not_false_eq_true, show (8 : Int32) ≤ nI 8 by decide]
    · rw [List.drop_eq_nil_iff.2 (by omega)]; rfl
  | succ n ih =>
    intro s acc h1 l7 hs ha m SP A
    have T := m.1
    have E := M.2.2.1 s (by omega)
    have e1 : ¬ (8 : Int32) ≤ nI s := nI_ge (b := 8) (by omega) (by decide)
    have f0 := rm_f (d := d + 7) T (s := s) (o := 0) (by omega)
    rw [show nI 0 = 0 from rfl, show 80 * s + 0 = 80 * s from rfl, m.2.1 77 (80 * s) rfl, slE_id E] at f0
    have sl' : s < sl.length := by omega
    have dr : sl.drop s = sl[s] :: sl.drop (s + 1) := List.drop_eq_getElem_cons sl'
    have gs : sl.getD s none = sl[s] := by rw [List.getD_eq_getElem?_getD, List.getElem?_eq_getElem sl']; rfl
    have nxt : ∀ (h2 : mx_H) (n' : Int32) (l7' : Option Value), mx_G (d + 8) 321 152 [some (.ref 76), some (.int (nI k)), some (.int (if dn = true then 1 else 0)), some (.int c1), some (.int c2), some (.int n'), some (.int (nI s)), l7'] [] h2 = mx_G (d + 8) 321 59 [some (.ref 76), some (.int (nI k)), some (.int (if dn = true then 1 else 0)), some (.int c1), some (.int c2), some (.int n'), some (.int (nI (s + 1))), l7'] [] h2 := by
      intro h2 n' l7'
      simp only [r321_152, r321_155, mx_isr_ref, mx_isr_null, mx_wt_nil, mx_wt_1, mx_wt_2, mx_wt_3, Option.bind_some, Option.toList_some, Option.toList_none, List.cons_append, List.nil_append, mx_nl_int, mx_nl_ref, mx_nl_null, mx_nl_none, mx_nb0, mx_nb1, mx_fb0, mx_fb1, mx_cat_int, mx_cat_ref, if_true, if_false, not_true_eq_false, not_false_eq_true, nI_1]
    cases z : sl[s] with
    | none =>
      rw [gs, z, show oid none = 0 from rfl] at f0
      obtain ⟨h', l7', acc', r, rest⟩ := ih (s + 1) acc h1 l7 (by omega) (by omega) m SP A
      refine ⟨h', l7', acc', ?_, ?_⟩
      · rw [← r, ← nxt]
        simp only [r321_59, r321_61, r321_63, r321_66, r321_67, r321_69, r321_70, r321_73, mx_isr_ref, mx_isr_null, mx_wt_nil, mx_wt_1, mx_wt_2, mx_wt_3, Option.bind_some, Option.toList_some, Option.toList_none, List.cons_append, List.nil_append, mx_nl_int, mx_nl_ref, mx_nl_null, mx_nl_none, mx_nb0, mx_nb1, mx_fb0, mx_fb1, mx_cat_int, mx_cat_ref, if_true, if_false, not_true_eq_false, not_false_eq_true, T, e1, f0, show nI 0 ≤ 0 by decide]
      · rw [dr, z]; exact rest
    | some p =>
      rw [gs, z] at E
      rw [gs, z, show oid (some p) = p.1 from rfl] at f0
      have R1 : rcP h1 s p := rc_mf E.1 m fun _ => rfl
      have W := E.2.1
      have e2 : ¬ nI p.1 ≤ 0 := nI_nle E.2.2.1 (by have := E.2.2.2.1; omega)
      have h12' : mi h1 76 12 = nI c.length := by rw [m.2.1 76 12 rfl, h12]
      obtain ⟨h2, r2, m2⟩ : ∃ h2, mx_G (d + 7) 322 0 [some (.ref 76), some (.int (nI s)), some (.int (nI c.length)), none, none, none, none, none] [] h1 = some (some (.int (if g p = true then 1 else 0)), h2) ∧ mf P91 h1 h2 := by
        by_cases cc : c = []
        · refine ⟨h1, ?_, mf_rfl T⟩
          rw [(hg p).1 cc, cc]
          exact rm_matches0
        · exact rm_matches (d := d) (TK_mf S m tkq) K R1 W (by omega) E.2.2.2.1 E.2.2.2.2 ⟨V.1, fun j hj => ⟨stpR_mf (V.2 j hj).1 m fun _ => ⟨rfl, rfl, rfl, rfl, rfl⟩, (V.2 j hj).2⟩⟩ ((hg p).2 cc) cc
      have m2' : mf Pq h h2 := mf_trans m (mf_mono (fun a k e => by unfold Pq at e; unfold P91; simp at e ⊢; omega) m2)
      have T2 := m2.1
      have SP2 : spR h2 acc := spR_mf SP m2 fun _ => rfl
      have A2 : pA h2 0 (acc.map fun y => y.1) := pA_keep A fun j _ _ => m2.2.1 101 j rfl
      have pd : ppl (some p :: sl.drop (s + 1)) = p :: ppl (sl.drop (s + 1)) := rfl
      cases zg : g p with
      | false =>
        rw [zg] at r2
        obtain ⟨h', l7', acc', r, rest⟩ := ih (s + 1) acc h2 l7 (by omega) (by omega) m2' SP2 A2
        refine ⟨h', l7', acc', ?_, ?_⟩
        · rw [← r, ← nxt]
          simp only [r321_59, r321_61, r321_63, r321_66, r321_67, r321_69, r321_70, r321_73, r321_76, r321_77, r321_79, r321_80, r321_83, r321_86, mx_isr_ref, mx_isr_null, mx_wt_nil, mx_wt_1, mx_wt_2, mx_wt_3, Option.bind_some, Option.toList_some, Option.toList_none, List.cons_append, List.nil_append, mx_nl_int, mx_nl_ref, mx_nl_null, mx_nl_none, mx_nb0, mx_nb1, mx_fb0, mx_fb1, mx_cat_int, mx_cat_ref, if_true, if_false, not_true_eq_false, not_false_eq_true, T, T2, e1, f0, e2, h12', r2, Bool.false_eq_true]
        · rw [dr, z, pd, List.filter_cons_of_neg (by rw [zg]; decide)]; exact rest
      | true =>
        rw [zg] at r2
        have R2 := rc_mf R1 m2 fun _ => rfl
        obtain ⟨h3, x, r3, m3, A3⟩ := rm_qI (d := d + 4) (c1 := c1) (c2 := c2) (dn := dn) hk (s := s) (by omega) (n := acc.length) (by omega) W E.2.2.2.1 acc [] h2 (by simp) R2 (by simpa using SP2) T2 True.intro A2
        rw [List.nil_append] at A3
        have m3' : mf Pq h h3 := mf_trans m2' (mf_mono (fun a k e => by unfold Pq at e; unfold P101; simp at e ⊢; omega) m3)
        have SP3 : spR h3 (insP (bef k dn) (s, p) acc) := by
          intro y hy
          rcases insP_mem _ _ _ y hy with e | e
          · rw [e]; exact ⟨by omega, rc_mf R2 m3 fun _ => rfl, W, E.2.2.2.1⟩
          · exact spR_mf SP2 m3 (fun _ => rfl) y e
        obtain ⟨h', l7', acc', r, rest⟩ := ih (s + 1) (insP (bef k dn) (s, p) acc) h3 (some (.int x)) (by omega) (by rw [insP_len]; omega) m3' SP3 A3
        refine ⟨h', l7', acc', ?_, ?_⟩
        · rw [← r, ← nxt, insP_len, ← r3]
          simp only [r321_59, r321_61, r321_63, r321_66, r321_67, r321_69, r321_70, r321_73, r321_76, r321_77, r321_79, r321_80, r321_83, r321_86, r321_89, r321_91, mx_isr_ref, mx_isr_null, mx_wt_nil, mx_wt_1, mx_wt_2, mx_wt_3, Option.bind_some, Option.toList_some, Option.toList_none, List.cons_append, List.nil_append, mx_nl_int, mx_nl_ref, mx_nl_null, mx_nl_none, mx_nb0, mx_nb1, mx_fb0, mx_fb1, mx_cat_int, mx_cat_ref, if_true, if_false, not_true_eq_false, not_false_eq_true, T, T2, e1, f0, e2, h12', r2, show ¬ (1 : Int32) = 0 by decide]
        · rw [dr, z, pd, List.filter_cons_of_pos zg, List.foldl_cons]
          rw [insP_map] at rest
          exact rest
end
