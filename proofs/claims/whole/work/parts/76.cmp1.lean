section
variable {d : Nat} {h : mx_H} {ts : List tk}
def Pcp (a k : Nat) : Bool := (decide (85 ≤ a) && decide (a ≤ 90)) || (a == 76 && (k == 12 || (k == 18 || (k == 19 || (k == 21 || (k == 22 || k == 23))))))
theorem tkcp : tkP Pcp := ⟨rfl, fun _ => ⟨rfl, rfl, rfl, rfl, rfl⟩⟩
theorem stcp : stP Pcp := ⟨fun _ _ => rfl, rfl, rfl, fun _ => rfl⟩
/-- a step in the model's rows -/
def stpR (h : mx_H) (i : Nat) (q : stp) : Prop := (q.1 = 0 → mi h 85 i = 0 ∧ mi h 86 i = nI q.2.1 ∧ ml h 89 i = w27 q.2.2.1 ∧ mi h 87 i = nI q.2.2.2) ∧ (q.1 = 4 → mi h 85 i = 4 ∧ mi h 88 i = nI (i + 1 + q.2.2.2)) ∧ (q.1 = 5 → mi h 85 i = 4) ∧ (1 ≤ q.1 → q.1 ≤ 3 → mi h 85 i = nI q.1)
theorem stpR_keep {h h' : mx_H} {i : Nat} {q : stp} (S : stpR h i q) (h1 : mi h' 85 i = mi h 85 i) (h2 : mi h' 86 i = mi h 86 i) (h3 : ml h' 89 i = ml h 89 i) (h4 : mi h' 87 i = mi h 87 i) (h5 : mi h' 88 i = mi h 88 i) : stpR h' i q := by
  refine ⟨fun z => ?_, fun z => ?_, fun z => ?_, fun y z => ?_⟩
  · rw [h1, h2, h3, h4]; exact S.1 z
  · rw [h1, h5]; exact S.2.1 z
  · rw [h1]; exact S.2.2.1 z
  · rw [h1]; exact S.2.2.2 y z
def sG (out : List stp) (i : Nat) : stp := out.getD i (sp 9)
def outR (h : mx_H) (out : List stp) : Prop := mi h 76 12 = nI out.length ∧ ∀ i, i < out.length → stpR h i (sG out i)
def stkA (h : mx_H) : List Nat → Prop
  | [] => True
  | x :: s => mi h 90 s.length = nI x ∧ x < 10 ∧ stkA h s
theorem stkA_keep {h h' : mx_H} : ∀ {s : List Nat}, stkA h s → (∀ k, k < s.length → mi h' 90 k = mi h 90 k) → stkA h' s := by
  intro s
  induction s with
  | nil => intro _ _; exact True.intro
  | cons x s ih => intro S e; exact ⟨(e _ (by simp)).trans S.1, S.2.1, ih S.2.2 fun k hk => e k (by simp; omega)⟩
/-- the reader's state -/
def cR (h : mx_H) (D : Nat) (w wr : Bool) (s : List Nat) (out : List stp) (i : Nat) : Prop :=
  mr_T h ∧ mi h 76 21 = nI D ∧ D ≤ 7 ∧ mi h 76 22 = (if w = true then 1 else 0) ∧ mi h 76 23 = (if wr = true then 1 else 0) ∧ mi h 76 18 = nI i ∧ mi h 76 19 = nI s.length ∧ stkA h s ∧ outR h out
theorem mi_f (T : mr_T h) {k : Nat} (hk : k < 40) (x : Int32) (j : Nat) : mi (mx_up h 76 k (.int x)) 76 j = if j = k then x else mi h 76 j := by
  rw [mi_up, T.2.1]
  by_cases e : j = k
  · rw [if_pos ⟨rfl, e, hk⟩, if_pos e]
  · rw [if_neg (fun z => e z.2.1), if_neg e]
theorem mi_a (T : mr_T h) {a k : Nat} {ty : FieldType} (hA : mr_ty a = some ty) (hk : k < mr_n a) (x : Int32) (j : Nat) : mi (mx_up h a k (.int x)) a j = if j = k then x else mi h a j := by
  rw [mi_up, mr_ln T hA]
  by_cases e : j = k
  · rw [if_pos ⟨rfl, e, hk⟩, if_pos e]
  · rw [if_neg (fun z => e z.2.1), if_neg e]
theorem mi_o {a b k : Nat} (e : b ≠ a) (x : Int32) (j : Nat) : mi (mx_up h a k (.int x)) b j = mi h b j := by
  rw [mi_up, if_neg (fun z => e z.1)]
theorem sG_app {out : List stp} {q : stp} {i : Nat} (hi : i < (out ++ [q]).length) : sG (out ++ [q]) i = if i = out.length then q else sG out i := by
  unfold sG
  rw [List.getD_eq_getElem?_getD, List.getD_eq_getElem?_getD]
  by_cases e : i = out.length
  · rw [if_pos e, e, List.getElem?_append_right (Nat.le_refl _), Nat.sub_self]; rfl
  · rw [if_neg e, List.getElem?_append_left (by rw [List.length_append, List.length_singleton] at hi; omega)]
theorem rm_add (T : mr_T h) {n : Nat} {x : Int32} (hn : mi h 76 12 = nI n) (h1 : n < 130) : mx_G d 296 0 [some (.ref 76), some (.int x)] [] h = some (none, mx_up (mx_up h 85 n (.int x)) 76 12 (.int (nI (n + 1)))) := by
  have t1 : (nI n).toNatClampNeg = n := nI_clamp (by omega)
  have t2 : (0 : Int32) ≤ nI n := nI_pos' (by omega)
  have T1 : mr_T (mx_up h 85 n (.int x)) := mr_T_up T (by decide) x
  have r : mi (mx_up h 85 n (.int x)) 76 12 = nI n := by rw [mi_o (by decide), hn]
  simp only [r296_0, r296_1, r296_4, r296_5, r296_8, r296_9, r296_10, r296_11, r296_12, r296_15, r296_16, r296_17, r296_20, mx_isr_ref, mx_isr_null, mx_wt_nil, mx_wt_1, mx_wt_2, mx_wt_3, Option.bind_some, Option.toList_some, Option.toList_none, List.cons_append, List.nil_append, mx_nl_int, mx_nl_ref, mx_nl_null, mx_nl_none, mx_nb0, mx_nb1, mx_fb0, mx_fb1, mx_cat_int, mx_cat_ref, if_true, if_false, not_true_eq_false, not_false_eq_true, T, T1, mr_ty_77, mr_n_77, mr_isI_77, mr_ty_78, mr_n_78, mr_isI_78, mr_ty_79, mr_n_79, mr_isI_79, mr_ty_80, mr_n_80, mr_isI_80, mr_ty_81, mr_n_81, mr_isI_81, mr_ty_82, mr_n_82, mr_isJ_82, mr_ty_83, mr_n_83, mr_isI_83, mr_ty_84, mr_n_84, mr_isI_84, mr_ty_85, mr_n_85, mr_isI_85, mr_ty_86, mr_n_86, mr_isI_86, mr_ty_87, mr_n_87, mr_isI_87, mr_ty_88, mr_n_88, mr_isI_88, mr_ty_89, mr_n_89, mr_isJ_89, mr_ty_90, mr_n_90, mr_isI_90, mr_ty_91, mr_n_91, mr_isI_91, mr_ty_92, mr_n_92, mr_isI_92, mr_ty_93, mr_n_93, mr_isI_93, mr_ty_94, mr_n_94, mr_isI_94, mr_ty_95, mr_n_95, mr_isI_95, mr_ty_96, mr_n_96, mr_isI_96, mr_ty_97, mr_n_97, mr_isI_97, mr_ty_98, mr_n_98, mr_isI_98, mr_ty_99, mr_n_99, mr_isI_99, mr_ty_100, mr_n_100, mr_isI_100, mr_ty_101, mr_n_101, mr_isI_101, mr_isF_1, mr_isF_3, mr_isF_4, mr_isF_10, mr_isF_12, mr_isF_18, mr_isF_19, mr_isF_21, mr_isF_22, mr_isF_23, mr_isF_26, mr_isF_34, mr_isF_37, mr_isF_38, mr_isF_39, mr_T_up, mr_T_upJ, mr_T_f, hn, t1, t2, h1, r, nI_1]
theorem rm_push (T : mr_T h) {n : Nat} {x : Int32} (hn : mi h 76 19 = nI n) (h1 : n < 130) : mx_G d 295 0 [some (.ref 76), some (.int x)] [] h = some (none, mx_up (mx_up h 90 n (.int x)) 76 19 (.int (nI (n + 1)))) := by
  have t1 : (nI n).toNatClampNeg = n := nI_clamp (by omega)
  have t2 : (0 : Int32) ≤ nI n := nI_pos' (by omega)
  have T1 : mr_T (mx_up h 90 n (.int x)) := mr_T_up T (by decide) x
  have r : mi (mx_up h 90 n (.int x)) 76 19 = nI n := by rw [mi_o (by decide), hn]
  simp only [r295_0, r295_1, r295_4, r295_5, r295_8, r295_9, r295_10, r295_11, r295_12, r295_15, r295_16, r295_17, r295_20, mx_isr_ref, mx_isr_null, mx_wt_nil, mx_wt_1, mx_wt_2, mx_wt_3, Option.bind_some, Option.toList_some, Option.toList_none, List.cons_append, List.nil_append, mx_nl_int, mx_nl_ref, mx_nl_null, mx_nl_none, mx_nb0, mx_nb1, mx_fb0, mx_fb1, mx_cat_int, mx_cat_ref, if_true, if_false, not_true_eq_false, not_false_eq_true, T, T1, mr_ty_77, mr_n_77, mr_isI_77, mr_ty_78, mr_n_78, mr_isI_78, mr_ty_79, mr_n_79, mr_isI_79, mr_ty_80, mr_n_80, mr_isI_80, mr_ty_81, mr_n_81, mr_isI_81, mr_ty_82, mr_n_82, mr_isJ_82, mr_ty_83, mr_n_83, mr_isI_83, mr_ty_84, mr_n_84, mr_isI_84, mr_ty_85, mr_n_85, mr_isI_85, mr_ty_86, mr_n_86, mr_isI_86, mr_ty_87, mr_n_87, mr_isI_87, mr_ty_88, mr_n_88, mr_isI_88, mr_ty_89, mr_n_89, mr_isJ_89, mr_ty_90, mr_n_90, mr_isI_90, mr_ty_91, mr_n_91, mr_isI_91, mr_ty_92, mr_n_92, mr_isI_92, mr_ty_93, mr_n_93, mr_isI_93, mr_ty_94, mr_n_94, mr_isI_94, mr_ty_95, mr_n_95, mr_isI_95, mr_ty_96, mr_n_96, mr_isI_96, mr_ty_97, mr_n_97, mr_isI_97, mr_ty_98, mr_n_98, mr_isI_98, mr_ty_99, mr_n_99, mr_isI_99, mr_ty_100, mr_n_100, mr_isI_100, mr_ty_101, mr_n_101, mr_isI_101, mr_isF_1, mr_isF_3, mr_isF_4, mr_isF_10, mr_isF_12, mr_isF_18, mr_isF_19, mr_isF_21, mr_isF_22, mr_isF_23, mr_isF_26, mr_isF_34, mr_isF_37, mr_isF_38, mr_isF_39, mr_T_up, mr_T_upJ, mr_T_f, hn, t1, t2, h1, r, nI_1]
theorem cR_add {D : Nat} {w wr : Bool} {s : List Nat} {out : List stp} {i : Nat} (C : cR h D w wr s out i) {q : stp} {x : Int32} (ho : out.length < 130) (hx : stpR (mx_up h 85 out.length (.int x)) out.length q) :
    cR (mx_up (mx_up h 85 out.length (.int x)) 76 12 (.int (nI (out.length + 1)))) D w wr s (out ++ [q]) i ∧ mf Pcp h (mx_up (mx_up h 85 out.length (.int x)) 76 12 (.int (nI (out.length + 1)))) := by
  obtain ⟨T, c1, c2, c3, c4, c5, c6, c7, c8, c9⟩ := C
  have T1 : mr_T (mx_up h 85 out.length (.int x)) := mr_T_up T (by decide) x
  have T2 : mr_T (mx_up (mx_up h 85 out.length (.int x)) 76 12 (.int (nI (out.length + 1)))) := mr_T_f T1 (by decide) _
  have rf : ∀ j, j ≠ 12 → mi (mx_up (mx_up h 85 out.length (.int x)) 76 12 (.int (nI (out.length + 1)))) 76 j = mi h 76 j := fun j hj => by rw [mi_f T1 (by decide), if_neg hj, mi_o (by decide)]
  refine ⟨⟨T2, by rw [rf _ (by decide), c1], c2, by rw [rf _ (by decide), c3], by rw [rf _ (by decide), c4], by rw [rf _ (by decide), c5], by rw [rf _ (by decide), c6], stkA_keep c7 fun k _ => by rw [mi_o (by decide), mi_o (by decide)], ?_, fun j hj => ?_⟩, mf_f (mf_up (mf_rfl T) (by decide) rfl) (by decide) rfl⟩
  · rw [mi_f T1 (by decide), if_pos rfl, List.length_append, List.length_singleton]
  · rw [sG_app hj]
    by_cases e : j = out.length
    · rw [if_pos e, e]
      exact stpR_keep hx (mi_o (by decide) _ _) (mi_o (by decide) _ _) (ml_upI _ _ _ _ _ _ (by decide)) (mi_o (by decide) _ _) (mi_o (by decide) _ _)
    · rw [if_neg e]
      rw [List.length_append, List.length_singleton] at hj
      exact stpR_keep (c9 j (by omega)) (by rw [mi_o (by decide), mi_a T mr_ty_85 (by show _ < 130; omega), if_neg e]) (by rw [mi_o (by decide), mi_o (by decide)]) (by rw [ml_upI _ _ _ _ _ _ (by decide), ml_upI _ _ _ _ _ _ (by decide)]) (by rw [mi_o (by decide), mi_o (by decide)]) (by rw [mi_o (by decide), mi_o (by decide)])
theorem cR_push {D : Nat} {w wr : Bool} {s : List Nat} {out : List stp} {i x : Nat} (C : cR h D w wr s out i) (hs : s.length < 130) (hx : x < 10) :
    cR (mx_up (mx_up h 90 s.length (.int (nI x))) 76 19 (.int (nI (s.length + 1)))) D w wr (x :: s) out i ∧ mf Pcp h (mx_up (mx_up h 90 s.length (.int (nI x))) 76 19 (.int (nI (s.length + 1)))) := by
  obtain ⟨T, c1, c2, c3, c4, c5, c6, c7, c8, c9⟩ := C
  have T1 : mr_T (mx_up h 90 s.length (.int (nI x))) := mr_T_up T (by decide) _
  have T2 : mr_T (mx_up (mx_up h 90 s.length (.int (nI x))) 76 19 (.int (nI (s.length + 1)))) := mr_T_f T1 (by decide) _
  have rf : ∀ j, j ≠ 19 → mi (mx_up (mx_up h 90 s.length (.int (nI x))) 76 19 (.int (nI (s.length + 1)))) 76 j = mi h 76 j := fun j hj => by rw [mi_f T1 (by decide), if_neg hj, mi_o (by decide)]
  refine ⟨⟨T2, by rw [rf _ (by decide), c1], c2, by rw [rf _ (by decide), c3], by rw [rf _ (by decide), c4], by rw [rf _ (by decide), c5], ?_, ⟨?_, hx, stkA_keep c7 fun k hk => ?_⟩, by rw [rf _ (by decide), c8], fun j hj => ?_⟩, mf_f (mf_up (mf_rfl T) (by decide) rfl) (by decide) rfl⟩
  · rw [mi_f T1 (by decide), if_pos rfl, List.length_cons]
  · rw [mi_o (by decide), mi_a T mr_ty_90 (by show _ < 130; omega), if_pos rfl]
  · rw [mi_o (by decide), mi_a T mr_ty_90 (by show _ < 130; omega), if_neg (by omega)]
  · exact stpR_keep (c9 j hj) (by rw [mi_o (by decide), mi_o (by decide)]) (by rw [mi_o (by decide), mi_o (by decide)]) (by rw [ml_upI _ _ _ _ _ _ (by decide), ml_upI _ _ _ _ _ _ (by decide)]) (by rw [mi_o (by decide), mi_o (by decide)]) (by rw [mi_o (by decide), mi_o (by decide)])
/-- one of the reader's fields changes -/
theorem cR_f {D D' : Nat} {w w' wr wr' : Bool} {s : List Nat} {out : List stp} {i i' k : Nat} {x : Int32} (C : cR h D w wr s out i) (hk : k = 18 ∨ k = 21 ∨ k = 22 ∨ k = 23) (hD : D' ≤ 7)
    (h1 : (if k = 21 then x else nI D) = nI D') (h2 : (if k = 22 then x else if w = true then 1 else 0) = if w' = true then 1 else 0) (h3 : (if k = 23 then x else if wr = true then 1 else 0) = if wr' = true then 1 else 0) (h4 : (if k = 18 then x else nI i) = nI i') :
    cR (mx_up h 76 k (.int x)) D' w' wr' s out i' ∧ mf Pcp h (mx_up h 76 k (.int x)) := by
  obtain ⟨T, c1, c2, c3, c4, c5, c6, c7, c8, c9⟩ := C
  have hk40 : k < 40 := by omega
  have hF : mr_isF k = true := by rcases hk with e | e | e | e <;> (subst e; decide)
  have hP : Pcp 76 k = true := by rcases hk with e | e | e | e <;> (subst e; rfl)
  refine ⟨⟨mr_T_f T hF x, ?_, hD, ?_, ?_, ?_, by rw [mi_f T hk40, if_neg (by omega), c6], stkA_keep c7 fun k _ => by rw [mi_o (by decide)], by rw [mi_f T hk40, if_neg (by omega), c8], fun j hj => ?_⟩, mf_f (mf_rfl T) hF hP⟩
  · rw [mi_f T hk40, c1, ← h1]; by_cases e : k = 21
    · rw [if_pos e, if_pos e.symm]
    · rw [if_neg e, if_neg (fun y => e y.symm)]
  · rw [mi_f T hk40, c3, ← h2]; by_cases e : k = 22
    · rw [if_pos e, if_pos e.symm]
    · rw [if_neg e, if_neg (fun y => e y.symm)]
  · rw [mi_f T hk40, c4, ← h3]; by_cases e : k = 23
    · rw [if_pos e, if_pos e.symm]
    · rw [if_neg e, if_neg (fun y => e y.symm)]
  · rw [mi_f T hk40, c5, ← h4]; by_cases e : k = 18
    · rw [if_pos e, if_pos e.symm]
    · rw [if_neg e, if_neg (fun y => e y.symm)]
  · exact stpR_keep (c9 j hj) (mi_o (by decide) _ _) (mi_o (by decide) _ _) (ml_upI _ _ _ _ _ _ (by decide)) (mi_o (by decide) _ _) (mi_o (by decide) _ _)
/-- the top is taken off -/
theorem cR_pop {D : Nat} {w wr : Bool} {x : Nat} {s : List Nat} {out : List stp} {i : Nat} (C : cR h D w wr (x :: s) out i) : cR (mx_up h 76 19 (.int (nI s.length))) D w wr s out i ∧ mf Pcp h (mx_up h 76 19 (.int (nI s.length))) := by
  obtain ⟨T, c1, c2, c3, c4, c5, c6, c7, c8, c9⟩ := C
  have rf : ∀ j, j ≠ 19 → mi (mx_up h 76 19 (.int (nI s.length))) 76 j = mi h 76 j := fun j hj => by rw [mi_f T (by decide), if_neg hj]
  refine ⟨⟨mr_T_f T (by decide) _, by rw [rf _ (by decide), c1], c2, by rw [rf _ (by decide), c3], by rw [rf _ (by decide), c4], by rw [rf _ (by decide), c5], by rw [mi_f T (by decide), if_pos rfl], stkA_keep c7.2.2 fun k _ => by rw [mi_o (by decide)], by rw [rf _ (by decide), c8], fun j hj => ?_⟩, mf_f (mf_rfl T) (by decide) rfl⟩
  exact stpR_keep (c9 j hj) (mi_o (by decide) _ _) (mi_o (by decide) _ _) (ml_upI _ _ _ _ _ _ (by decide)) (mi_o (by decide) _ _) (mi_o (by decide) _ _)
theorem rm_reduce (all : Bool) {D : Nat} {w wr : Bool} {i : Nat} : ∀ (s : List Nat) (out : List stp) (h : mx_H), cR h D w wr s out i → out.length + s.length < 130 → ∃ h', mx_G (d + 1) 299 0 [some (.ref 76), some (.int (if all = true then 1 else 0))] [] h = some (none, h') ∧ mf Pcp h h' ∧ cR h' D w wr (red all s out).1 (red all s out).2 i := by
  intro s
  induction s with
  | nil =>
    intro out h C hl
    have T := C.1
    have c6 := C.2.2.2.2.2.2.1
    rw [show ([] : List Nat).length = 0 from rfl, show nI 0 = 0 from rfl] at c6
    refine ⟨h, ?_, mf_rfl T, C⟩
    simp only [r299_0, r299_1, r299_4, r299_7, r299_8, r299_11, r299_12, r299_15, r299_16, r299_17, r299_18, r299_19, r299_22, r299_23, r299_26, r299_27, r299_30, r299_31, r299_34, r299_35, r299_36, r299_37, r299_38, r299_41, r299_42, r299_43, r299_46, r299_47, r299_48, r299_51, r299_52, r299_53, r299_56, r299_57, r299_60, r299_61, r299_64, r299_67, mx_isr_ref, mx_isr_null, mx_wt_nil, mx_wt_1, mx_wt_2, mx_wt_3, Option.bind_some, Option.toList_some, Option.toList_none, List.cons_append, List.nil_append, mx_nl_int, mx_nl_ref, mx_nl_null, mx_nl_none, mx_nb0, mx_nb1, mx_fb0, mx_fb1, mx_cat_int, mx_cat_ref, if_true, if_false, not_true_eq_false, not_false_eq_true, T, c6, show (0 : Int32) ≤ 0 by decide]
  | cons x s ih =>
    intro out h C hl
    have T := C.1
    have c6 := C.2.2.2.2.2.2.1
    have c7 := C.2.2.2.2.2.2.2.1
    simp only [List.length_cons] at c6 hl
    have e0 : ¬ nI (s.length + 1) ≤ 0 := nI_nle (by omega) (by omega)
    have e1 : nI (s.length + 1) - 1 = nI s.length := nI_pred _
    have t1 : (nI s.length).toNatClampNeg = s.length := nI_clamp (by omega)
    have t2 : (0 : Int32) ≤ nI s.length := nI_pos' (by omega)
    have t3 : s.length < 130 := by omega
    have rd := c7.1
    have hx := c7.2.1
    rw [red]
    by_cases c : x = 1 ∨ (all = true ∧ x = 2)
    · rw [if_pos c]
      obtain ⟨C1, m1⟩ := cR_pop C
      have T1 := C1.1
      have c8 := C1.2.2.2.2.2.2.2.2.1
      have ad := rm_add (d := d) T1 (x := nI x) c8 (by omega)
      obtain ⟨C2, m2⟩ := cR_add C1 (q := sp x) (x := nI x) (by omega) ⟨fun z => by simp [sp] at z; omega, fun z => by simp [sp] at z; omega, fun z => by simp [sp] at z; omega, fun _ _ => by rw [mi_a T1 mr_ty_85 (by show _ < 130; omega), if_pos rfl]; rfl⟩
      obtain ⟨h', r, m', C'⟩ := ih (out ++ [sp x]) _ C2 (by rw [List.length_append, List.length_singleton]; omega)
      refine ⟨h', ?_, mf_trans m1 (mf_trans m2 m'), C'⟩
      rw [← r]
      have r19 : mi (mx_up h 76 19 (.int (nI s.length))) 76 19 = nI s.length := C1.2.2.2.2.2.2.1
      have r90 : mi (mx_up h 76 19 (.int (nI s.length))) 90 s.length = nI x := by rw [mi_o (by decide), rd]
      rcases c with c | ⟨c, c'⟩
      · have ex : nI x = 1 := by rw [c]; rfl
        rw [r299_0 mx_isr_ref]
        simp only [r299_1, r299_4, r299_7, r299_8, r299_11, r299_12, r299_15, r299_16, r299_17, r299_18, r299_19, r299_22, r299_23, r299_26, r299_27, r299_30, r299_31, r299_34, r299_35, r299_36, r299_37, r299_38, r299_41, r299_42, r299_43, r299_46, r299_47, r299_48, r299_51, r299_52, r299_53, r299_56, r299_57, r299_60, r299_61, r299_64, mx_isr_ref, mx_isr_null, mx_wt_nil, mx_wt_1, mx_wt_2, mx_wt_3, Option.bind_some, Option.toList_some, Option.toList_none, List.cons_append, List.nil_append, mx_nl_int, mx_nl_ref, mx_nl_null, mx_nl_none, mx_nb0, mx_nb1, mx_fb0, mx_fb1, mx_cat_int, mx_cat_ref, if_true, if_false, not_true_eq_false, not_false_eq_true, T, T1, c6, e0, e1, mr_ty_77, mr_n_77, mr_isI_77, mr_ty_78, mr_n_78, mr_isI_78, mr_ty_79, mr_n_79, mr_isI_79, mr_ty_80, mr_n_80, mr_isI_80, mr_ty_81, mr_n_81, mr_isI_81, mr_ty_82, mr_n_82, mr_isJ_82, mr_ty_83, mr_n_83, mr_isI_83, mr_ty_84, mr_n_84, mr_isI_84, mr_ty_85, mr_n_85, mr_isI_85, mr_ty_86, mr_n_86, mr_isI_86, mr_ty_87, mr_n_87, mr_isI_87, mr_ty_88, mr_n_88, mr_isI_88, mr_ty_89, mr_n_89, mr_isJ_89, mr_ty_90, mr_n_90, mr_isI_90, mr_ty_91, mr_n_91, mr_isI_91, mr_ty_92, mr_n_92, mr_isI_92, mr_ty_93, mr_n_93, mr_isI_93, mr_ty_94, mr_n_94, mr_isI_94, mr_ty_95, mr_n_95, mr_isI_95, mr_ty_96, mr_n_96, mr_isI_96, mr_ty_97, mr_n_97, mr_isI_97, mr_ty_98, mr_n_98, mr_isI_98, mr_ty_99, mr_n_99, mr_isI_99, mr_ty_100, mr_n_100, mr_isI_100, mr_ty_101, mr_n_101, mr_isI_101, mr_isF_1, mr_isF_3, mr_isF_4, mr_isF_10, mr_isF_12, mr_isF_18, mr_isF_19, mr_isF_21, mr_isF_22, mr_isF_23, mr_isF_26, mr_isF_34, mr_isF_37, mr_isF_38, mr_isF_39, mr_T_up, mr_T_upJ, mr_T_f, t1, t2, t3, rd, eq_true ex, r19, r90, ad]
      · subst c
        have ex : ¬ nI x = 1 := by rw [c']; decide
        have ex' : nI x = 2 := by rw [c']; rfl
        rw [r299_0 mx_isr_ref]
        simp only [r299_1, r299_4, r299_7, r299_8, r299_11, r299_12, r299_15, r299_16, r299_17, r299_18, r299_19, r299_22, r299_23, r299_26, r299_27, r299_30, r299_31, r299_34, r299_35, r299_36, r299_37, r299_38, r299_41, r299_42, r299_43, r299_46, r299_47, r299_48, r299_51, r299_52, r299_53, r299_56, r299_57, r299_60, r299_61, r299_64, mx_isr_ref, mx_isr_null, mx_wt_nil, mx_wt_1, mx_wt_2, mx_wt_3, Option.bind_some, Option.toList_some, Option.toList_none, List.cons_append, List.nil_append, mx_nl_int, mx_nl_ref, mx_nl_null, mx_nl_none, mx_nb0, mx_nb1, mx_fb0, mx_fb1, mx_cat_int, mx_cat_ref, if_true, if_false, not_true_eq_false, not_false_eq_true, T, T1, c6, e0, e1, mr_ty_77, mr_n_77, mr_isI_77, mr_ty_78, mr_n_78, mr_isI_78, mr_ty_79, mr_n_79, mr_isI_79, mr_ty_80, mr_n_80, mr_isI_80, mr_ty_81, mr_n_81, mr_isI_81, mr_ty_82, mr_n_82, mr_isJ_82, mr_ty_83, mr_n_83, mr_isI_83, mr_ty_84, mr_n_84, mr_isI_84, mr_ty_85, mr_n_85, mr_isI_85, mr_ty_86, mr_n_86, mr_isI_86, mr_ty_87, mr_n_87, mr_isI_87, mr_ty_88, mr_n_88, mr_isI_88, mr_ty_89, mr_n_89, mr_isJ_89, mr_ty_90, mr_n_90, mr_isI_90, mr_ty_91, mr_n_91, mr_isI_91, mr_ty_92, mr_n_92, mr_isI_92, mr_ty_93, mr_n_93, mr_isI_93, mr_ty_94, mr_n_94, mr_isI_94, mr_ty_95, mr_n_95, mr_isI_95, mr_ty_96, mr_n_96, mr_isI_96, mr_ty_97, mr_n_97, mr_isI_97, mr_ty_98, mr_n_98, mr_isI_98, mr_ty_99, mr_n_99, mr_isI_99, mr_ty_100, mr_n_100, mr_isI_100, mr_ty_101, mr_n_101, mr_isI_101, mr_isF_1, mr_isF_3, mr_isF_4, mr_isF_10, mr_isF_12, mr_isF_18, mr_isF_19, mr_isF_21, mr_isF_22, mr_isF_23, mr_isF_26, mr_isF_34, mr_isF_37, mr_isF_38, mr_isF_39, mr_T_up, mr_T_upJ, mr_T_f, t1, t2, t3, rd, eq_false ex, eq_true ex', r19, r90, ad, show ¬ (1 : Int32) = 0 by decide]
    · rw [if_neg c]
      refine ⟨h, ?_, mf_rfl T, C⟩
      have ex : ¬ nI x = 1 := fun y => c (Or.inl ((nI_eq (b := 1) (by omega) (by decide)).mp y))
      cases all with
      | false => simp only [r299_0, r299_1, r299_4, r299_7, r299_8, r299_11, r299_12, r299_15, r299_16, r299_17, r299_18, r299_19, r299_22, r299_23, r299_26, r299_27, r299_30, r299_31, r299_34, r299_35, r299_36, r299_37, r299_38, r299_41, r299_42, r299_43, r299_46, r299_47, r299_48, r299_51, r299_52, r299_53, r299_56, r299_57, r299_60, r299_61, r299_64, r299_67, mx_isr_ref, mx_isr_null, mx_wt_nil, mx_wt_1, mx_wt_2, mx_wt_3, Option.bind_some, Option.toList_some, Option.toList_none, List.cons_append, List.nil_append, mx_nl_int, mx_nl_ref, mx_nl_null, mx_nl_none, mx_nb0, mx_nb1, mx_fb0, mx_fb1, mx_cat_int, mx_cat_ref, if_true, if_false, not_true_eq_false, not_false_eq_true, T, c6, e0, e1, mr_ty_77, mr_n_77, mr_isI_77, mr_ty_78, mr_n_78, mr_isI_78, mr_ty_79, mr_n_79, mr_isI_79, mr_ty_80, mr_n_80, mr_isI_80, mr_ty_81, mr_n_81, mr_isI_81, mr_ty_82, mr_n_82, mr_isJ_82, mr_ty_83, mr_n_83, mr_isI_83, mr_ty_84, mr_n_84, mr_isI_84, mr_ty_85, mr_n_85, mr_isI_85, mr_ty_86, mr_n_86, mr_isI_86, mr_ty_87, mr_n_87, mr_isI_87, mr_ty_88, mr_n_88, mr_isI_88, mr_ty_89, mr_n_89, mr_isJ_89, mr_ty_90, mr_n_90, mr_isI_90, mr_ty_91, mr_n_91, mr_isI_91, mr_ty_92, mr_n_92, mr_isI_92, mr_ty_93, mr_n_93, mr_isI_93, mr_ty_94, mr_n_94, mr_isI_94, mr_ty_95, mr_n_95, mr_isI_95, mr_ty_96, mr_n_96, mr_isI_96, mr_ty_97, mr_n_97, mr_isI_97, mr_ty_98, mr_n_98, mr_isI_98, mr_ty_99, mr_n_99, mr_isI_99, mr_ty_100, mr_n_100, mr_isI_100, mr_ty_101, mr_n_101, mr_isI_101, mr_isF_1, mr_isF_3, mr_isF_4, mr_isF_10, mr_isF_12, mr_isF_18, mr_isF_19, mr_isF_21, mr_isF_22, mr_isF_23, mr_isF_26, mr_isF_34, mr_isF_37, mr_isF_38, mr_isF_39, mr_T_up, mr_T_upJ, mr_T_f, t1, t2, t3, rd, ex, Bool.false_eq_true]
      | true =>
        have ex' : ¬ nI x = 2 := fun y => c (Or.inr ⟨rfl, (nI_eq (b := 2) (by omega) (by decide)).mp y⟩)
        simp only [r299_0, r299_1, r299_4, r299_7, r299_8, r299_11, r299_12, r299_15, r299_16, r299_17, r299_18, r299_19, r299_22, r299_23, r299_26, r299_27, r299_30, r299_31, r299_34, r299_35, r299_36, r299_37, r299_38, r299_41, r299_42, r299_43, r299_46, r299_47, r299_48, r299_51, r299_52, r299_53, r299_56, r299_57, r299_60, r299_61, r299_64, r299_67, mx_isr_ref, mx_isr_null, mx_wt_nil, mx_wt_1, mx_wt_2, mx_wt_3, Option.bind_some, Option.toList_some, Option.toList_none, List.cons_append, List.nil_append, mx_nl_int, mx_nl_ref, mx_nl_null, mx_nl_none, mx_nb0, mx_nb1, mx_fb0, mx_fb1, mx_cat_int, mx_cat_ref, if_true, if_false, not_true_eq_false, not_false_eq_true, T, c6, e0, e1, mr_ty_77, mr_n_77, mr_isI_77, mr_ty_78, mr_n_78, mr_isI_78, mr_ty_79, mr_n_79, mr_isI_79, mr_ty_80, mr_n_80, mr_isI_80, mr_ty_81, mr_n_81, mr_isI_81, mr_ty_82, mr_n_82, mr_isJ_82, mr_ty_83, mr_n_83, mr_isI_83, mr_ty_84, mr_n_84, mr_isI_84, mr_ty_85, mr_n_85, mr_isI_85, mr_ty_86, mr_n_86, mr_isI_86, mr_ty_87, mr_n_87, mr_isI_87, mr_ty_88, mr_n_88, mr_isI_88, mr_ty_89, mr_n_89, mr_isJ_89, mr_ty_90, mr_n_90, mr_isI_90, mr_ty_91, mr_n_91, mr_isI_91, mr_ty_92, mr_n_92, mr_isI_92, mr_ty_93, mr_n_93, mr_isI_93, mr_ty_94, mr_n_94, mr_isI_94, mr_ty_95, mr_n_95, mr_isI_95, mr_ty_96, mr_n_96, mr_isI_96, mr_ty_97, mr_n_97, mr_isI_97, mr_ty_98, mr_n_98, mr_isI_98, mr_ty_99, mr_n_99, mr_isI_99, mr_ty_100, mr_n_100, mr_isI_100, mr_ty_101, mr_n_101, mr_isI_101, mr_isF_1, mr_isF_3, mr_isF_4, mr_isF_10, mr_isF_12, mr_isF_18, mr_isF_19, mr_isF_21, mr_isF_22, mr_isF_23, mr_isF_26, mr_isF_34, mr_isF_37, mr_isF_38, mr_isF_39, mr_T_up, mr_T_upJ, mr_T_f, t1, t2, t3, rd, ex, ex', show ¬ (1 : Int32) = 0 by decide]
end
