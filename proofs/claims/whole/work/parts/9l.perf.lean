section
variable {d : Nat} {h : mx_H} {ts : List tk}
def Pcz (a _ : Nat) : Bool := a == 92 || a == 98
theorem tkcz : tkP Pcz := ⟨rfl, fun _ => ⟨rfl, rfl, rfl, rfl, rfl⟩⟩
theorem p92_cz : ∀ a k, Pcz a k = false → P92 a k = false := fun a k e => by unfold Pcz at e; unfold P92; simp at e ⊢; exact e.1
theorem row_cz {h' : mx_H} {low : Nat} {c : List stp} (V : rowR h ts low c) (m : mf Pcz h h') : rowR h' ts low c := ⟨V.1, fun j hj => ⟨stpR_keep (V.2 j hj).1 (m.2.1 _ _ rfl) (m.2.1 _ _ rfl) (m.2.2 _ _ (Or.inr rfl) rfl) (m.2.1 _ _ rfl) (m.2.1 _ _ rfl), (V.2 j hj).2⟩⟩
theorem rc_cz {h' : mx_H} {s : Nat} {p : prs} (R : rcP h s p) (m : mf Pcz h h') : rcP h' s p := ⟨fun o ho => (m.2.1 77 _ rfl).trans (R.1 o ho), fun k hk j hj => (m.2.1 77 _ rfl).trans (R.2 k hk j hj)⟩
/-- is it chosen -/
def bz (way : Nat) (g : prs → Option Nat → Bool) (p : prs) (j : Nat) : Bool := if way < 9 then true else g p (some j)
theorem rm_chz (S : rm_TK h ts) (K : tkOK ts) {p : prs} (R : rcP h 8 p) (W : wfP p) (b1 : p.1 < 2 ^ 20) (b2 : p.2.1 < 2 ^ 20) {way low : Nat} {q : cdP} (w6 : 6 < way) (w11 : way ≤ 11) {lo hi c v : Int32} (hV : 9 ≤ way → lo = nI low ∧ hi = nI (low + q.1.length) ∧ rowR h ts low q.1 ∧ cdV (hd ts) itn true q) :
    ∀ n k h1, k + n = (pit p).length → mf Pcz h h1 → (∀ j, j < k → mi h1 98 j = if bz way q.2 p j = true then 1 else 0) →
    ∃ h' x, mx_G (d + 7) 302 26 [some (.ref 76), some (.int c), some (.int (nI way)), some (.int lo), some (.int hi), some (.int v), some (.int (nI k)), none, none] [] h1 = mx_G (d + 7) 302 83 [some (.ref 76), some (.int c), some (.int (nI way)), some (.int lo), some (.int hi), some (.int v), some (.int x), none, none] [] h' ∧ mf Pcz h h' ∧ ∀ j, j < (pit p).length → mi h' 98 j = if bz way q.2 p j = true then 1 else 0 := by
  have h4 := W.2.2.1
  have nw : ¬ nI way ≤ 6 := nI_ge (a := 6) (b := way) w6 (by omega) |> fun z => z
  intro n
  induction n with
  | zero =>
    intro k h1 hk m B
    have T := m.1
    have f19 := rm_f (d := d + 6) T (s := 8) (o := 19) (by decide)
    rw [show mi h1 77 (80 * 8 + 19) = nI (pit p).length from (rc_cz R m).1 19 (by decide), show nI 8 = 8 from rfl, show nI 19 = 19 from rfl] at f19
    have e1 : nI (pit p).length ≤ nI k := nI_le (by omega) (by omega)
    refine ⟨h1, nI k, ?_, m, fun j hj => B j (by omega)⟩
    simp only [r302_26, r302_28, r302_29, r302_31, r302_33, r302_36, mx_isr_ref, mx_isr_null, mx_wt_nil, mx_wt_1, mx_wt_2, mx_wt_3, Option.bind_some, Option.toList_some, Option.toList_none, List.cons_append, List.nil_append, mx_nl_int, mx_nl_ref, mx_nl_null, mx_nl_none, mx_nb0, mx_nb1, mx_fb0, mx_fb1, mx_cat_int, mx_cat_ref, if_true, if_false, not_true_eq_false, not_false_eq_true, T, f19, e1]
  | succ n ih =>
    intro k h1 hk m B
    have T := m.1
    have f19 := rm_f (d := d + 6) T (s := 8) (o := 19) (by decide)
    rw [show mi h1 77 (80 * 8 + 19) = nI (pit p).length from (rc_cz R m).1 19 (by decide), show nI 8 = 8 from rfl, show nI 19 = 19 from rfl] at f19
    have e1 : ¬ nI (pit p).length ≤ nI k := nI_ge (by omega) (by omega)
    have t1 : (nI k).toNatClampNeg = k := nI_clamp (by omega)
    have t2 : (0 : Int32) ≤ nI k := nI_pos' (by omega)
    have t3 : k < 5 := by omega
    have step : ∀ h2, mf Pcz h h2 → (∀ j, j < k + 1 → mi h2 98 j = if bz way q.2 p j = true then 1 else 0) → mx_G (d + 7) 302 26 [some (.ref 76), some (.int c), some (.int (nI way)), some (.int lo), some (.int hi), some (.int v), some (.int (nI k)), none, none] [] h1 = mx_G (d + 7) 302 26 [some (.ref 76), some (.int c), some (.int (nI way)), some (.int lo), some (.int hi), some (.int v), some (.int (nI (k + 1))), none, none] [] h2 →
        ∃ h' x, mx_G (d + 7) 302 26 [some (.ref 76), some (.int c), some (.int (nI way)), some (.int lo), some (.int hi), some (.int v), some (.int (nI k)), none, none] [] h1 = mx_G (d + 7) 302 83 [some (.ref 76), some (.int c), some (.int (nI way)), some (.int lo), some (.int hi), some (.int v), some (.int x), none, none] [] h' ∧ mf Pcz h h' ∧ ∀ j, j < (pit p).length → mi h' 98 j = if bz way q.2 p j = true then 1 else 0 := by
      intro h2 m2 B2 s
      obtain ⟨h', x, r, m', B'⟩ := ih (k + 1) h2 (by omega) m2 B2
      exact ⟨h', x, s.trans r, m', B'⟩
    have put : ∀ h2 y, mf Pcz h h2 → (∀ j, mi h2 98 j = mi h1 98 j) → y = (if bz way q.2 p k = true then 1 else 0) → mf Pcz h (mx_up h2 98 k (.int y)) ∧ ∀ j, j < k + 1 → mi (mx_up h2 98 k (.int y)) 98 j = if bz way q.2 p j = true then 1 else 0 := by
      intro h2 y m2 e2 ey
      refine ⟨mf_up m2 (by decide) rfl, fun j hj => ?_⟩
      have l98 : mx_ln h2 98 = 5 := by rw [mr_ln m2.1 mr_ty_98]; rfl
      rw [mi_up, l98]
      by_cases e : j = k
      · rw [if_pos ⟨rfl, e, t3⟩, e]; exact ey
      · rw [if_neg (fun z => e z.2.1), e2]
        exact B j (by omega)
    by_cases w9 : way < 9
    · have e9 : nI way < 9 := nI_lt (b := 9) w9 (by decide)
      have P := put h1 1 m (fun _ => rfl) (by unfold bz; rw [if_pos w9]; rfl)
      refine step _ P.1 P.2 ?_
      rw [r302_26]
      simp only [r302_28, r302_29, r302_31, r302_33, r302_36, r302_39, r302_40, r302_42, r302_45, r302_46, r302_49, r302_51, r302_52, r302_54, r302_57, r302_58, r302_60, r302_61, r302_63, r302_65, r302_68, r302_71, r302_72, r302_75, r302_76, r302_77, r302_80, mx_isr_ref, mx_isr_null, mx_wt_nil, mx_wt_1, mx_wt_2, mx_wt_3, Option.bind_some, Option.toList_some, Option.toList_none, List.cons_append, List.nil_append, mx_nl_int, mx_nl_ref, mx_nl_null, mx_nl_none, mx_nb0, mx_nb1, mx_fb0, mx_fb1, mx_cat_int, mx_cat_ref, if_true, if_false, not_true_eq_false, not_false_eq_true, T, mr_ty_77, mr_n_77, mr_isI_77, mr_ty_78, mr_n_78, mr_isI_78, mr_ty_79, mr_n_79, mr_isI_79, mr_ty_80, mr_n_80, mr_isI_80, mr_ty_81, mr_n_81, mr_isI_81, mr_ty_82, mr_n_82, mr_isJ_82, mr_ty_83, mr_n_83, mr_isI_83, mr_ty_84, mr_n_84, mr_isI_84, mr_ty_85, mr_n_85, mr_isI_85, mr_ty_86, mr_n_86, mr_isI_86, mr_ty_87, mr_n_87, mr_isI_87, mr_ty_88, mr_n_88, mr_isI_88, mr_ty_89, mr_n_89, mr_isJ_89, mr_ty_90, mr_n_90, mr_isI_90, mr_ty_91, mr_n_91, mr_isI_91, mr_ty_92, mr_n_92, mr_isI_92, mr_ty_93, mr_n_93, mr_isI_93, mr_ty_94, mr_n_94, mr_isI_94, mr_ty_95, mr_n_95, mr_isI_95, mr_ty_96, mr_n_96, mr_isI_96, mr_ty_97, mr_n_97, mr_isI_97, mr_ty_98, mr_n_98, mr_isI_98, mr_ty_99, mr_n_99, mr_isI_99, mr_ty_100, mr_n_100, mr_isI_100, mr_ty_101, mr_n_101, mr_isI_101, mr_isF_1, mr_isF_3, mr_isF_4, mr_isF_10, mr_isF_12, mr_isF_18, mr_isF_19, mr_isF_21, mr_isF_22, mr_isF_23, mr_isF_26, mr_isF_34, mr_isF_37, mr_isF_38, mr_isF_39, mr_T_up, mr_T_upJ, mr_T_f, t1, t2, t3, f19, e1, nw, e9, nI_1]
    · have e9 : ¬ nI way < 9 := nI_nlt (b := 9) (by omega) (by omega)
      obtain ⟨rfl, rfl, V, cv⟩ := hV (by omega)
      obtain ⟨h2, r, m2⟩ := rm_itemMatches (d := d) (TK_mf S m tkcz) K (rc_cz R m) W (by decide) b1 b2 (row_cz V m) (some k) (fun j hj => by have := Option.some.inj hj; omega) (vW_I (cv p (some k)))
      have r : mx_G (d + 6) 303 0 [some (.ref 76), some (.int 8), some (.int (nI low)), some (.int (nI (low + q.1.length))), some (.int (nI k)), none, none] [] h1 = some (some (.int (if q.2 p (some k) = true then 1 else 0)), h2) := r
      have M := mf_trans m (mf_mono p92_cz m2)
      have T2 := M.1
      have bb : bz way q.2 p k = q.2 p (some k) := by unfold bz; rw [if_neg w9]
      have P := fun y => put h2 y M (fun j => m2.2.1 98 j rfl)
      rw [bb] at P
      cases z : q.2 p (some k) with
      | true =>
        rw [z] at r P
        have P := P 1 rfl
        refine step _ P.1 P.2 ?_
        rw [r302_26]
        simp only [r302_28, r302_29, r302_31, r302_33, r302_36, r302_39, r302_40, r302_42, r302_45, r302_46, r302_49, r302_51, r302_52, r302_54, r302_57, r302_58, r302_60, r302_61, r302_63, r302_65, r302_68, r302_71, r302_72, r302_75, r302_76, r302_77, r302_80, mx_isr_ref, mx_isr_null, mx_wt_nil, mx_wt_1, mx_wt_2, mx_wt_3, Option.bind_some, Option.toList_some, Option.toList_none, List.cons_append, List.nil_append, mx_nl_int, mx_nl_ref, mx_nl_null, mx_nl_none, mx_nb0, mx_nb1, mx_fb0, mx_fb1, mx_cat_int, mx_cat_ref, if_true, if_false, not_true_eq_false, not_false_eq_true, T, T2, mr_ty_77, mr_n_77, mr_isI_77, mr_ty_78, mr_n_78, mr_isI_78, mr_ty_79, mr_n_79, mr_isI_79, mr_ty_80, mr_n_80, mr_isI_80, mr_ty_81, mr_n_81, mr_isI_81, mr_ty_82, mr_n_82, mr_isJ_82, mr_ty_83, mr_n_83, mr_isI_83, mr_ty_84, mr_n_84, mr_isI_84, mr_ty_85, mr_n_85, mr_isI_85, mr_ty_86, mr_n_86, mr_isI_86, mr_ty_87, mr_n_87, mr_isI_87, mr_ty_88, mr_n_88, mr_isI_88, mr_ty_89, mr_n_89, mr_isJ_89, mr_ty_90, mr_n_90, mr_isI_90, mr_ty_91, mr_n_91, mr_isI_91, mr_ty_92, mr_n_92, mr_isI_92, mr_ty_93, mr_n_93, mr_isI_93, mr_ty_94, mr_n_94, mr_isI_94, mr_ty_95, mr_n_95, mr_isI_95, mr_ty_96, mr_n_96, mr_isI_96, mr_ty_97, mr_n_97, mr_isI_97, mr_ty_98, mr_n_98, mr_isI_98, mr_ty_99, mr_n_99, mr_isI_99, mr_ty_100, mr_n_100, mr_isI_100, mr_ty_101, mr_n_101, mr_isI_101, mr_isF_1, mr_isF_3, mr_isF_4, mr_isF_10, mr_isF_12, mr_isF_18, mr_isF_19, mr_isF_21, mr_isF_22, mr_isF_23, mr_isF_26, mr_isF_34, mr_isF_37, mr_isF_38, mr_isF_39, mr_T_up, mr_T_upJ, mr_T_f, t1, t2, t3, f19, e1, nw, e9, r, nI_1, show ¬ (1 : Int32) = 0 by decide]
      | false =>
        rw [z] at r P
        have P := P 0 rfl
        refine step _ P.1 P.2 ?_
        rw [r302_26]
        simp only [r302_28, r302_29, r302_31, r302_33, r302_36, r302_39, r302_40, r302_42, r302_45, r302_46, r302_49, r302_51, r302_52, r302_54, r302_57, r302_58, r302_60, r302_61, r302_63, r302_65, r302_68, r302_71, r302_72, r302_75, r302_76, r302_77, r302_80, mx_isr_ref, mx_isr_null, mx_wt_nil, mx_wt_1, mx_wt_2, mx_wt_3, Option.bind_some, Option.toList_some, Option.toList_none, List.cons_append, List.nil_append, mx_nl_int, mx_nl_ref, mx_nl_null, mx_nl_none, mx_nb0, mx_nb1, mx_fb0, mx_fb1, mx_cat_int, mx_cat_ref, if_true, if_false, not_true_eq_false, not_false_eq_true, T, T2, mr_ty_77, mr_n_77, mr_isI_77, mr_ty_78, mr_n_78, mr_isI_78, mr_ty_79, mr_n_79, mr_isI_79, mr_ty_80, mr_n_80, mr_isI_80, mr_ty_81, mr_n_81, mr_isI_81, mr_ty_82, mr_n_82, mr_isJ_82, mr_ty_83, mr_n_83, mr_isI_83, mr_ty_84, mr_n_84, mr_isI_84, mr_ty_85, mr_n_85, mr_isI_85, mr_ty_86, mr_n_86, mr_isI_86, mr_ty_87, mr_n_87, mr_isI_87, mr_ty_88, mr_n_88, mr_isI_88, mr_ty_89, mr_n_89, mr_isJ_89, mr_ty_90, mr_n_90, mr_isI_90, mr_ty_91, mr_n_91, mr_isI_91, mr_ty_92, mr_n_92, mr_isI_92, mr_ty_93, mr_n_93, mr_isI_93, mr_ty_94, mr_n_94, mr_isI_94, mr_ty_95, mr_n_95, mr_isI_95, mr_ty_96, mr_n_96, mr_isI_96, mr_ty_97, mr_n_97, mr_isI_97, mr_ty_98, mr_n_98, mr_isI_98, mr_ty_99, mr_n_99, mr_isI_99, mr_ty_100, mr_n_100, mr_isI_100, mr_ty_101, mr_n_101, mr_isI_101, mr_isF_1, mr_isF_3, mr_isF_4, mr_isF_10, mr_isF_12, mr_isF_18, mr_isF_19, mr_isF_21, mr_isF_22, mr_isF_23, mr_isF_26, mr_isF_34, mr_isF_37, mr_isF_38, mr_isF_39, mr_T_up, mr_T_upJ, mr_T_f, t1, t2, t3, f19, e1, nw, e9, r, nI_1, Bool.false_eq_true]
end
