section
variable {d : Nat}
/-- token t of the model, its text below w -/
def rm_tk (h : mx_H) (w t : Nat) (q : tk) : Prop :=
  (q.1 = 1 ∧ mi h 79 t = 1 ∧ ml h 82 t = w27 q.2) ∨ (q.1 = 2 ∧ mi h 79 t = 2 ∧ ml h 82 t = nval q.2) ∨ (q.1 = 3 ∧ mi h 79 t = 3 ∧ ∃ f, f + q.2.length ≤ w ∧ mi h 80 t = nI f ∧ mi h 81 t = nI q.2.length ∧ ∀ j, j < q.2.length → mi h 83 (f + j) = nI (q.2.getD j 0)) ∨ (10 ≤ q.1 ∧ q.1 < 128 ∧ mi h 79 t = 4 ∧ ml h 82 t = lN q.1)
theorem rm_tk_keep {h h' : mx_H} {w w' t : Nat} {q : tk} (k : rm_tk h w t q) (h1 : mi h' 79 t = mi h 79 t) (h2 : mi h' 80 t = mi h 80 t) (h3 : mi h' 81 t = mi h 81 t) (h4 : ml h' 82 t = ml h 82 t) (h5 : ∀ j, j < w → mi h' 83 j = mi h 83 j) (hw : w ≤ w') : rm_tk h' w' t q := by
  rcases k with ⟨a, b, c⟩ | ⟨a, b, c⟩ | ⟨a, b, f, c1, c2, c3, c4⟩ | ⟨a, a', b, c⟩
  · exact Or.inl ⟨a, by rw [h1]; exact b, by rw [h4]; exact c⟩
  · exact Or.inr (Or.inl ⟨a, by rw [h1]; exact b, by rw [h4]; exact c⟩)
  · exact Or.inr (Or.inr (Or.inl ⟨a, by rw [h1]; exact b, f, by omega, by rw [h2]; exact c2, by rw [h3]; exact c3, fun j hj => by rw [h5 _ (by omega)]; exact c4 j hj⟩))
  · exact Or.inr (Or.inr (Or.inr ⟨a, a', by rw [h1]; exact b, by rw [h4]; exact c⟩))
/-- the tokens that are made -/
def rm_ts (h : mx_H) (w : Nat) (ts : List tk) : Prop := mi h 76 4 = nI ts.length ∧ ∀ t, t < ts.length → rm_tk h w t (ts.getD t (0, []))
/-- nothing but the tokens' places is changed -/
def rm_fr (h h' : mx_H) : Prop := (∀ a k, a ≠ 79 → a ≠ 80 → a ≠ 81 → a ≠ 82 → a ≠ 83 → ¬ (a = 76 ∧ (k = 3 ∨ k = 4 ∨ k = 10)) → mi h' a k = mi h a k) ∧ ∀ k, ml h' 89 k = ml h 89 k
theorem rm_fr_rfl (h : mx_H) : rm_fr h h := ⟨fun _ _ _ _ _ _ _ _ => rfl, fun _ => rfl⟩
theorem rm_fr_trans {h h' h'' : mx_H} (a : rm_fr h h') (b : rm_fr h' h'') : rm_fr h h'' := ⟨fun x k h1 h2 h3 h4 h5 h6 => (b.1 x k h1 h2 h3 h4 h5 h6).trans (a.1 x k h1 h2 h3 h4 h5 h6), fun k => (b.2 k).trans (a.2 k)⟩
theorem rm_fr_up {h : mx_H} {a k : Nat} {x : Int32} (ha : a = 79 ∨ a = 80 ∨ a = 81 ∨ a = 83 ∨ (a = 76 ∧ (k = 3 ∨ k = 4 ∨ k = 10))) : rm_fr h (mx_up h a k (.int x)) := by
  refine ⟨fun b j h1 h2 h3 h4 h5 h6 => ?_, fun j => ?_⟩
  · rw [mi_up, if_neg]
    rintro ⟨rfl, rfl, -⟩
    omega
  · rw [ml_upI _ _ _ _ _ _ (by omega)]
theorem rm_fr_upJ {h : mx_H} {k : Nat} {x : Int64} : rm_fr h (mx_up h 82 k (.long x)) := by
  refine ⟨fun b j h1 h2 h3 h4 h5 h6 => ?_, fun j => ?_⟩
  · rw [mi_upJ _ _ _ _ _ _ h4]
  · rw [ml_up, if_neg (fun z => absurd z.1 (by decide))]
theorem rm_fr_txt (l : List Nat) (w : Nat) (h : mx_H) : rm_fr h (rm_txt l w h) := by
  refine ⟨fun b j h1 h2 h3 h4 h5 h6 => rm_txt_mi _ _ _ _ _ h5 (fun z => h6 ⟨z.1, Or.inr (Or.inr z.2)⟩), fun j => rm_txt_ml _ _ _ _ _ (by decide) (by decide)⟩
theorem rm_string {h : mx_H} {bs : List Nat} {tn p w : Nat} (B : rm_buf h bs) (ht : mi h 76 4 = nI tn) (htn : tn < 130) (hp : p < bs.length) (hw : mi h 76 10 = nI w) (hwp : w ≤ p) :
    (∀ t r, lx_str (bs.drop (p + 1)) = some (t, r) → w + t.length ≤ 120 ∧ p + 2 + t.length + r.length ≤ bs.length ∧ mx_G (d + 1) 247 0 [some (.ref 76), some (.int (nI p)), none, none, none] [] h = some (some (.int (nI (bs.length - r.length))), mx_up (rm_txt t w (mx_up h 80 tn (.int (nI w)))) 81 tn (.int (nI t.length)))) ∧
    (lx_str (bs.drop (p + 1)) = none → ∃ t : List Nat, w + t.length ≤ 120 ∧ mx_G (d + 1) 247 0 [some (.ref 76), some (.int (nI p)), none, none, none] [] h = some (some (.int (-1)), rm_txt t w (mx_up h 80 tn (.int (nI w))))) := by
  have hT := B.1
  have hb := B.2.1
  have t1 : (nI tn).toNatClampNeg = tn := nI_clamp (by omega)
  have t2 : (0 : Int32) ≤ nI tn := nI_pos' (by omega)
  have pre : mx_G (d + 1) 247 0 [some (.ref 76), some (.int (nI p)), none, none, none] [] h = mx_G (d + 1) 247 17 [some (.ref 76), some (.int (nI p)), some (.int (nI (p + 1))), none, none] [] (mx_up h 80 tn (.int (nI w))) := by
    simp only [r247_0, r247_1, r247_2, r247_3, r247_4, r247_5, r247_8, r247_9, r247_12, r247_13, r247_16, mx_isr_ref, mx_isr_null, mx_wt_nil, mx_wt_1, mx_wt_2, mx_wt_3, Option.bind_some, Option.toList_some, Option.toList_none, List.cons_append, List.nil_append, mx_nl_int, mx_nl_ref, mx_nl_null, mx_nl_none, mx_nb0, mx_nb1, mx_cat_int, mx_cat_ref, if_true, if_false, not_true_eq_false, not_false_eq_true, hT, mr_ty_77, mr_n_77, mr_isI_77, mr_ty_78, mr_n_78, mr_isI_78, mr_ty_79, mr_n_79, mr_isI_79, mr_ty_80, mr_n_80, mr_isI_80, mr_ty_81, mr_n_81, mr_isI_81, mr_ty_82, mr_n_82, mr_isJ_82, mr_ty_83, mr_n_83, mr_isI_83, mr_ty_84, mr_n_84, mr_isI_84, mr_ty_85, mr_n_85, mr_isI_85, mr_ty_86, mr_n_86, mr_isI_86, mr_ty_87, mr_n_87, mr_isI_87, mr_ty_88, mr_n_88, mr_isI_88, mr_ty_89, mr_n_89, mr_isJ_89, mr_ty_90, mr_n_90, mr_isI_90, mr_ty_91, mr_n_91, mr_isI_91, mr_ty_92, mr_n_92, mr_isI_92, mr_ty_93, mr_n_93, mr_isI_93, mr_ty_94, mr_n_94, mr_isI_94, mr_ty_95, mr_n_95, mr_isI_95, mr_ty_96, mr_n_96, mr_isI_96, mr_ty_97, mr_n_97, mr_isI_97, mr_ty_98, mr_n_98, mr_isI_98, mr_ty_99, mr_n_99, mr_isI_99, mr_ty_100, mr_n_100, mr_isI_100, mr_ty_101, mr_n_101, mr_isI_101, mr_isF_1, mr_isF_3, mr_isF_4, mr_isF_10, mr_isF_12, mr_isF_18, mr_isF_19, mr_isF_21, mr_isF_22, mr_isF_23, mr_isF_26, mr_isF_34, mr_isF_37, mr_isF_38, mr_isF_39, mr_T_up, mr_T_upJ, mr_T_f, ht, hw, t1, t2, htn, nI_1]
  rw [pre]
  have B' : rm_buf (mx_up h 80 tn (.int (nI w))) bs := rm_buf_up B _ (by decide) (by decide)
  obtain ⟨i1, i2⟩ := rm_strL (d := d) (p := p) (f0 := w) htn _ (bs.drop (p + 1)) (Nat.le_refl _) (p + 1) w _ none none B' rfl (by omega) (by rw [mi_up, if_neg (fun z => absurd z.1 (by decide))]; exact hw) (by omega) (by rw [mi_up, if_neg (fun z => absurd z.1 (by decide))]; exact ht) (by rw [mi_up, if_pos ⟨rfl, rfl, by rw [mr_ln hT mr_ty_80, mr_n_80]; exact htn⟩])
  refine ⟨fun t r he => ?_, i2⟩
  obtain ⟨j1, j2, j3⟩ := i1 t r he
  refine ⟨j1, by omega, ?_⟩
  rw [j3]
  have : nI (w + t.length) - nI w = nI t.length := by rw [← nI_add, Int32.add_comm, Int32.add_sub_cancel]
  rw [this]
end
