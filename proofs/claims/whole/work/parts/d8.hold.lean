/-! What a comparison holds: has, holds. -/
theorem take_drop_lt {a b : List Nat} {k j : Nat} (hj : j < b.length) (h : (a.drop k).take b.length = b) : k + j < a.length ∧ a.getD (k + j) 0 = b.getD j 0 := by
  have h1 := congrArg (fun l : List Nat => l[j]?) h
  simp only [List.getElem?_take, if_pos hj, List.getElem?_drop] at h1
  rw [gd_get hj] at h1
  obtain ⟨h2, h3⟩ := List.getElem?_eq_some_iff.mp h1
  exact ⟨h2, by rw [List.getD_eq_getElem?_getD, h1]; rfl⟩
section
variable {d : Nat} {h : mx_H} {M : List Nat}
theorem jh_in {v v' k0 k0' : Nat} {n n' : Int32} {a b : List Nat} (V : VC M h v k0 n a) (V' : VC M h v' k0' n' b) {f t : Int32} {k : Nat} (hk : k < 2 ^ 20) : ∀ m j, m + j = b.length → (a.drop k).take j = b.take j →
    ((a.drop k).take b.length = b → mx_G (d + 4) 183 16 [some (.ref v), some (.ref v'), some (.int f), some (.int t), some (.int (nI k)), some (.int (nI j))] [] h = some (some (.int 1), h)) ∧
    (¬ (a.drop k).take b.length = b → ∃ l5, mx_G (d + 4) 183 16 [some (.ref v), some (.ref v'), some (.int f), some (.int t), some (.int (nI k)), some (.int (nI j))] [] h = mx_G (d + 4) 183 7 [some (.ref v), some (.ref v'), some (.int f), some (.int t), some (.int (nI (k + 1))), l5] [] h) := by
  obtain ⟨s, bb, ff, tv_, lv, v0, v1, v2, v3, v4, S⟩ := VC_f V
  obtain ⟨s', bb', ff', tv', lv', v0', v1', v2', v3', v4', S'⟩ := VC_f V'
  have la := S.2.2.2.1
  have lb := S'.2.2.2.1
  intro m
  induction m with
  | zero =>
    intro j hj hp
    have : j = b.length := by omega
    subst this
    rw [List.take_length] at hp
    refine ⟨fun _ => ?_, fun z => absurd hp z⟩
    simp only [g183_16, g183_18, g183_19, g183_22, g183_25, g183_73, g183_75, g183_76, g183_79, g183_82, g183_85, g183_86, mx_isr_ref, mx_isr_null, mx_wt_nil, mx_wt_1, mx_wt_2, mx_wt_3, Option.bind_some, Option.toList_some, Option.toList_none, List.cons_append, List.nil_append, mx_nl_int, mx_nl_ref, mx_nl_null, mx_nl_none, mx_nb0, mx_nb1, mx_fb0, mx_fb1, mx_cat_int, mx_cat_ref, if_true, if_false, not_true_eq_false, not_false_eq_true, mx_wt_4, mx_w4_0, mx_w9_0, mx_w9_1, mx_kn_int, mx_kn_ref, mx_kn_null, Nat.reduceLT, ofn, n10, tv', lv', v2', (sB_f S').1, js_len S', show nI b.length ≤ nI b.length from nI_le (Nat.le_refl _) (by omega)]
  | succ m ih =>
    intro j hj hp
    have hjb : j < b.length := by omega
    have q1 : ¬ nI b.length ≤ nI j := nI_ge hjb (by omega)
    have q2 : ¬ nI j = nI b.length := fun z => by have := (nI_eq (by omega) (by omega)).mp z; omega
    by_cases c1 : a.length ≤ k + j
    · refine ⟨fun z => by have := (take_drop_lt hjb z).1; omega, fun _ => ⟨some (.int (nI j)), ?_⟩⟩
      simp only [g183_16, g183_18, g183_19, g183_22, g183_25, g183_28, g183_30, g183_32, g183_33, g183_34, g183_37, g183_40, g183_73, g183_75, g183_76, g183_79, g183_82, g183_85, g183_86, g183_87, g183_90, mx_isr_ref, mx_isr_null, mx_wt_nil, mx_wt_1, mx_wt_2, mx_wt_3, Option.bind_some, Option.toList_some, Option.toList_none, List.cons_append, List.nil_append, mx_nl_int, mx_nl_ref, mx_nl_null, mx_nl_none, mx_nb0, mx_nb1, mx_fb0, mx_fb1, mx_cat_int, mx_cat_ref, if_true, if_false, not_true_eq_false, not_false_eq_true, mx_wt_4, mx_w4_0, mx_w9_0, mx_w9_1, mx_kn_int, mx_kn_ref, mx_kn_null, Nat.reduceLT, ofn, n10, tv_, lv, v2, tv', lv', v2', (sB_f S').1, js_len S', q1, q2, nI_add, (sB_f S).1, js_len S, nI_leI (show a.length < 2 ^ 31 by omega) (show k + j < 2 ^ 31 by omega), c1, nI_1]
    · have hka : k + j < a.length := by omega
      have ca := sB_lt S (k + j)
      have cb := sB_lt S' j
      by_cases c2 : a.getD (k + j) 0 = b.getD j 0
      · obtain ⟨i1, i2⟩ := ih (j + 1) (by omega) (by
          rw [List.take_add_one, List.take_add_one, hp, List.getElem?_drop, gd_get hka, gd_get hjb, c2])
        have hG : mx_G (d + 4) 183 16 [some (.ref v), some (.ref v'), some (.int f), some (.int t), some (.int (nI k)), some (.int (nI j))] [] h = mx_G (d + 4) 183 16 [some (.ref v), some (.ref v'), some (.int f), some (.int t), some (.int (nI k)), some (.int (nI (j + 1)))] [] h := by
          rw [g183_16]
          simp only [g183_18, g183_19, g183_22, g183_25, g183_28, g183_30, g183_32, g183_33, g183_34, g183_37, g183_40, g183_43, g183_44, g183_47, g183_49, g183_51, g183_52, g183_55, g183_56, g183_59, g183_61, g183_64, g183_67, g183_70, mx_isr_ref, mx_isr_null, mx_wt_nil, mx_wt_1, mx_wt_2, mx_wt_3, Option.bind_some, Option.toList_some, Option.toList_none, List.cons_append, List.nil_append, mx_nl_int, mx_nl_ref, mx_nl_null, mx_nl_none, mx_nb0, mx_nb1, mx_fb0, mx_fb1, mx_cat_int, mx_cat_ref, if_true, if_false, not_true_eq_false, not_false_eq_true, mx_wt_4, mx_w4_0, mx_w9_0, mx_w9_1, mx_kn_int, mx_kn_ref, mx_kn_null, Nat.reduceLT, ofn, n10, tv_, lv, v2, tv', lv', v2', (sB_f S').1, js_len S', q1, nI_add, (sB_f S).1, js_len S, nI_leI (show a.length < 2 ^ 31 by omega) (show k + j < 2 ^ 31 by omega), c1, js_char S hka, js_char S' hjb, c2, nI_1]
        rw [hG]
        exact ⟨i1, i2⟩
      · have q3 : ¬ nI (a.getD (k + j) 0) = nI (b.getD j 0) := fun z => c2 ((nI_eq (by omega) (by omega)).mp z)
        refine ⟨fun z => absurd (take_drop_lt hjb z).2 c2, fun _ => ⟨some (.int (nI j)), ?_⟩⟩
        simp only [g183_16, g183_18, g183_19, g183_22, g183_25, g183_28, g183_30, g183_32, g183_33, g183_34, g183_37, g183_40, g183_43, g183_44, g183_47, g183_49, g183_51, g183_52, g183_55, g183_56, g183_59, g183_61, g183_64, g183_73, g183_75, g183_76, g183_79, g183_82, g183_85, g183_86, g183_87, g183_90, mx_isr_ref, mx_isr_null, mx_wt_nil, mx_wt_1, mx_wt_2, mx_wt_3, Option.bind_some, Option.toList_some, Option.toList_none, List.cons_append, List.nil_append, mx_nl_int, mx_nl_ref, mx_nl_null, mx_nl_none, mx_nb0, mx_nb1, mx_fb0, mx_fb1, mx_cat_int, mx_cat_ref, if_true, if_false, not_true_eq_false, not_false_eq_true, mx_wt_4, mx_w4_0, mx_w9_0, mx_w9_1, mx_kn_int, mx_kn_ref, mx_kn_null, Nat.reduceLT, ofn, n10, tv_, lv, v2, tv', lv', v2', (sB_f S').1, js_len S', q1, q2, nI_add, (sB_f S).1, js_len S, nI_leI (show a.length < 2 ^ 31 by omega) (show k + j < 2 ^ 31 by omega), c1, js_char S hka, js_char S' hjb, q3, nI_1]
theorem jh_out {v v' k0 k0' : Nat} {n n' : Int32} {a b : List Nat} (V : VC M h v k0 n a) (V' : VC M h v' k0' n' b) {f : Int32} {t : Int} (ht : -10000 < t ∧ t < 10000) : ∀ (m k : Nat) (l5 : Option Value), (t - k : Int) < m → k < 20000 →
    ((∃ j : Nat, k ≤ j ∧ (j : Int) ≤ t ∧ (a.drop j).take b.length = b) → mx_G (d + 4) 183 7 [some (.ref v), some (.ref v'), some (.int f), some (.int (Int32.ofInt t)), some (.int (nI k)), l5] [] h = some (some (.int 1), h)) ∧
    ((¬ ∃ j : Nat, k ≤ j ∧ (j : Int) ≤ t ∧ (a.drop j).take b.length = b) → mx_G (d + 4) 183 7 [some (.ref v), some (.ref v'), some (.int f), some (.int (Int32.ofInt t)), some (.int (nI k)), l5] [] h = some (some (.int 0), h)) := by
  have et : (Int32.ofInt t).toInt = t := i32_toInt ⟨by omega, by omega⟩
  intro m
  induction m with
  | zero =>
    intro k l5 hm hk
    have q : Int32.ofInt t < nI k := by rw [Int32.lt_iff_toInt_lt, et, nI_toInt (by omega)]; omega
    refine ⟨fun ⟨j, z1, z2, z3⟩ => by omega, fun _ => ?_⟩
    simp only [g183_7, g183_9, g183_10, g183_93, g183_94, mx_isr_ref, mx_isr_null, mx_wt_nil, mx_wt_1, mx_wt_2, mx_wt_3, Option.bind_some, Option.toList_some, Option.toList_none, List.cons_append, List.nil_append, mx_nl_int, mx_nl_ref, mx_nl_null, mx_nl_none, mx_nb0, mx_nb1, mx_fb0, mx_fb1, mx_cat_int, mx_cat_ref, if_true, if_false, not_true_eq_false, not_false_eq_true, mx_wt_4, mx_w4_0, mx_w9_0, mx_w9_1, mx_kn_int, mx_kn_ref, mx_kn_null, Nat.reduceLT, ofn, n10, q]
  | succ m ih =>
    intro k l5 hm hk
    by_cases c : t < (k : Int)
    · have q : Int32.ofInt t < nI k := by rw [Int32.lt_iff_toInt_lt, et, nI_toInt (by omega)]; exact c
      refine ⟨fun ⟨j, z1, z2, z3⟩ => by omega, fun _ => ?_⟩
      simp only [g183_7, g183_9, g183_10, g183_93, g183_94, mx_isr_ref, mx_isr_null, mx_wt_nil, mx_wt_1, mx_wt_2, mx_wt_3, Option.bind_some, Option.toList_some, Option.toList_none, List.cons_append, List.nil_append, mx_nl_int, mx_nl_ref, mx_nl_null, mx_nl_none, mx_nb0, mx_nb1, mx_fb0, mx_fb1, mx_cat_int, mx_cat_ref, if_true, if_false, not_true_eq_false, not_false_eq_true, mx_wt_4, mx_w4_0, mx_w9_0, mx_w9_1, mx_kn_int, mx_kn_ref, mx_kn_null, Nat.reduceLT, ofn, n10, q]
    · have q : ¬ Int32.ofInt t < nI k := by rw [Int32.lt_iff_toInt_lt, et, nI_toInt (by omega)]; exact c
      have hG : mx_G (d + 4) 183 7 [some (.ref v), some (.ref v'), some (.int f), some (.int (Int32.ofInt t)), some (.int (nI k)), l5] [] h = mx_G (d + 4) 183 16 [some (.ref v), some (.ref v'), some (.int f), some (.int (Int32.ofInt t)), some (.int (nI k)), some (.int (nI 0))] [] h := by
        simp only [g183_7, g183_9, g183_10, g183_13, g183_14, mx_isr_ref, mx_isr_null, mx_wt_nil, mx_wt_1, mx_wt_2, mx_wt_3, Option.bind_some, Option.toList_some, Option.toList_none, List.cons_append, List.nil_append, mx_nl_int, mx_nl_ref, mx_nl_null, mx_nl_none, mx_nb0, mx_nb1, mx_fb0, mx_fb1, mx_cat_int, mx_cat_ref, if_true, if_false, not_true_eq_false, not_false_eq_true, mx_wt_4, mx_w4_0, mx_w9_0, mx_w9_1, mx_kn_int, mx_kn_ref, mx_kn_null, Nat.reduceLT, ofn, n10, q]
        rfl
      obtain ⟨i1, i2⟩ := jh_in (d := d) V V' (f := f) (t := Int32.ofInt t) (show k < 2 ^ 20 by omega) b.length 0 (by omega) (by simp)
      rw [hG]
      by_cases e : (a.drop k).take b.length = b
      · rw [i1 e]
        exact ⟨fun _ => rfl, fun z => absurd ⟨k, Nat.le_refl _, by omega, e⟩ z⟩
      · obtain ⟨l5', g⟩ := i2 e
        rw [g]
        obtain ⟨o1, o2⟩ := ih (k + 1) l5' (by omega) (by omega)
        refine ⟨fun ⟨j, z1, z2, z3⟩ => o1 ⟨j, ?_, z2, z3⟩, fun z => o2 (fun ⟨j, z1, z2, z3⟩ => z ⟨j, by omega, z2, z3⟩)⟩
        by_cases ej : j = k
        · subst ej; exact absurd z3 e
        · omega
theorem jh_has {v v' k0 k0' : Nat} {n n' : Int32} {a b : List Nat} (V : VC M h v k0 n a) (V' : VC M h v' k0' n' b) {f t : Int} (hf : -10000 < f ∧ f < 10000) (ht : -10000 < t ∧ t < 10000) :
    ((∃ j : Nat, f ≤ j ∧ (j : Int) ≤ t ∧ (a.drop j).take b.length = b) → mx_G (d + 4) 183 0 [some (.ref v), some (.ref v'), some (.int (Int32.ofInt f)), some (.int (Int32.ofInt t)), none, none] [] h = some (some (.int 1), h)) ∧
    ((¬ ∃ j : Nat, f ≤ j ∧ (j : Int) ≤ t ∧ (a.drop j).take b.length = b) → mx_G (d + 4) 183 0 [some (.ref v), some (.ref v'), some (.int (Int32.ofInt f)), some (.int (Int32.ofInt t)), none, none] [] h = some (some (.int 0), h)) := by
  have ef : (Int32.ofInt f).toInt = f := i32_toInt ⟨by omega, by omega⟩
  have hmax : mx_G (d + 3) 27 0 [some (.int (Int32.ofInt f)), some (.int 0)] [] h = some (some (.int (nI f.toNat)), h) := by
    by_cases c : f < 0
    · have q : Int32.ofInt f < 0 := by rw [Int32.lt_iff_toInt_lt, ef]; exact c
      simp only [g27_0, g27_1, g27_2, g27_5, g27_6, g27_9, g27_10, mx_isr_ref, mx_isr_null, mx_wt_nil, mx_wt_1, mx_wt_2, mx_wt_3, Option.bind_some, Option.toList_some, Option.toList_none, List.cons_append, List.nil_append, mx_nl_int, mx_nl_ref, mx_nl_null, mx_nl_none, mx_nb0, mx_nb1, mx_fb0, mx_fb1, mx_cat_int, mx_cat_ref, if_true, if_false, not_true_eq_false, not_false_eq_true, mx_wt_4, mx_w4_0, mx_w9_0, mx_w9_1, mx_kn_int, mx_kn_ref, mx_kn_null, Nat.reduceLT, ofn, n10, q]
      rw [show f.toNat = 0 by omega]
      rfl
    · have q : ¬ Int32.ofInt f < 0 := by rw [Int32.lt_iff_toInt_lt, ef]; exact c
      simp only [g27_0, g27_1, g27_2, g27_5, g27_6, g27_9, g27_10, mx_isr_ref, mx_isr_null, mx_wt_nil, mx_wt_1, mx_wt_2, mx_wt_3, Option.bind_some, Option.toList_some, Option.toList_none, List.cons_append, List.nil_append, mx_nl_int, mx_nl_ref, mx_nl_null, mx_nl_none, mx_nb0, mx_nb1, mx_fb0, mx_fb1, mx_cat_int, mx_cat_ref, if_true, if_false, not_true_eq_false, not_false_eq_true, mx_wt_4, mx_w4_0, mx_w9_0, mx_w9_1, mx_kn_int, mx_kn_ref, mx_kn_null, Nat.reduceLT, ofn, n10, q]
      rw [← oI_nat, show ((f.toNat : Nat) : Int) = f by omega]
  have hG : mx_G (d + 4) 183 0 [some (.ref v), some (.ref v'), some (.int (Int32.ofInt f)), some (.int (Int32.ofInt t)), none, none] [] h = mx_G (d + 4) 183 7 [some (.ref v), some (.ref v'), some (.int (Int32.ofInt f)), some (.int (Int32.ofInt t)), some (.int (nI f.toNat)), none] [] h := by
    simp only [g183_0, g183_1, g183_2, g183_5, mx_isr_ref, mx_isr_null, mx_wt_nil, mx_wt_1, mx_wt_2, mx_wt_3, Option.bind_some, Option.toList_some, Option.toList_none, List.cons_append, List.nil_append, mx_nl_int, mx_nl_ref, mx_nl_null, mx_nl_none, mx_nb0, mx_nb1, mx_fb0, mx_fb1, mx_cat_int, mx_cat_ref, if_true, if_false, not_true_eq_false, not_false_eq_true, mx_wt_4, mx_w4_0, mx_w9_0, mx_w9_1, mx_kn_int, mx_kn_ref, mx_kn_null, Nat.reduceLT, ofn, n10, hmax]
  obtain ⟨o1, o2⟩ := jh_out (d := d) V V' (f := Int32.ofInt f) ht 40000 f.toNat none (by omega) (by omega)
  rw [hG]
  exact ⟨fun ⟨j, z1, z2, z3⟩ => o1 ⟨j, by omega, z2, z3⟩, fun z => o2 (fun ⟨j, z1, z2, z3⟩ => z ⟨j, by omega, z2, z3⟩)⟩
/-- the operators by number -/
def opsL : List (List Nat) := [w_pr, w_eq, w_ne, w_co, w_sw, w_ew, w_gt, w_ge, w_lt, w_le]
def hV (op : List Nat) (q q' : Int × List Nat) : Bool := if op = w_co ∨ op = w_sw ∨ op = w_ew then hasT op q.2 q'.2 else askO op (srC (q.2, q.1) (q'.2, q'.1))
theorem hasT_co (a b : List Nat) : hasT w_co a b = true ↔ ∃ j : Nat, (0 : Int) ≤ j ∧ (j : Int) ≤ (a.length : Int) - b.length ∧ (a.drop j).take b.length = b := by
  unfold hasT atP
  simp only [List.any_eq_true, List.mem_range, Bool.and_eq_true, beq_iff_eq, Bool.or_eq_true]
  constructor
  · rintro ⟨k, h1, -, h2⟩; exact ⟨k, by omega, by omega, h2⟩
  · rintro ⟨j, -, h1, h2⟩; exact ⟨j, by omega, Or.inl (Or.inl trivial), h2⟩
theorem hasT_sw (a b : List Nat) : hasT w_sw a b = true ↔ ∃ j : Nat, (0 : Int) ≤ j ∧ (j : Int) ≤ 0 ∧ (a.drop j).take b.length = b := by
  unfold hasT atP
  simp only [List.any_eq_true, List.mem_range, Bool.and_eq_true, beq_iff_eq, Bool.or_eq_true]
  constructor
  · rintro ⟨k, h1, h3, h2⟩
    have : k = 0 := by
      rcases h3 with (z | z) | z
      · exact absurd z (by decide)
      · exact z.2
      · exact absurd z.1 (by decide)
    exact ⟨k, by omega, by omega, h2⟩
  · rintro ⟨j, -, h1, h2⟩
    have hj : j = 0 := by omega
    subst hj
    have : b.length ≤ a.length := by
      have := congrArg List.length h2
      rw [List.length_take, List.drop_zero] at this
      omega
    exact ⟨0, by omega, Or.inl (Or.inr ⟨trivial, rfl⟩), h2⟩
theorem hasT_ew (a b : List Nat) : hasT w_ew a b = true ↔ ∃ j : Nat, ((a.length : Int) - b.length) ≤ j ∧ (j : Int) ≤ (a.length : Int) - b.length ∧ (a.drop j).take b.length = b := by
  unfold hasT atP
  simp only [List.any_eq_true, List.mem_range, Bool.and_eq_true, beq_iff_eq, Bool.or_eq_true]
  constructor
  · rintro ⟨k, h1, h3, h2⟩
    have : k + b.length = a.length := by
      rcases h3 with (z | z) | z
      · exact absurd z (by decide)
      · exact absurd z.1 (by decide)
      · exact z.2
    exact ⟨k, by omega, by omega, h2⟩
  · rintro ⟨j, h0, h1, h2⟩
    exact ⟨j, by omega, Or.inr ⟨trivial, by omega⟩, h2⟩
def hOV (c : Nat) : Option (Nat × Int × List Nat) → Option (Nat × Int × List Nat) → Bool
  | none, _ => false
  | some _, none => true
  | some q, some q' => hV (opsL.getD c []) q.2 q'.2
/-- holds: c is the operator asked -/
theorem jh_holds {fl : Nat} {fk fa fo : Int32} {fv ff fn own : Value} {o vo : Option (Nat × Int × List Nat)} (ef : h[fl]? = some (.inl 10, [.int fk, .int fa, .int fo, fv, ff, fn])) (O : OV M h own o) (FV : OV M h fv vo) {c : Nat} (hc : c < 10) (hc2 : c ≠ 2) (hpr : c = 0 ↔ vo = none) :
    mx_G (d + 5) 182 0 [some (.ref fl), some (.int (nI c)), some own, none] [] h = some (some (.int (if hOV c o vo = true then 1 else 0)), h) := by
  have tf : mx_tag h fl = some (.inl 10) := ce_t ef
  have lf : mx_ln h fl = 6 := by rw [ce_n ef]; rfl
  have e3 : mx_el h fl 3 = fv := by rw [ce_e ef]; rfl
  have kfv := isr_kn FV.isr
  cases o with
  | none =>
    rw [show own = .null from O]
    simp only [g182_0, g182_1, g182_1n, g182_4, g182_5, g182_8, g182_8n, g182_11, g182_12, g182_12n, g182_15, g182_16, g182_19, g182_20, g182_23, g182_24, mx_isr_ref, mx_isr_null, mx_wt_nil, mx_wt_1, mx_wt_2, mx_wt_3, Option.bind_some, Option.toList_some, Option.toList_none, List.cons_append, List.nil_append, mx_nl_int, mx_nl_ref, mx_nl_null, mx_nl_none, mx_nb0, mx_nb1, mx_fb0, mx_fb1, mx_cat_int, mx_cat_ref, if_true, if_false, not_true_eq_false, not_false_eq_true, mx_wt_4, mx_w4_0, mx_w9_0, mx_w9_1, mx_kn_int, mx_kn_ref, mx_kn_null, Nat.reduceLT, ofn, n10, hOV, Bool.false_eq_true]
  | some q =>
    obtain ⟨w, rfl, W, nw⟩ := O
    cases vo with
    | none =>
      have hc0 : c = 0 := hpr.mpr rfl
      subst hc0
      rw [show fv = .null from FV] at e3 kfv
      simp only [g182_0, g182_1, g182_1n, g182_4, g182_5, g182_8, g182_8n, g182_11, g182_12, g182_12n, g182_15, g182_16, g182_19, g182_20, g182_23, g182_24, mx_isr_ref, mx_isr_null, mx_wt_nil, mx_wt_1, mx_wt_2, mx_wt_3, Option.bind_some, Option.toList_some, Option.toList_none, List.cons_append, List.nil_append, mx_nl_int, mx_nl_ref, mx_nl_null, mx_nl_none, mx_nb0, mx_nb1, mx_fb0, mx_fb1, mx_cat_int, mx_cat_ref, if_true, if_false, not_true_eq_false, not_false_eq_true, mx_wt_4, mx_w4_0, mx_w9_0, mx_w9_1, mx_kn_int, mx_kn_ref, mx_kn_null, Nat.reduceLT, ofn, n10, tf, lf, e3, show nI 0 = 0 from rfl, hOV]
    | some q' =>
      obtain ⟨w', rfl, W', nw'⟩ := FV
      have hc0 : c ≠ 0 := fun z => by have := hpr.mp z; cases this
      obtain ⟨s, b, f, t, l, x0, x1, x2, x3, x4, S⟩ := VC_f W.vc
      obtain ⟨s', b', f', t', l', y0, y1, y2, y3, y4, S'⟩ := VC_f W'.vc
      have la := S.2.2.2.1
      have lb := S'.2.2.2.1
      obtain ⟨r, gr, r1, r2, r3⟩ := ja_cmp (d := d) nw nw' W.vc W'.vc
      have hsub : nI q.2.2.length - nI q'.2.2.length = Int32.ofInt ((q.2.2.length : Int) - q'.2.2.length) := by
        apply Int32.toInt_inj.mp
        rw [nI_subI (by omega) (by omega), i32_toInt ⟨by omega, by omega⟩]
      have pre : mx_G (d + 5) 182 0 [some (.ref fl), some (.int (nI c)), some (.ref w), none] [] h = mx_G (d + 5) 182 45 [some (.ref fl), some (.int (nI c)), some (.ref w), some (.int (Int32.ofInt ((q.2.2.length : Int) - q'.2.2.length)))] [.int (nI c)] h := by
        simp only [g182_0, g182_1, g182_1n, g182_4, g182_5, g182_8, g182_8n, g182_11, g182_12, g182_12n, g182_15, g182_16, g182_19, g182_20, g182_23, g182_24, g182_25, g182_26, g182_29, g182_32, g182_33, g182_36, g182_39, g182_42, g182_43, g182_44, mx_isr_ref, mx_isr_null, mx_wt_nil, mx_wt_1, mx_wt_2, mx_wt_3, Option.bind_some, Option.toList_some, Option.toList_none, List.cons_append, List.nil_append, mx_nl_int, mx_nl_ref, mx_nl_null, mx_nl_none, mx_nb0, mx_nb1, mx_fb0, mx_fb1, mx_cat_int, mx_cat_ref, if_true, if_false, not_true_eq_false, not_false_eq_true, mx_wt_4, mx_w4_0, mx_w9_0, mx_w9_1, mx_kn_int, mx_kn_ref, mx_kn_null, Nat.reduceLT, ofn, n10, tf, lf, e3, t, l, x2, (sB_f S).1, js_len S, t', l', y2, (sB_f S').1, js_len S', hsub]
      rw [pre]
      show _ = some (some (Value.int (if hV (opsL.getD c []) q.2 q'.2 = true then 1 else 0)), h)
      have hk : c = 1 ∨ c = 3 ∨ c = 4 ∨ c = 5 ∨ c = 6 ∨ c = 7 ∨ c = 8 ∨ c = 9 := by omega
      rcases hk with rfl | rfl | rfl | rfl | rfl | rfl | rfl | rfl
      · -- eq
        have e : hV (opsL.getD 1 []) q.2 q'.2 = decide (srC (q.2.2, q.2.1) (q'.2.2, q'.2.1) = 0) := by
          show hV w_eq q.2 q'.2 = _
          unfold hV askO
          rw [if_neg (by decide)]
          simp [w_eq, w_gt, w_ge, w_lt, w_le]
        rw [e, show nI 1 = 1 from rfl]
        by_cases z : r = 0
        · rw [if_pos (by simpa using r1.mp z)]
          simp only [g182_45_1, g182_45_2, g182_45_3, g182_45_4, g182_45_5, g182_45_6, g182_45_7, g182_45_8, g182_45d, g182_92, g182_93, g182_94, g182_97, g182_100, g182_103, g182_104, g182_107, g182_108, mx_isr_ref, mx_isr_null, mx_wt_nil, mx_wt_1, mx_wt_2, mx_wt_3, Option.bind_some, Option.toList_some, Option.toList_none, List.cons_append, List.nil_append, mx_nl_int, mx_nl_ref, mx_nl_null, mx_nl_none, mx_nb0, mx_nb1, mx_fb0, mx_fb1, mx_cat_int, mx_cat_ref, if_true, if_false, not_true_eq_false, not_false_eq_true, mx_wt_4, mx_w4_0, mx_w9_0, mx_w9_1, mx_kn_int, mx_kn_ref, mx_kn_null, Nat.reduceLT, ofn, n10, tf, lf, e3, t, gr, z]
        · rw [if_neg (by simpa using fun y => z (r1.mpr y))]
          simp only [g182_45_1, g182_45_2, g182_45_3, g182_45_4, g182_45_5, g182_45_6, g182_45_7, g182_45_8, g182_45d, g182_92, g182_93, g182_94, g182_97, g182_100, g182_103, g182_104, g182_107, g182_108, mx_isr_ref, mx_isr_null, mx_wt_nil, mx_wt_1, mx_wt_2, mx_wt_3, Option.bind_some, Option.toList_some, Option.toList_none, List.cons_append, List.nil_append, mx_nl_int, mx_nl_ref, mx_nl_null, mx_nl_none, mx_nb0, mx_nb1, mx_fb0, mx_fb1, mx_cat_int, mx_cat_ref, if_true, if_false, not_true_eq_false, not_false_eq_true, mx_wt_4, mx_w4_0, mx_w9_0, mx_w9_1, mx_kn_int, mx_kn_ref, mx_kn_null, Nat.reduceLT, ofn, n10, tf, lf, e3, t, gr, z]
      · -- co
        have e : hV (opsL.getD 3 []) q.2 q'.2 = hasT w_co q.2.2 q'.2.2 := rfl
        rw [e, show nI 3 = 3 from rfl]
        obtain ⟨i1, i2⟩ := jh_has (d := d) W.vc W'.vc (f := 0) (t := (q.2.2.length : Int) - q'.2.2.length) ⟨by omega, by omega⟩ ⟨by omega, by omega⟩
        rw [show Int32.ofInt 0 = 0 from rfl] at i1 i2
        by_cases z : hasT w_co q.2.2 q'.2.2 = true
        · rw [if_pos z]
          have := i1 ((hasT_co _ _).mp z)
          simp only [g182_45_1, g182_45_2, g182_45_3, g182_45_4, g182_45_5, g182_45_6, g182_45_7, g182_45_8, g182_45d, g182_92, g182_93, g182_94, g182_97, g182_100, g182_103, g182_104, g182_107, g182_108, g182_109, g182_110, g182_111, g182_114, g182_115, g182_116, g182_119, mx_isr_ref, mx_isr_null, mx_wt_nil, mx_wt_1, mx_wt_2, mx_wt_3, Option.bind_some, Option.toList_some, Option.toList_none, List.cons_append, List.nil_append, mx_nl_int, mx_nl_ref, mx_nl_null, mx_nl_none, mx_nb0, mx_nb1, mx_fb0, mx_fb1, mx_cat_int, mx_cat_ref, if_true, if_false, not_true_eq_false, not_false_eq_true, mx_wt_4, mx_w4_0, mx_w9_0, mx_w9_1, mx_kn_int, mx_kn_ref, mx_kn_null, Nat.reduceLT, ofn, n10, tf, lf, e3, t, this]
        · rw [if_neg z]
          have := i2 (fun y => z ((hasT_co _ _).mpr y))
          simp only [g182_45_1, g182_45_2, g182_45_3, g182_45_4, g182_45_5, g182_45_6, g182_45_7, g182_45_8, g182_45d, g182_92, g182_93, g182_94, g182_97, g182_100, g182_103, g182_104, g182_107, g182_108, g182_109, g182_110, g182_111, g182_114, g182_115, g182_116, g182_119, mx_isr_ref, mx_isr_null, mx_wt_nil, mx_wt_1, mx_wt_2, mx_wt_3, Option.bind_some, Option.toList_some, Option.toList_none, List.cons_append, List.nil_append, mx_nl_int, mx_nl_ref, mx_nl_null, mx_nl_none, mx_nb0, mx_nb1, mx_fb0, mx_fb1, mx_cat_int, mx_cat_ref, if_true, if_false, not_true_eq_false, not_false_eq_true, mx_wt_4, mx_w4_0, mx_w9_0, mx_w9_1, mx_kn_int, mx_kn_ref, mx_kn_null, Nat.reduceLT, ofn, n10, tf, lf, e3, t, this]
      · -- sw
        have e : hV (opsL.getD 4 []) q.2 q'.2 = hasT w_sw q.2.2 q'.2.2 := rfl
        rw [e, show nI 4 = 4 from rfl]
        obtain ⟨i1, i2⟩ := jh_has (d := d) W.vc W'.vc (f := 0) (t := 0) ⟨by omega, by omega⟩ ⟨by omega, by omega⟩
        rw [show Int32.ofInt 0 = 0 from rfl] at i1 i2
        by_cases z : hasT w_sw q.2.2 q'.2.2 = true
        · rw [if_pos z]
          have := i1 ((hasT_sw _ _).mp z)
          simp only [g182_45_1, g182_45_2, g182_45_3, g182_45_4, g182_45_5, g182_45_6, g182_45_7, g182_45_8, g182_45d, g182_92, g182_93, g182_94, g182_97, g182_100, g182_103, g182_104, g182_107, g182_108, g182_109, g182_110, g182_111, g182_114, g182_115, g182_116, g182_119, g182_120, g182_121, g182_122, g182_125, g182_126, g182_127, g182_130, mx_isr_ref, mx_isr_null, mx_wt_nil, mx_wt_1, mx_wt_2, mx_wt_3, Option.bind_some, Option.toList_some, Option.toList_none, List.cons_append, List.nil_append, mx_nl_int, mx_nl_ref, mx_nl_null, mx_nl_none, mx_nb0, mx_nb1, mx_fb0, mx_fb1, mx_cat_int, mx_cat_ref, if_true, if_false, not_true_eq_false, not_false_eq_true, mx_wt_4, mx_w4_0, mx_w9_0, mx_w9_1, mx_kn_int, mx_kn_ref, mx_kn_null, Nat.reduceLT, ofn, n10, tf, lf, e3, t, this]
        · rw [if_neg z]
          have := i2 (fun y => z ((hasT_sw _ _).mpr y))
          simp only [g182_45_1, g182_45_2, g182_45_3, g182_45_4, g182_45_5, g182_45_6, g182_45_7, g182_45_8, g182_45d, g182_92, g182_93, g182_94, g182_97, g182_100, g182_103, g182_104, g182_107, g182_108, g182_109, g182_110, g182_111, g182_114, g182_115, g182_116, g182_119, g182_120, g182_121, g182_122, g182_125, g182_126, g182_127, g182_130, mx_isr_ref, mx_isr_null, mx_wt_nil, mx_wt_1, mx_wt_2, mx_wt_3, Option.bind_some, Option.toList_some, Option.toList_none, List.cons_append, List.nil_append, mx_nl_int, mx_nl_ref, mx_nl_null, mx_nl_none, mx_nb0, mx_nb1, mx_fb0, mx_fb1, mx_cat_int, mx_cat_ref, if_true, if_false, not_true_eq_false, not_false_eq_true, mx_wt_4, mx_w4_0, mx_w9_0, mx_w9_1, mx_kn_int, mx_kn_ref, mx_kn_null, Nat.reduceLT, ofn, n10, tf, lf, e3, t, this]
      · -- ew
        have e : hV (opsL.getD 5 []) q.2 q'.2 = hasT w_ew q.2.2 q'.2.2 := rfl
        rw [e, show nI 5 = 5 from rfl]
        obtain ⟨i1, i2⟩ := jh_has (d := d) W.vc W'.vc (f := (q.2.2.length : Int) - q'.2.2.length) (t := (q.2.2.length : Int) - q'.2.2.length) ⟨by omega, by omega⟩ ⟨by omega, by omega⟩
        by_cases z : hasT w_ew q.2.2 q'.2.2 = true
        · rw [if_pos z]
          have := i1 ((hasT_ew _ _).mp z)
          simp only [g182_45_1, g182_45_2, g182_45_3, g182_45_4, g182_45_5, g182_45_6, g182_45_7, g182_45_8, g182_45d, g182_92, g182_93, g182_94, g182_97, g182_100, g182_103, g182_104, g182_107, g182_108, g182_109, g182_110, g182_111, g182_114, g182_115, g182_116, g182_119, g182_120, g182_121, g182_122, g182_125, g182_126, g182_127, g182_130, g182_131, g182_132, g182_133, g182_136, g182_137, g182_138, g182_141, mx_isr_ref, mx_isr_null, mx_wt_nil, mx_wt_1, mx_wt_2, mx_wt_3, Option.bind_some, Option.toList_some, Option.toList_none, List.cons_append, List.nil_append, mx_nl_int, mx_nl_ref, mx_nl_null, mx_nl_none, mx_nb0, mx_nb1, mx_fb0, mx_fb1, mx_cat_int, mx_cat_ref, if_true, if_false, not_true_eq_false, not_false_eq_true, mx_wt_4, mx_w4_0, mx_w9_0, mx_w9_1, mx_kn_int, mx_kn_ref, mx_kn_null, Nat.reduceLT, ofn, n10, tf, lf, e3, t, this]
        · rw [if_neg z]
          have := i2 (fun y => z ((hasT_ew _ _).mpr y))
          simp only [g182_45_1, g182_45_2, g182_45_3, g182_45_4, g182_45_5, g182_45_6, g182_45_7, g182_45_8, g182_45d, g182_92, g182_93, g182_94, g182_97, g182_100, g182_103, g182_104, g182_107, g182_108, g182_109, g182_110, g182_111, g182_114, g182_115, g182_116, g182_119, g182_120, g182_121, g182_122, g182_125, g182_126, g182_127, g182_130, g182_131, g182_132, g182_133, g182_136, g182_137, g182_138, g182_141, mx_isr_ref, mx_isr_null, mx_wt_nil, mx_wt_1, mx_wt_2, mx_wt_3, Option.bind_some, Option.toList_some, Option.toList_none, List.cons_append, List.nil_append, mx_nl_int, mx_nl_ref, mx_nl_null, mx_nl_none, mx_nb0, mx_nb1, mx_fb0, mx_fb1, mx_cat_int, mx_cat_ref, if_true, if_false, not_true_eq_false, not_false_eq_true, mx_wt_4, mx_w4_0, mx_w9_0, mx_w9_1, mx_kn_int, mx_kn_ref, mx_kn_null, Nat.reduceLT, ofn, n10, tf, lf, e3, t, this]
      · -- gt
        have e : hV (opsL.getD 6 []) q.2 q'.2 = decide (0 < srC (q.2.2, q.2.1) (q'.2.2, q'.2.1)) := by
          show hV w_gt q.2 q'.2 = _
          unfold hV askO
          rw [if_neg (by decide)]
          simp [w_eq, w_gt, w_ge, w_lt, w_le]
        rw [e, show nI 6 = 6 from rfl]
        by_cases z : 0 < r
        · have z' : ¬ r ≤ 0 := by rw [Int32.not_le]; exact z
          rw [if_pos (by simpa using r3.mp z)]
          simp only [g182_45_1, g182_45_2, g182_45_3, g182_45_4, g182_45_5, g182_45_6, g182_45_7, g182_45_8, g182_45d, g182_92, g182_93, g182_94, g182_97, g182_100, g182_103, g182_104, g182_107, g182_108, g182_109, g182_110, g182_111, g182_114, g182_115, g182_116, g182_119, g182_120, g182_121, g182_122, g182_125, g182_126, g182_127, g182_130, g182_131, g182_132, g182_133, g182_136, g182_137, g182_138, g182_141, g182_142, g182_143, g182_144, g182_147, g182_150, g182_153, g182_154, g182_157, g182_158, mx_isr_ref, mx_isr_null, mx_wt_nil, mx_wt_1, mx_wt_2, mx_wt_3, Option.bind_some, Option.toList_some, Option.toList_none, List.cons_append, List.nil_append, mx_nl_int, mx_nl_ref, mx_nl_null, mx_nl_none, mx_nb0, mx_nb1, mx_fb0, mx_fb1, mx_cat_int, mx_cat_ref, if_true, if_false, not_true_eq_false, not_false_eq_true, mx_wt_4, mx_w4_0, mx_w9_0, mx_w9_1, mx_kn_int, mx_kn_ref, mx_kn_null, Nat.reduceLT, ofn, n10, tf, lf, e3, t, gr, z']
        · have z' : r ≤ 0 := by rw [← Int32.not_lt]; exact z
          rw [if_neg (by simpa using fun y => z (r3.mpr y))]
          simp only [g182_45_1, g182_45_2, g182_45_3, g182_45_4, g182_45_5, g182_45_6, g182_45_7, g182_45_8, g182_45d, g182_92, g182_93, g182_94, g182_97, g182_100, g182_103, g182_104, g182_107, g182_108, g182_109, g182_110, g182_111, g182_114, g182_115, g182_116, g182_119, g182_120, g182_121, g182_122, g182_125, g182_126, g182_127, g182_130, g182_131, g182_132, g182_133, g182_136, g182_137, g182_138, g182_141, g182_142, g182_143, g182_144, g182_147, g182_150, g182_153, g182_154, g182_157, g182_158, mx_isr_ref, mx_isr_null, mx_wt_nil, mx_wt_1, mx_wt_2, mx_wt_3, Option.bind_some, Option.toList_some, Option.toList_none, List.cons_append, List.nil_append, mx_nl_int, mx_nl_ref, mx_nl_null, mx_nl_none, mx_nb0, mx_nb1, mx_fb0, mx_fb1, mx_cat_int, mx_cat_ref, if_true, if_false, not_true_eq_false, not_false_eq_true, mx_wt_4, mx_w4_0, mx_w9_0, mx_w9_1, mx_kn_int, mx_kn_ref, mx_kn_null, Nat.reduceLT, ofn, n10, tf, lf, e3, t, gr, z']
      · -- ge
        have e : hV (opsL.getD 7 []) q.2 q'.2 = decide (0 ≤ srC (q.2.2, q.2.1) (q'.2.2, q'.2.1)) := by
          show hV w_ge q.2 q'.2 = _
          unfold hV askO
          rw [if_neg (by decide)]
          simp [w_eq, w_gt, w_ge, w_lt, w_le]
        rw [e, show nI 7 = 7 from rfl]
        by_cases z : r < 0
        · rw [if_neg (by have := r2.mp z; simp; omega)]
          simp only [g182_45_1, g182_45_2, g182_45_3, g182_45_4, g182_45_5, g182_45_6, g182_45_7, g182_45_8, g182_45d, g182_92, g182_93, g182_94, g182_97, g182_100, g182_103, g182_104, g182_107, g182_108, g182_109, g182_110, g182_111, g182_114, g182_115, g182_116, g182_119, g182_120, g182_121, g182_122, g182_125, g182_126, g182_127, g182_130, g182_131, g182_132, g182_133, g182_136, g182_137, g182_138, g182_141, g182_142, g182_143, g182_144, g182_147, g182_150, g182_153, g182_154, g182_157, g182_158, g182_159, g182_160, g182_161, g182_164, g182_167, g182_170, g182_171, g182_174, g182_175, mx_isr_ref, mx_isr_null, mx_wt_nil, mx_wt_1, mx_wt_2, mx_wt_3, Option.bind_some, Option.toList_some, Option.toList_none, List.cons_append, List.nil_append, mx_nl_int, mx_nl_ref, mx_nl_null, mx_nl_none, mx_nb0, mx_nb1, mx_fb0, mx_fb1, mx_cat_int, mx_cat_ref, if_true, if_false, not_true_eq_false, not_false_eq_true, mx_wt_4, mx_w4_0, mx_w9_0, mx_w9_1, mx_kn_int, mx_kn_ref, mx_kn_null, Nat.reduceLT, ofn, n10, tf, lf, e3, t, gr, z]
        · rw [if_pos (by have : ¬ srC (q.2.2, q.2.1) (q'.2.2, q'.2.1) < 0 := fun y => z (r2.mpr y); simp; omega)]
          simp only [g182_45_1, g182_45_2, g182_45_3, g182_45_4, g182_45_5, g182_45_6, g182_45_7, g182_45_8, g182_45d, g182_92, g182_93, g182_94, g182_97, g182_100, g182_103, g182_104, g182_107, g182_108, g182_109, g182_110, g182_111, g182_114, g182_115, g182_116, g182_119, g182_120, g182_121, g182_122, g182_125, g182_126, g182_127, g182_130, g182_131, g182_132, g182_133, g182_136, g182_137, g182_138, g182_141, g182_142, g182_143, g182_144, g182_147, g182_150, g182_153, g182_154, g182_157, g182_158, g182_159, g182_160, g182_161, g182_164, g182_167, g182_170, g182_171, g182_174, g182_175, mx_isr_ref, mx_isr_null, mx_wt_nil, mx_wt_1, mx_wt_2, mx_wt_3, Option.bind_some, Option.toList_some, Option.toList_none, List.cons_append, List.nil_append, mx_nl_int, mx_nl_ref, mx_nl_null, mx_nl_none, mx_nb0, mx_nb1, mx_fb0, mx_fb1, mx_cat_int, mx_cat_ref, if_true, if_false, not_true_eq_false, not_false_eq_true, mx_wt_4, mx_w4_0, mx_w9_0, mx_w9_1, mx_kn_int, mx_kn_ref, mx_kn_null, Nat.reduceLT, ofn, n10, tf, lf, e3, t, gr, z]
      · -- lt
        have e : hV (opsL.getD 8 []) q.2 q'.2 = decide (srC (q.2.2, q.2.1) (q'.2.2, q'.2.1) < 0) := by
          show hV w_lt q.2 q'.2 = _
          unfold hV askO
          rw [if_neg (by decide)]
          simp [w_eq, w_gt, w_ge, w_lt, w_le]
        rw [e, show nI 8 = 8 from rfl]
        by_cases z : r < 0
        · have z' : ¬ 0 ≤ r := by rw [Int32.not_le]; exact z
          rw [if_pos (by simpa using r2.mp z)]
          simp only [g182_45_1, g182_45_2, g182_45_3, g182_45_4, g182_45_5, g182_45_6, g182_45_7, g182_45_8, g182_45d, g182_92, g182_93, g182_94, g182_97, g182_100, g182_103, g182_104, g182_107, g182_108, g182_109, g182_110, g182_111, g182_114, g182_115, g182_116, g182_119, g182_120, g182_121, g182_122, g182_125, g182_126, g182_127, g182_130, g182_131, g182_132, g182_133, g182_136, g182_137, g182_138, g182_141, g182_142, g182_143, g182_144, g182_147, g182_150, g182_153, g182_154, g182_157, g182_158, g182_159, g182_160, g182_161, g182_164, g182_167, g182_170, g182_171, g182_174, g182_175, g182_176, g182_177, g182_178, g182_181, g182_184, g182_187, g182_188, g182_191, g182_192, mx_isr_ref, mx_isr_null, mx_wt_nil, mx_wt_1, mx_wt_2, mx_wt_3, Option.bind_some, Option.toList_some, Option.toList_none, List.cons_append, List.nil_append, mx_nl_int, mx_nl_ref, mx_nl_null, mx_nl_none, mx_nb0, mx_nb1, mx_fb0, mx_fb1, mx_cat_int, mx_cat_ref, if_true, if_false, not_true_eq_false, not_false_eq_true, mx_wt_4, mx_w4_0, mx_w9_0, mx_w9_1, mx_kn_int, mx_kn_ref, mx_kn_null, Nat.reduceLT, ofn, n10, tf, lf, e3, t, gr, z']
        · have z' : 0 ≤ r := by rw [← Int32.not_lt]; exact z
          rw [if_neg (by simpa using fun y => z (r2.mpr y))]
          simp only [g182_45_1, g182_45_2, g182_45_3, g182_45_4, g182_45_5, g182_45_6, g182_45_7, g182_45_8, g182_45d, g182_92, g182_93, g182_94, g182_97, g182_100, g182_103, g182_104, g182_107, g182_108, g182_109, g182_110, g182_111, g182_114, g182_115, g182_116, g182_119, g182_120, g182_121, g182_122, g182_125, g182_126, g182_127, g182_130, g182_131, g182_132, g182_133, g182_136, g182_137, g182_138, g182_141, g182_142, g182_143, g182_144, g182_147, g182_150, g182_153, g182_154, g182_157, g182_158, g182_159, g182_160, g182_161, g182_164, g182_167, g182_170, g182_171, g182_174, g182_175, g182_176, g182_177, g182_178, g182_181, g182_184, g182_187, g182_188, g182_191, g182_192, mx_isr_ref, mx_isr_null, mx_wt_nil, mx_wt_1, mx_wt_2, mx_wt_3, Option.bind_some, Option.toList_some, Option.toList_none, List.cons_append, List.nil_append, mx_nl_int, mx_nl_ref, mx_nl_null, mx_nl_none, mx_nb0, mx_nb1, mx_fb0, mx_fb1, mx_cat_int, mx_cat_ref, if_true, if_false, not_true_eq_false, not_false_eq_true, mx_wt_4, mx_w4_0, mx_w9_0, mx_w9_1, mx_kn_int, mx_kn_ref, mx_kn_null, Nat.reduceLT, ofn, n10, tf, lf, e3, t, gr, z']
      · -- le
        have e : hV (opsL.getD 9 []) q.2 q'.2 = decide (srC (q.2.2, q.2.1) (q'.2.2, q'.2.1) ≤ 0) := by
          show hV w_le q.2 q'.2 = _
          unfold hV askO
          rw [if_neg (by decide)]
          simp [w_eq, w_gt, w_ge, w_lt, w_le]
        rw [e, show nI 9 = 9 from rfl, g182_45d (by decide)]
        by_cases z : 0 < r
        · rw [if_neg (by have := r3.mp z; simp; omega)]
          simp only [g182_193, g182_194, g182_195, g182_198, g182_201, g182_204, g182_205, g182_208, g182_209, mx_isr_ref, mx_isr_null, mx_wt_nil, mx_wt_1, mx_wt_2, mx_wt_3, Option.bind_some, Option.toList_some, Option.toList_none, List.cons_append, List.nil_append, mx_nl_int, mx_nl_ref, mx_nl_null, mx_nl_none, mx_nb0, mx_nb1, mx_fb0, mx_fb1, mx_cat_int, mx_cat_ref, if_true, if_false, not_true_eq_false, not_false_eq_true, mx_wt_4, mx_w4_0, mx_w9_0, mx_w9_1, mx_kn_int, mx_kn_ref, mx_kn_null, Nat.reduceLT, ofn, n10, tf, lf, e3, t, gr, z]
        · rw [if_pos (by have : ¬ 0 < srC (q.2.2, q.2.1) (q'.2.2, q'.2.1) := fun y => z (r3.mpr y); simp; omega)]
          simp only [g182_193, g182_194, g182_195, g182_198, g182_201, g182_204, g182_205, g182_208, g182_209, mx_isr_ref, mx_isr_null, mx_wt_nil, mx_wt_1, mx_wt_2, mx_wt_3, Option.bind_some, Option.toList_some, Option.toList_none, List.cons_append, List.nil_append, mx_nl_int, mx_nl_ref, mx_nl_null, mx_nl_none, mx_nb0, mx_nb1, mx_fb0, mx_fb1, mx_cat_int, mx_cat_ref, if_true, if_false, not_true_eq_false, not_false_eq_true, mx_wt_4, mx_w4_0, mx_w9_0, mx_w9_1, mx_kn_int, mx_kn_ref, mx_kn_null, Nat.reduceLT, ofn, n10, tf, lf, e3, t, gr, z]
end
