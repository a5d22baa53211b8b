/-! The model's places: 76 itself, its arrays behind it. -/
def mr_tab : List (Nat × Nat × FieldType × Nat) := [(0, 77, .int, 800), (2, 78, .char, 120), (5, 79, .int, 130), (6, 80, .int, 130), (7, 81, .int, 130), (8, 82, .long, 130), (9, 83, .char, 130), (11, 84, .int, 5), (13, 85, .int, 130), (14, 86, .int, 130), (15, 87, .int, 130), (16, 88, .int, 130), (17, 89, .long, 130), (20, 90, .int, 130), (24, 91, .boolean, 130), (25, 92, .boolean, 130), (27, 93, .int, 60), (28, 94, .int, 60), (29, 95, .int, 60), (30, 96, .int, 60), (31, 97, .int, 60), (32, 98, .boolean, 5), (33, 99, .boolean, 5), (35, 100, .int, 8), (36, 101, .int, 8)]
def mr_int : List Nat := [1, 3, 4, 10, 12, 18, 19, 21, 22, 23, 26, 34, 37, 38, 39]
def mr_ty (a : Nat) : Option FieldType := (mr_tab.find? fun q => q.2.1 == a).map fun q => q.2.2.1
def mr_n (a : Nat) : Nat := ((mr_tab.find? fun q => q.2.1 == a).map fun q => q.2.2.2).getD 0
def mr_isI (a : Nat) : Bool := match mr_ty a with
  | some .long => false
  | some _ => true
  | none => false
def mr_isJ (a : Nat) : Bool := mr_ty a == some .long
def mr_isF (k : Nat) : Bool := mr_int.contains k
def mi (h : mx_H) (a k : Nat) : Int32 := match mx_el h a k with
  | .int x => x
  | _ => 0
def ml (h : mx_H) (a k : Nat) : Int64 := match mx_el h a k with
  | .long x => x
  | _ => 0
def mr_ok (ty : FieldType) (v : Value) : Prop := match ty with
  | .long => ∃ u, v = .long u
  | _ => ∃ x, v = .int x
def mr_T (h : mx_H) : Prop := mx_tag h 76 = some (.inl 11) ∧ mx_ln h 76 = 40 ∧ (∀ q ∈ mr_tab, mx_el h 76 q.1 = .ref q.2.1 ∧ mx_tag h q.2.1 = some (.inr q.2.2.1) ∧ mx_ln h q.2.1 = q.2.2.2 ∧ ∀ k, k < q.2.2.2 → mr_ok q.2.2.1 (mx_el h q.2.1 k)) ∧ ∀ k ∈ mr_int, ∃ x, mx_el h 76 k = .int x
section
variable {h : mx_H} {a k : Nat} {ty : FieldType}
theorem mr_t76 (T : mr_T h) : mx_tag h 76 = some (.inl 11) := T.1
theorem mr_l76 (T : mr_T h) (hk : k < 40) : k < mx_ln h 76 := by rw [T.2.1]; exact hk
theorem mr_at (hA : mr_ty a = some ty) : ∃ q ∈ mr_tab, q.2.1 = a ∧ q.2.2.1 = ty ∧ mr_n a = q.2.2.2 := by
  unfold mr_ty at hA
  obtain ⟨q, hq, he⟩ := Option.map_eq_some_iff.mp hA
  refine ⟨q, List.mem_of_find?_eq_some hq, by simpa using List.find?_some hq, he, ?_⟩
  unfold mr_n
  rw [hq]
  rfl
theorem mr_tg (T : mr_T h) (hA : mr_ty a = some ty) : mx_tag h a = some (.inr ty) := by
  obtain ⟨q, hq, rfl, rfl, -⟩ := mr_at hA
  exact (T.2.2.1 q hq).2.1
theorem mr_ln (T : mr_T h) (hA : mr_ty a = some ty) : mx_ln h a = mr_n a := by
  obtain ⟨q, hq, rfl, rfl, e⟩ := mr_at hA
  rw [e]
  exact (T.2.2.1 q hq).2.2.1
theorem mr_ll (T : mr_T h) (hA : mr_ty a = some ty) (hl : k < mr_n a) : k < mx_ln h a := by rw [mr_ln T hA]; exact hl
theorem mr_nO (hA : mr_ty a = some ty) : mt_nO ≤ a := by
  obtain ⟨q, hq, rfl, -, -⟩ := mr_at hA
  have key : ∀ q ∈ mr_tab, mt_nO ≤ q.2.1 := by decide
  exact key q hq
theorem mr_v (T : mr_T h) (hA : mr_ty a = some ty) (hy : (ty == .long) = false) (hl : k < mr_n a) : mx_el h a k = .int (mi h a k) := by
  obtain ⟨q, hq, rfl, rfl, e⟩ := mr_at hA
  rw [e] at hl
  have := (T.2.2.1 q hq).2.2.2 k hl
  unfold mr_ok at this
  split at this
  · rename_i he
    rw [he] at hy
    exact absurd hy (by decide)
  · obtain ⟨x, hx⟩ := this
    unfold mi
    rw [hx]
theorem mr_vl (T : mr_T h) (hA : mr_ty a = some ty) (hy : (ty == .long) = true) (hl : k < mr_n a) : mx_el h a k = .long (ml h a k) := by
  obtain ⟨q, hq, rfl, rfl, e⟩ := mr_at hA
  rw [e] at hl
  have := (T.2.2.1 q hq).2.2.2 k hl
  unfold mr_ok at this
  split at this
  · obtain ⟨x, hx⟩ := this
    unfold ml
    rw [hx]
  · rename_i he
    exact absurd (by simpa using hy) he
theorem mr_f (k : Nat) (T : mr_T h) (hk : k ∈ mr_int) : mx_el h 76 k = .int (mi h 76 k) := by
  obtain ⟨x, hx⟩ := T.2.2.2 k hk
  unfold mi
  rw [hx]
theorem mi_up (h : mx_H) (a k : Nat) (x : Int32) (b j : Nat) : mi (mx_up h a k (.int x)) b j = if b = a ∧ j = k ∧ k < mx_ln h a then x else mi h b j := by
  unfold mi
  rw [mx_el_up]
  by_cases e : b = a ∧ j = k ∧ k < mx_ln h a
  · rw [if_pos e, if_pos e]
  · rw [if_neg e, if_neg e]
theorem mi_upJ (h : mx_H) (a k : Nat) (x : Int64) (b j : Nat) (e : b ≠ a) : mi (mx_up h a k (.long x)) b j = mi h b j := by
  unfold mi
  rw [mx_el_up, if_neg (fun z => e z.1)]
theorem ml_up (h : mx_H) (a k : Nat) (x : Int64) (b j : Nat) : ml (mx_up h a k (.long x)) b j = if b = a ∧ j = k ∧ k < mx_ln h a then x else ml h b j := by
  unfold ml
  rw [mx_el_up]
  by_cases e : b = a ∧ j = k ∧ k < mx_ln h a
  · rw [if_pos e, if_pos e]
  · rw [if_neg e, if_neg e]
theorem ml_upI (h : mx_H) (a k : Nat) (x : Int32) (b j : Nat) (e : b ≠ a) : ml (mx_up h a k (.int x)) b j = ml h b j := by
  unfold ml
  rw [mx_el_up, if_neg (fun z => e z.1)]
theorem mr_tab_k : ∀ q ∈ mr_tab, ∀ p ∈ mr_tab, q.2.1 = p.2.1 → q = p := by decide
theorem mr_tab_76 : ∀ q ∈ mr_tab, q.2.1 ≠ 76 ∧ q.1 ∉ mr_int := by decide
theorem mr_T_upv (T : mr_T h) {v : Value} (hA : mr_ty a = some ty) (hv : mr_ok ty v) : mr_T (mx_up h a k v) := by
  obtain ⟨q0, hq0, rfl, rfl, -⟩ := mr_at hA
  have h76 := (mr_tab_76 q0 hq0).1
  refine ⟨by rw [mx_tag_up]; exact T.1, by rw [mx_ln_up]; exact T.2.1, fun q hq => ?_, fun j hj => ?_⟩
  · obtain ⟨t1, t2, t3, t4⟩ := T.2.2.1 q hq
    refine ⟨?_, by rw [mx_tag_up]; exact t2, by rw [mx_ln_up]; exact t3, fun j hj => ?_⟩
    · rw [mx_el_up, if_neg (fun z => h76 z.1.symm)]
      exact t1
    · rw [mx_el_up]
      split
      · rename_i z
        rw [mr_tab_k q hq q0 hq0 z.1]
        exact hv
      · exact t4 j hj
  · rw [mx_el_up, if_neg (fun z => h76 z.1.symm)]
    exact T.2.2.2 j hj
theorem mr_T_up (T : mr_T h) (hA : mr_isI a = true) (x : Int32) : mr_T (mx_up h a k (.int x)) := by
  unfold mr_isI at hA
  split at hA
  · cases hA
  · rename_i t hne ht
    refine mr_T_upv T ht ?_
    unfold mr_ok
    split
    · exact absurd rfl hne
    · exact ⟨x, rfl⟩
  · cases hA
theorem mr_T_upJ (T : mr_T h) (hA : mr_isJ a = true) (x : Int64) : mr_T (mx_up h a k (.long x)) := by
  unfold mr_isJ at hA
  have ht : mr_ty a = some .long := by simpa using hA
  exact mr_T_upv T ht ⟨x, rfl⟩
theorem mr_T_f (T : mr_T h) (hk : mr_isF k = true) (x : Int32) : mr_T (mx_up h 76 k (.int x)) := by
  have hk' : k ∈ mr_int := by
    unfold mr_isF at hk
    simpa using hk
  refine ⟨by rw [mx_tag_up]; exact T.1, by rw [mx_ln_up]; exact T.2.1, fun q hq => ?_, fun j hj => ?_⟩
  · obtain ⟨t1, t2, t3, t4⟩ := T.2.2.1 q hq
    refine ⟨?_, by rw [mx_tag_up]; exact t2, by rw [mx_ln_up]; exact t3, fun j hj => ?_⟩
    · rw [mx_el_up, if_neg (fun z => (mr_tab_76 q hq).2 (by rw [z.2.1]; exact hk'))]
      exact t1
    · rw [mx_el_up, if_neg (fun z => (mr_tab_76 q hq).1 z.1)]
      exact t4 j hj
  · rw [mx_el_up]
    split
    · exact ⟨x, rfl⟩
    · exact T.2.2.2 j hj
theorem mr_r0 (T : mr_T h) (_ : True) : mx_el h 76 0 = .ref 77 := (T.2.2.1 (0, 77, .int, 800) (by decide)).1
theorem mr_r2 (T : mr_T h) (_ : True) : mx_el h 76 2 = .ref 78 := (T.2.2.1 (2, 78, .char, 120) (by decide)).1
theorem mr_r5 (T : mr_T h) (_ : True) : mx_el h 76 5 = .ref 79 := (T.2.2.1 (5, 79, .int, 130) (by decide)).1
theorem mr_r6 (T : mr_T h) (_ : True) : mx_el h 76 6 = .ref 80 := (T.2.2.1 (6, 80, .int, 130) (by decide)).1
theorem mr_r7 (T : mr_T h) (_ : True) : mx_el h 76 7 = .ref 81 := (T.2.2.1 (7, 81, .int, 130) (by decide)).1
theorem mr_r8 (T : mr_T h) (_ : True) : mx_el h 76 8 = .ref 82 := (T.2.2.1 (8, 82, .long, 130) (by decide)).1
theorem mr_r9 (T : mr_T h) (_ : True) : mx_el h 76 9 = .ref 83 := (T.2.2.1 (9, 83, .char, 130) (by decide)).1
theorem mr_r11 (T : mr_T h) (_ : True) : mx_el h 76 11 = .ref 84 := (T.2.2.1 (11, 84, .int, 5) (by decide)).1
theorem mr_r13 (T : mr_T h) (_ : True) : mx_el h 76 13 = .ref 85 := (T.2.2.1 (13, 85, .int, 130) (by decide)).1
theorem mr_r14 (T : mr_T h) (_ : True) : mx_el h 76 14 = .ref 86 := (T.2.2.1 (14, 86, .int, 130) (by decide)).1
theorem mr_r15 (T : mr_T h) (_ : True) : mx_el h 76 15 = .ref 87 := (T.2.2.1 (15, 87, .int, 130) (by decide)).1
theorem mr_r16 (T : mr_T h) (_ : True) : mx_el h 76 16 = .ref 88 := (T.2.2.1 (16, 88, .int, 130) (by decide)).1
theorem mr_r17 (T : mr_T h) (_ : True) : mx_el h 76 17 = .ref 89 := (T.2.2.1 (17, 89, .long, 130) (by decide)).1
theorem mr_r20 (T : mr_T h) (_ : True) : mx_el h 76 20 = .ref 90 := (T.2.2.1 (20, 90, .int, 130) (by decide)).1
theorem mr_r24 (T : mr_T h) (_ : True) : mx_el h 76 24 = .ref 91 := (T.2.2.1 (24, 91, .boolean, 130) (by decide)).1
theorem mr_r25 (T : mr_T h) (_ : True) : mx_el h 76 25 = .ref 92 := (T.2.2.1 (25, 92, .boolean, 130) (by decide)).1
theorem mr_r27 (T : mr_T h) (_ : True) : mx_el h 76 27 = .ref 93 := (T.2.2.1 (27, 93, .int, 60) (by decide)).1
theorem mr_r28 (T : mr_T h) (_ : True) : mx_el h 76 28 = .ref 94 := (T.2.2.1 (28, 94, .int, 60) (by decide)).1
theorem mr_r29 (T : mr_T h) (_ : True) : mx_el h 76 29 = .ref 95 := (T.2.2.1 (29, 95, .int, 60) (by decide)).1
theorem mr_r30 (T : mr_T h) (_ : True) : mx_el h 76 30 = .ref 96 := (T.2.2.1 (30, 96, .int, 60) (by decide)).1
theorem mr_r31 (T : mr_T h) (_ : True) : mx_el h 76 31 = .ref 97 := (T.2.2.1 (31, 97, .int, 60) (by decide)).1
theorem mr_r32 (T : mr_T h) (_ : True) : mx_el h 76 32 = .ref 98 := (T.2.2.1 (32, 98, .boolean, 5) (by decide)).1
theorem mr_r33 (T : mr_T h) (_ : True) : mx_el h 76 33 = .ref 99 := (T.2.2.1 (33, 99, .boolean, 5) (by decide)).1
theorem mr_r35 (T : mr_T h) (_ : True) : mx_el h 76 35 = .ref 100 := (T.2.2.1 (35, 100, .int, 8) (by decide)).1
theorem mr_r36 (T : mr_T h) (_ : True) : mx_el h 76 36 = .ref 101 := (T.2.2.1 (36, 101, .int, 8) (by decide)).1
end
theorem mr_ty_77 : mr_ty 77 = some .int := by decide
theorem mr_n_77 : mr_n 77 = 800 := by decide
theorem mr_isI_77 : mr_isI 77 = true := by decide
theorem mr_ty_78 : mr_ty 78 = some .char := by decide
theorem mr_n_78 : mr_n 78 = 120 := by decide
theorem mr_isI_78 : mr_isI 78 = true := by decide
theorem mr_ty_79 : mr_ty 79 = some .int := by decide
theorem mr_n_79 : mr_n 79 = 130 := by decide
theorem mr_isI_79 : mr_isI 79 = true := by decide
theorem mr_ty_80 : mr_ty 80 = some .int := by decide
theorem mr_n_80 : mr_n 80 = 130 := by decide
theorem mr_isI_80 : mr_isI 80 = true := by decide
theorem mr_ty_81 : mr_ty 81 = some .int := by decide
theorem mr_n_81 : mr_n 81 = 130 := by decide
theorem mr_isI_81 : mr_isI 81 = true := by decide
theorem mr_ty_82 : mr_ty 82 = some .long := by decide
theorem mr_n_82 : mr_n 82 = 130 := by decide
theorem mr_isJ_82 : mr_isJ 82 = true := by decide
theorem mr_ty_83 : mr_ty 83 = some .char := by decide
theorem mr_n_83 : mr_n 83 = 130 := by decide
theorem mr_isI_83 : mr_isI 83 = true := by decide
theorem mr_ty_84 : mr_ty 84 = some .int := by decide
theorem mr_n_84 : mr_n 84 = 5 := by decide
theorem mr_isI_84 : mr_isI 84 = true := by decide
theorem mr_ty_85 : mr_ty 85 = some .int := by decide
theorem mr_n_85 : mr_n 85 = 130 := by decide
theorem mr_isI_85 : mr_isI 85 = true := by decide
theorem mr_ty_86 : mr_ty 86 = some .int := by decide
theorem mr_n_86 : mr_n 86 = 130 := by decide
theorem mr_isI_86 : mr_isI 86 = true := by decide
theorem mr_ty_87 : mr_ty 87 = some .int := by decide
theorem mr_n_87 : mr_n 87 = 130 := by decide
theorem mr_isI_87 : mr_isI 87 = true := by decide
theorem mr_ty_88 : mr_ty 88 = some .int := by decide
theorem mr_n_88 : mr_n 88 = 130 := by decide
theorem mr_isI_88 : mr_isI 88 = true := by decide
theorem mr_ty_89 : mr_ty 89 = some .long := by decide
theorem mr_n_89 : mr_n 89 = 130 := by decide
theorem mr_isJ_89 : mr_isJ 89 = true := by decide
theorem mr_ty_90 : mr_ty 90 = some .int := by decide
theorem mr_n_90 : mr_n 90 = 130 := by decide
theorem mr_isI_90 : mr_isI 90 = true := by decide
theorem mr_ty_91 : mr_ty 91 = some .boolean := by decide
theorem mr_n_91 : mr_n 91 = 130 := by decide
theorem mr_isI_91 : mr_isI 91 = true := by decide
theorem mr_ty_92 : mr_ty 92 = some .boolean := by decide
theorem mr_n_92 : mr_n 92 = 130 := by decide
theorem mr_isI_92 : mr_isI 92 = true := by decide
theorem mr_ty_93 : mr_ty 93 = some .int := by decide
theorem mr_n_93 : mr_n 93 = 60 := by decide
theorem mr_isI_93 : mr_isI 93 = true := by decide
theorem mr_ty_94 : mr_ty 94 = some .int := by decide
theorem mr_n_94 : mr_n 94 = 60 := by decide
theorem mr_isI_94 : mr_isI 94 = true := by decide
theorem mr_ty_95 : mr_ty 95 = some .int := by decide
theorem mr_n_95 : mr_n 95 = 60 := by decide
theorem mr_isI_95 : mr_isI 95 = true := by decide
theorem mr_ty_96 : mr_ty 96 = some .int := by decide
theorem mr_n_96 : mr_n 96 = 60 := by decide
theorem mr_isI_96 : mr_isI 96 = true := by decide
theorem mr_ty_97 : mr_ty 97 = some .int := by decide
theorem mr_n_97 : mr_n 97 = 60 := by decide
theorem mr_isI_97 : mr_isI 97 = true := by decide
theorem mr_ty_98 : mr_ty 98 = some .boolean := by decide
theorem mr_n_98 : mr_n 98 = 5 := by decide
theorem mr_isI_98 : mr_isI 98 = true := by decide
theorem mr_ty_99 : mr_ty 99 = some .boolean := by decide
theorem mr_n_99 : mr_n 99 = 5 := by decide
theorem mr_isI_99 : mr_isI 99 = true := by decide
theorem mr_ty_100 : mr_ty 100 = some .int := by decide
theorem mr_n_100 : mr_n 100 = 8 := by decide
theorem mr_isI_100 : mr_isI 100 = true := by decide
theorem mr_ty_101 : mr_ty 101 = some .int := by decide
theorem mr_n_101 : mr_n 101 = 8 := by decide
theorem mr_isI_101 : mr_isI 101 = true := by decide
theorem mr_isF_1 : mr_isF 1 = true := by decide
theorem mr_isF_3 : mr_isF 3 = true := by decide
theorem mr_isF_4 : mr_isF 4 = true := by decide
theorem mr_isF_10 : mr_isF 10 = true := by decide
theorem mr_isF_12 : mr_isF 12 = true := by decide
theorem mr_isF_18 : mr_isF 18 = true := by decide
theorem mr_isF_19 : mr_isF 19 = true := by decide
theorem mr_isF_21 : mr_isF 21 = true := by decide
theorem mr_isF_22 : mr_isF 22 = true := by decide
theorem mr_isF_23 : mr_isF 23 = true := by decide
theorem mr_isF_26 : mr_isF 26 = true := by decide
theorem mr_isF_34 : mr_isF 34 = true := by decide
theorem mr_isF_37 : mr_isF 37 = true := by decide
theorem mr_isF_38 : mr_isF 38 = true := by decide
theorem mr_isF_39 : mr_isF 39 = true := by decide
