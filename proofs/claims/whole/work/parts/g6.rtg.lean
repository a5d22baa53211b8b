/-! Operation.readTarget. -/
def PXo (ts : List tk) (o : Nat) (h : mx_H) (x cp c : Nat) (h' : mx_H) (x' cp' c' s : Nat) : Prop := Fr [64, 69, x, o] h h' ∧ (x' = x ∨ h.length ≤ x') ∧ c ≤ c' ∧ mw h' + 3 * cp + Wt ts c ≤ mw h + 3 * cp' + Wt ts c' + s
theorem PXo.rfl (ts : List tk) (o : Nat) (h : mx_H) (x cp c s : Nat) : PXo ts o h x cp c h x cp c s := ⟨Fr.rfl _ _, Or.inl (Eq.refl _), Nat.le_refl _, Nat.le_add_right _ _⟩
theorem PXo.pxd {ts : List tk} {o : Nat} {h h' h'' : mx_H} {x x' x'' cp cp' cp'' c c' c'' s s' : Nat} (a : PXo ts o h x cp c h' x' cp' c' s) (b : PXd ts h' x' cp' c' h'' x'' cp'' c'' s') : PXo ts o h x cp c h'' x'' cp'' c'' (s + s') := by
  obtain ⟨a1, a2, a3, a4⟩ := a
  obtain ⟨b1, b2, b3, b4⟩ := b
  have l := a1.1
  refine ⟨a1.trans b1 (fun q hq => ?_), ?_, by omega, by omega⟩
  · simp only [List.mem_cons, List.not_mem_nil, or_false] at hq ⊢
    rcases hq with z | z | z
    · exact Or.inl (Or.inl z)
    · exact Or.inl (Or.inr (Or.inl z))
    · rcases a2 with w | w
      · exact Or.inl (Or.inr (Or.inr (Or.inl (by rw [z, w]))))
      · exact Or.inr (by omega)
  · rcases b2 with z | z
    · rw [z]; exact a2
    · exact Or.inr (by omega)
theorem PXo.px {ts : List tk} {o : Nat} {h h' h'' : mx_H} {x x' x'' cp cp' cp'' c c' c'' s k : Nat} (a : PXo ts o h x cp c h' x' cp' c' s) (b : PX ts h' x' cp' c' h'' x'' cp'' c'' k) : PXo ts o h x cp c h'' x'' cp'' c'' (s - k) := by
  have := a.pxd (b.d 0)
  refine ⟨this.1, this.2.1, this.2.2.1, ?_⟩
  have a4 := a.2.2.2
  have b4 := b.2.2.2
  omega
theorem PXo.up {ts : List tk} {o : Nat} {h h' : mx_H} {x x' cp cp' c c' s : Nat} (a : PXo ts o h x cp c h' x' cp' c' s) (k : Nat) (v : Value) : PXo ts o h x cp c (mx_up h' o k v) x' cp' c' s :=
  ⟨a.1.trans (Fr.up (F := [64, 69, x, o]) (by simp)) (fun q hq => Or.inl hq), a.2.1, a.2.2.1, by rw [mw_up]; exact a.2.2.2⟩
theorem PXo.f64 {ts : List tk} {o : Nat} {h h' h'' : mx_H} {x x' cp cp' c c' c'' s : Nat} (a : PXo ts o h x cp c h' x' cp' c' s) (f : Fr [64] h' h'') (w : mw h'' = mw h') (hc : c' ≤ c'') : PXo ts o h x cp c h'' x' cp' c'' s :=
  ⟨a.1.trans f (fun q hq => Or.inl (by rw [List.mem_singleton] at hq; simp [hq])), a.2.1, Nat.le_trans a.2.2.1 hc, by have := a.2.2.2; have := Wt_mono (ts := ts) hc; omega⟩
theorem PXo.mono {ts : List tk} {o : Nat} {h h' : mx_H} {x x' cp cp' c c' s s' : Nat} (a : PXo ts o h x cp c h' x' cp' c' s) (hs : s ≤ s') : PXo ts o h x cp c h' x' cp' c' s' := ⟨a.1, a.2.1, a.2.2.1, by have := a.2.2.2; omega⟩
/-- what stands fast while an operation is read -/
theorem PXo.ex {ts : List tk} {o : Nat} {h h' : mx_H} {x x' cp cp' c c' s : Nat} {R : List Nat} (a : PXo ts o h x cp c h' x' cp' c' s) (r : RB R h) (ho : o ∈ R) : Ex (x :: R) h (x' :: R) h' := a.1.ex (fun q hq z => by
  simp only [List.mem_cons, List.not_mem_nil, or_false] at hq
  rcases hq with rfl | rfl | rfl | rfl
  · exact z.1 (by omega)
  · exact z.1 (by omega)
  · exact z.2 List.mem_cons_self
  · exact z.2 (List.mem_cons_of_mem _ ho)) (fun q hq => by
  rcases List.mem_cons.mp hq with rfl | z
  · exact a.2.1.elim (fun z => Or.inl (by rw [z]; exact List.mem_cons_self)) Or.inr
  · exact Or.inl (List.mem_cons_of_mem _ z))
theorem oc_f {h : mx_H} {o : Nat} {a b c e f : Value} (eo : h[o]? = some (.inl 9, [a, b, c, e, f])) : mx_tag h o = some (.inl 9) ∧ mx_ln h o = 5 ∧ mx_el h o 0 = a ∧ mx_el h o 1 = b ∧ mx_el h o 2 = c ∧ mx_el h o 3 = e ∧ mx_el h o 4 = f :=
  ⟨ce_t eo, by rw [ce_n eo]; rfl, by rw [ce_e eo]; rfl, by rw [ce_e eo]; rfl, by rw [ce_e eo]; rfl, by rw [ce_e eo]; rfl, by rw [ce_e eo]; rfl⟩
/-- from behind mail, or the closing bracket, on -/
def rTl (ts : List tk) (b : (Nat × cdP) × Nat) : Option ((Nat × cdP) × Nat) := if tI ts b.2 46 = false then some b else if tW ts (b.2 + 1) w_v = true then some ((b.1.1 + 1, b.1.2), b.2 + 2) else if tW ts (b.2 + 1) w_p = true then some ((b.1.1 + 2, b.1.2), b.2 + 2) else none
theorem OFv.way {M : List Nat} {h : mx_H} {way way' : Nat} {fv : Value} {g : prs → Option Nat → Bool} (F : OFv M h way fv g) (e : way < 9 ↔ way' < 9) : OFv M h way' fv g := by
  unfold OFv at *
  by_cases c : way < 9
  · rw [if_pos c] at F; rw [if_pos (e.mp c)]; exact F
  · rw [if_neg c] at F; rw [if_neg (fun z => c (e.mpr z))]; exact F
section
variable {d : Nat} {h : mx_H} {x cp c k : Nat} {ts : List tk} {R : List Nat}
theorem jr_sign {o : Nat} (hc : c < 128) {a b e f : Value} (eo : h[o]? = some (.inl 9, [.int (nI c), a, b, e, f])) : mx_G d 160 0 [some (.ref o)] [] h = some (some (.int (if c = 43 ∨ c = 45 ∨ c = 61 then 1 else 0)), h) := by
  obtain ⟨t, l, e0, -⟩ := oc_f eo
  have n1 : nI c = 43 ↔ c = 43 := nI_eq (b := 43) (by omega) (by decide)
  have n2 : nI c = 45 ↔ c = 45 := nI_eq (b := 45) (by omega) (by decide)
  have n3 : nI c = 61 ↔ c = 61 := nI_eq (b := 61) (by omega) (by decide)
  by_cases c1 : c = 43
  · rw [if_pos (Or.inl c1)]
    simp only [g160_0, g160_1, g160_4, g160_6, g160_27, g160_28, g160_31, g160_32, mx_isr_ref, mx_isr_null, mx_wt_nil, mx_wt_1, mx_wt_2, mx_wt_3, Option.bind_some, Option.toList_some, Option.toList_none, List.cons_append, List.nil_append, mx_nl_int, mx_nl_ref, mx_nl_null, mx_nl_none, mx_nb0, mx_nb1, mx_fb0, mx_fb1, mx_cat_int, mx_cat_ref, if_true, if_false, not_true_eq_false, not_false_eq_true, mx_wt_4, mx_w4_0, mx_w9_0, mx_w9_1, mx_kn_int, mx_kn_ref, mx_kn_null, Nat.reduceLT, ofn, n10, t, l, e0, n1.mpr c1]
  · by_cases c2 : c = 45
    · rw [if_pos (Or.inr (Or.inl c2))]
      have : ¬ nI c = 43 := fun z => c1 (n1.mp z)
      simp only [g160_0, g160_1, g160_4, g160_6, g160_9, g160_10, g160_13, g160_15, g160_27, g160_28, g160_31, g160_32, mx_isr_ref, mx_isr_null, mx_wt_nil, mx_wt_1, mx_wt_2, mx_wt_3, Option.bind_some, Option.toList_some, Option.toList_none, List.cons_append, List.nil_append, mx_nl_int, mx_nl_ref, mx_nl_null, mx_nl_none, mx_nb0, mx_nb1, mx_fb0, mx_fb1, mx_cat_int, mx_cat_ref, if_true, if_false, not_true_eq_false, not_false_eq_true, mx_wt_4, mx_w4_0, mx_w9_0, mx_w9_1, mx_kn_int, mx_kn_ref, mx_kn_null, Nat.reduceLT, ofn, n10, t, l, e0, this, n2.mpr c2, show ¬ (45 : Int32) = 43 by decide]
    · by_cases c3 : c = 61
      · rw [if_pos (Or.inr (Or.inr c3))]
        simp only [g160_0, g160_1, g160_4, g160_6, g160_9, g160_10, g160_13, g160_15, g160_18, g160_19, g160_22, g160_24, g160_27, g160_28, g160_31, g160_32, mx_isr_ref, mx_isr_null, mx_wt_nil, mx_wt_1, mx_wt_2, mx_wt_3, Option.bind_some, Option.toList_some, Option.toList_none, List.cons_append, List.nil_append, mx_nl_int, mx_nl_ref, mx_nl_null, mx_nl_none, mx_nb0, mx_nb1, mx_fb0, mx_fb1, mx_cat_int, mx_cat_ref, if_true, if_false, not_true_eq_false, not_false_eq_true, mx_wt_4, mx_w4_0, mx_w9_0, mx_w9_1, mx_kn_int, mx_kn_ref, mx_kn_null, Nat.reduceLT, ofn, n10, t, l, e0, n3.mpr c3, show ¬ (61 : Int32) = 43 by decide, show ¬ (61 : Int32) = 45 by decide, show ¬ ¬ (61 : Int32) = 61 by decide]
      · rw [if_neg (by omega)]
        have q1 : ¬ nI c = 43 := fun z => c1 (n1.mp z)
        have q2 : ¬ nI c = 45 := fun z => c2 (n2.mp z)
        have q3 : ¬ nI c = 61 := fun z => c3 (n3.mp z)
        simp only [g160_0, g160_1, g160_4, g160_6, g160_9, g160_10, g160_13, g160_15, g160_18, g160_19, g160_22, g160_24, g160_27, g160_28, g160_31, g160_32, mx_isr_ref, mx_isr_null, mx_wt_nil, mx_wt_1, mx_wt_2, mx_wt_3, Option.bind_some, Option.toList_some, Option.toList_none, List.cons_append, List.nil_append, mx_nl_int, mx_nl_ref, mx_nl_null, mx_nl_none, mx_nb0, mx_nb1, mx_fb0, mx_fb1, mx_cat_int, mx_cat_ref, if_true, if_false, not_true_eq_false, not_false_eq_true, mx_wt_4, mx_w4_0, mx_w9_0, mx_w9_1, mx_kn_int, mx_kn_ref, mx_kn_null, Nat.reduceLT, ofn, n10, t, l, e0, q1, q2, q3]
theorem jr_tail {o way : Nat} {g : cdP} {fv : Value} (T : BT h x cp ts k) (r : RB (o :: R) h) (K : KK h) (o102 : 102 ≤ o) (eo : h[o]? = some (.inl 9, [.int (nI c), .int 5, fv, .null, .null])) (hw : way = 6 ∨ way = 9) (F : OFv (x :: o :: R) h way fv g.2) :
    (∀ q, rTl ts ((way, g), k) = some q → ∃ (h' : mx_H) (x' cp' : Nat), mx_G (d + 28) 161 79 [some (.ref o), some (.ref 64)] [] h = some (some (.int 1), h') ∧ BT h' x' cp' ts q.2 ∧ h'[o]? = some (.inl 9, [.int (nI c), .int (atE q.1.1), fv, .null, .null]) ∧ OFv (x' :: o :: R) h' q.1.1 fv q.1.2.2 ∧ PXo ts o h x cp k h' x' cp' q.2 0 ∧ q.1.1 ≤ 11 ∧ q.1.1 ≠ 0) ∧
    (rTl ts ((way, g), k) = none → ∃ (h' : mx_H) (x' cp' k' : Nat), mx_G (d + 28) 161 79 [some (.ref o), some (.ref 64)] [] h = some (some (.int 0), h') ∧ BT h' x' cp' ts k' ∧ PXo ts o h x cp k h' x' cp' k' 0) := by
  obtain ⟨t9, l9, e0, e1, e2, e3, e4⟩ := oc_f eo
  have g64 := T.kind.1
  have ox : o ≠ x := T.ne eo (by simp)
  have hn : mt_nO ≤ o := by rw [show mt_nO = 63 by decide]; omega
  obtain ⟨h1, a1, T1, F1, W1⟩ := jt_take (d := d + 26) T (k := 46) (by decide) (by decide)
  rw [show nI 46 = 46 from rfl] at a1
  have eo1 := F1.at eo (by simp; omega)
  obtain ⟨t91, l91, e01, e11, e21, -⟩ := oc_f eo1
  have at5 : atE way = 5 := by rcases hw with rfl | rfl <;> rfl
  unfold rTl
  by_cases d46 : tI ts k 46 = true
  · rw [if_neg (by rw [d46]; decide)]
    rw [if_pos d46] at a1 T1
    have P1 : PXo ts o h x cp k h1 x cp (k + 1) 0 := (PXo.rfl ts o h x cp k 0).f64 F1 W1 (by omega)
    obtain ⟨h2, x2, cp2, s, b, b1, T2, S2, P2⟩ := jt_anyW (d := d + 18) T1
    have g641 := T1.kind.1
    have K2 : KK h2 := (K.fr F1 (by simp)).fr P2.1 (fun a ha => by simp at ha; have := T1.xlt; omega)
    have OI := ja_ofI (d := d + 25) K2.1 S2
    have eo2 := P2.1.at eo1 (by simp; omega)
    obtain ⟨t92, l92, -⟩ := oc_f eo2
    have P02 := (P1.px P2).up 1 (.int (aIi (opw ts (k + 1))))
    have eo3 : (mx_up h2 o 1 (.int (aIi (opw ts (k + 1)))))[o]? = some (.inl 9, [.int (nI c), .int (aIi (opw ts (k + 1))), fv, .null, .null]) := by rw [c_up eo2]; rfl
    have ox2 : o ≠ x2 := T2.ne eo2 (by simp)
    have T3 : BT (mx_up h2 o 1 (.int (aIi (opw ts (k + 1))))) x2 cp2 ts (cw ts (k + 1)) := T2.fr (Fr.up (F := [o]) (by simp)) (by simp; omega)
    obtain ⟨t93, l93, -, e13, -⟩ := oc_f eo3
    have F3 := F.ex (P02.ex r List.mem_cons_self)
    have go : ∀ z, ¬ aIi (opw ts (k + 1)) = -1 → z = 1 → mx_G (d + 28) 161 79 [some (.ref o), some (.ref 64)] [] h = some (some (.int z), mx_up h2 o 1 (.int (aIi (opw ts (k + 1))))) := by
      intro z hz ez
      subst ez
      simp only [g161_79, g161_80, g161_83, g161_84, g161_87, g161_88, g161_90, g161_93, g161_96, g161_97, g161_98, g161_101, g161_104, g161_107, g161_108, g161_111, g161_112, g161_115, g161_116, g161_120, mx_isr_ref, mx_isr_null, mx_wt_nil, mx_wt_1, mx_wt_2, mx_wt_3, Option.bind_some, Option.toList_some, Option.toList_none, List.cons_append, List.nil_append, mx_nl_int, mx_nl_ref, mx_nl_null, mx_nl_none, mx_nb0, mx_nb1, mx_fb0, mx_fb1, mx_cat_int, mx_cat_ref, if_true, if_false, not_true_eq_false, not_false_eq_true, mx_wt_4, mx_w4_0, mx_w9_0, mx_w9_1, mx_kn_int, mx_kn_ref, mx_kn_null, Nat.reduceLT, ofn, n10, t9, l9, e1, g64, a1, t91, l91, e11, g641, b1, OI, t92, hn, t93, l93, e13, hz, show ¬ ¬ (5 : Int32) = 5 by decide, show ¬ (1 : Int32) = 0 by decide]
    by_cases hv : tW ts (k + 1) w_v = true
    · have ek : (tA ts (k + 1)).1 = 1 := by unfold tW at hv; rw [eq_of_beq hv]
      have eo' : opw ts (k + 1) = w_v := (tW_opw (by decide)).mp hv
      have ea : aIi (opw ts (k + 1)) = 6 := by rw [eo']; decide
      rw [show cw ts (k + 1) = k + 2 by unfold cw; rw [if_pos ek]] at T3 P02
      rw [if_pos hv]
      refine ⟨fun q hq => ?_, fun z => (by cases z)⟩
      cases hq
      refine ⟨_, x2, cp2, go 1 (by rw [ea]; decide) rfl, T3, ?_, F3.way (show way < 9 ↔ way + 1 < 9 by omega), P02.mono (by omega), by show way + 1 ≤ 11; omega, by show way + 1 ≠ 0; omega⟩
      rw [eo3, ea, show (6 : Int32) = atE (way + 1) by rcases hw with rfl | rfl <;> decide]
    · rw [if_neg hv]
      by_cases hp : tW ts (k + 1) w_p = true
      · have ek : (tA ts (k + 1)).1 = 1 := by unfold tW at hp; rw [eq_of_beq hp]
        have eo' : opw ts (k + 1) = w_p := (tW_opw (by decide)).mp hp
        have ea : aIi (opw ts (k + 1)) = 7 := by rw [eo']; decide
        rw [show cw ts (k + 1) = k + 2 by unfold cw; rw [if_pos ek]] at T3 P02
        rw [if_pos hp]
        refine ⟨fun q hq => ?_, fun z => (by cases z)⟩
        cases hq
        refine ⟨_, x2, cp2, go 1 (by rw [ea]; decide) rfl, T3, ?_, F3.way (show way < 9 ↔ way + 2 < 9 by omega), P02.mono (by omega), by show way + 2 ≤ 11; omega, by show way + 2 ≠ 0; omega⟩
        rw [eo3, ea, show (7 : Int32) = atE (way + 2) by rcases hw with rfl | rfl <;> decide]
      · rw [if_neg hp]
        have ea : aIi (opw ts (k + 1)) = -1 := by
          unfold aIi
          rw [if_neg (fun z => hv ((tW_opw (by decide)).mpr z)), if_neg (fun z => hp ((tW_opw (by decide)).mpr z))]
        refine ⟨fun q hq => (by cases hq), fun _ => ⟨_, x2, cp2, _, ?_, T3, P02.mono (by omega)⟩⟩
        rw [ea] at OI e13 t93 l93 ⊢
        simp only [g161_79, g161_80, g161_83, g161_84, g161_87, g161_88, g161_90, g161_93, g161_96, g161_97, g161_98, g161_101, g161_104, g161_107, g161_108, g161_111, g161_112, g161_119, g161_120, mx_isr_ref, mx_isr_null, mx_wt_nil, mx_wt_1, mx_wt_2, mx_wt_3, Option.bind_some, Option.toList_some, Option.toList_none, List.cons_append, List.nil_append, mx_nl_int, mx_nl_ref, mx_nl_null, mx_nl_none, mx_nb0, mx_nb1, mx_fb0, mx_fb1, mx_cat_int, mx_cat_ref, if_true, if_false, not_true_eq_false, not_false_eq_true, mx_wt_4, mx_w4_0, mx_w9_0, mx_w9_1, mx_kn_int, mx_kn_ref, mx_kn_null, Nat.reduceLT, ofn, n10, t9, l9, e1, g64, a1, t91, l91, e11, g641, b1, OI, t92, hn, t93, l93, e13, show ¬ ¬ (5 : Int32) = 5 by decide, show ¬ (1 : Int32) = 0 by decide]
  · rw [if_pos (by simpa using d46)]
    rw [if_neg d46] at a1 T1
    refine ⟨fun q hq => ?_, fun z => (by cases z)⟩
    cases hq
    have P1 : PXo ts o h x cp k h1 x cp k 0 := (PXo.rfl ts o h x cp k 0).f64 F1 W1 (by omega)
    refine ⟨h1, x, cp, ?_, T1, by rw [eo1, at5], F.ex (P1.ex r List.mem_cons_self), P1, by show way ≤ 11; omega, by show way ≠ 0; omega⟩
    simp only [g161_79, g161_80, g161_83, g161_84, g161_87, g161_88, g161_90, g161_93, g161_107, g161_108, g161_111, g161_112, g161_115, g161_116, g161_120, mx_isr_ref, mx_isr_null, mx_wt_nil, mx_wt_1, mx_wt_2, mx_wt_3, Option.bind_some, Option.toList_some, Option.toList_none, List.cons_append, List.nil_append, mx_nl_int, mx_nl_ref, mx_nl_null, mx_nl_none, mx_nb0, mx_nb1, mx_fb0, mx_fb1, mx_cat_int, mx_cat_ref, if_true, if_false, not_true_eq_false, not_false_eq_true, mx_wt_4, mx_w4_0, mx_w9_0, mx_w9_1, mx_kn_int, mx_kn_ref, mx_kn_null, Nat.reduceLT, ofn, n10, t9, l9, e1, g64, a1, t91, l91, e11, show ¬ ¬ (5 : Int32) = 5 by decide, show ¬ (5 : Int32) = -1 by decide]
end
