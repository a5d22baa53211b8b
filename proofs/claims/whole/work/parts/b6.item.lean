/-! Values that may be missing; items read from values. -/
theorem Ex.sub {M M' : List Nat} (h : mx_H) (hs : ∀ a ∈ M', a ∈ M) : Ex M h M' h := ⟨Nat.le_refl _, fun _ _ z => ⟨Eq.refl _, fz_sub z hs⟩⟩
def OV (M : List Nat) (h : mx_H) (a : Value) : Option (Nat × Int × List Nat) → Prop
  | none => a = .null
  | some q => ∃ w : Nat, a = .ref w ∧ VP M h w q ∧ nb q.2.1
theorem OV.ex {M M' : List Nat} {h h' : mx_H} {a : Value} {o : Option (Nat × Int × List Nat)} (V : OV M h a o) (x : Ex M h M' h') : OV M' h' a o := by
  cases o with
  | none => exact V
  | some q =>
    obtain ⟨w, e, V, n⟩ := V
    exact ⟨w, e, V.ex x, n⟩
theorem OV.isr {M : List Nat} {h : mx_H} {a : Value} {o : Option (Nat × Int × List Nat)} (V : OV M h a o) : mx_isr a = true := by
  cases o with
  | none => rw [show a = .null from V]; rfl
  | some q => obtain ⟨w, e, -⟩ := V; rw [e]; rfl
def osm : Option (Nat × Int × List Nat) → Option (Nat × Int × List Nat) → Bool
  | none, none => true
  | some q, some q' => decide (q.2 = q'.2)
  | _, _ => false
theorem srC_0 (x y : List Nat × Int) : srC x y = 0 ↔ x = y := by
  unfold srC cmpI
  constructor
  · intro h
    split at h
    · rename_i h1; exact absurd h h1
    · rename_i h1
      have e1 := cmpL_0 x.1 y.1 (by omega)
      have e2 : x.2 = y.2 := by
        split at h
        · cases h
        · split at h
          · cases h
          · omega
      exact Prod.ext e1 e2
  · intro h
    rw [h, if_neg (by rw [cmpL_self]; simp), if_neg (by omega), if_neg (by omega)]
section
variable {d : Nat} {h : mx_H} {M : List Nat}
theorem jv_same {a a' : Value} {o o' : Option (Nat × Int × List Nat)} (V : OV M h a o) (V' : OV M h a' o') : mx_G (d + 5) 144 0 [some a, some a'] [] h = some (some (.int (if osm o o' = true then 1 else 0)), h) := by
  cases o with
  | none =>
    rw [show a = .null from V]
    cases o' with
    | none =>
      rw [show a' = .null from V']
      simp only [g144_0, g144_1, g144_1n, g144_4, g144_5, g144_5n, g144_8, g144_9, g144_9n, g144_12, g144_13, g144_13n, g144_16, g144_17, g144_20, g144_21, g144_22, g144_23, g144_24, g144_27, g144_30, g144_31, g144_34, g144_35, mx_isr_ref, mx_isr_null, mx_wt_nil, mx_wt_1, mx_wt_2, mx_wt_3, Option.bind_some, Option.toList_some, Option.toList_none, List.cons_append, List.nil_append, mx_nl_int, mx_nl_ref, mx_nl_null, mx_nl_none, mx_nb0, mx_nb1, mx_fb0, mx_fb1, mx_cat_int, mx_cat_ref, if_true, if_false, not_true_eq_false, not_false_eq_true, mx_wt_4, mx_w4_0, mx_w9_0, mx_w9_1, mx_kn_int, mx_kn_ref, mx_kn_null, Nat.reduceLT, ofn, n10, osm]
    | some q' =>
      obtain ⟨w', rfl, V', n'⟩ := V'
      simp only [g144_0, g144_1, g144_1n, g144_4, g144_5, g144_5n, g144_8, g144_9, g144_9n, g144_12, g144_13, g144_13n, g144_16, g144_17, g144_20, g144_21, g144_22, g144_23, g144_24, g144_27, g144_30, g144_31, g144_34, g144_35, mx_isr_ref, mx_isr_null, mx_wt_nil, mx_wt_1, mx_wt_2, mx_wt_3, Option.bind_some, Option.toList_some, Option.toList_none, List.cons_append, List.nil_append, mx_nl_int, mx_nl_ref, mx_nl_null, mx_nl_none, mx_nb0, mx_nb1, mx_fb0, mx_fb1, mx_cat_int, mx_cat_ref, if_true, if_false, not_true_eq_false, not_false_eq_true, mx_wt_4, mx_w4_0, mx_w9_0, mx_w9_1, mx_kn_int, mx_kn_ref, mx_kn_null, Nat.reduceLT, ofn, n10, osm, Bool.false_eq_true]
  | some q =>
    obtain ⟨w, rfl, V, n⟩ := V
    cases o' with
    | none =>
      rw [show a' = .null from V']
      simp only [g144_0, g144_1, g144_1n, g144_4, g144_5, g144_5n, g144_8, g144_9, g144_9n, g144_12, g144_13, g144_13n, g144_16, g144_17, g144_20, g144_21, g144_22, g144_23, g144_24, g144_27, g144_30, g144_31, g144_34, g144_35, mx_isr_ref, mx_isr_null, mx_wt_nil, mx_wt_1, mx_wt_2, mx_wt_3, Option.bind_some, Option.toList_some, Option.toList_none, List.cons_append, List.nil_append, mx_nl_int, mx_nl_ref, mx_nl_null, mx_nl_none, mx_nb0, mx_nb1, mx_fb0, mx_fb1, mx_cat_int, mx_cat_ref, if_true, if_false, not_true_eq_false, not_false_eq_true, mx_wt_4, mx_w4_0, mx_w9_0, mx_w9_1, mx_kn_int, mx_kn_ref, mx_kn_null, Nat.reduceLT, ofn, n10, osm, Bool.false_eq_true]
    | some q' =>
      obtain ⟨w', rfl, V', n'⟩ := V'
      obtain ⟨r, g, s1, -, -⟩ := ja_cmp (d := d) n n' V.vc V'.vc
      have t : mx_tag h w = some (.inl 4) := by obtain ⟨s, e, -⟩ := V; exact ce_t e
      rw [srC_0] at s1
      by_cases c : q.2 = q'.2
      · have r0 : r = 0 := s1.mpr (by rw [c])
        simp only [g144_0, g144_1, g144_1n, g144_4, g144_5, g144_5n, g144_8, g144_9, g144_9n, g144_12, g144_13, g144_13n, g144_16, g144_17, g144_20, g144_21, g144_22, g144_23, g144_24, g144_27, g144_30, g144_31, g144_34, g144_35, mx_isr_ref, mx_isr_null, mx_wt_nil, mx_wt_1, mx_wt_2, mx_wt_3, Option.bind_some, Option.toList_some, Option.toList_none, List.cons_append, List.nil_append, mx_nl_int, mx_nl_ref, mx_nl_null, mx_nl_none, mx_nb0, mx_nb1, mx_fb0, mx_fb1, mx_cat_int, mx_cat_ref, if_true, if_false, not_true_eq_false, not_false_eq_true, mx_wt_4, mx_w4_0, mx_w9_0, mx_w9_1, mx_kn_int, mx_kn_ref, mx_kn_null, Nat.reduceLT, ofn, n10, t, g, r0, osm, c, decide_true]
      · have r0 : ¬ r = 0 := fun z => c (by
          have := s1.mp z
          have e1 := congrArg Prod.fst this
          have e2 := congrArg Prod.snd this
          exact Prod.ext e2 e1)
        simp only [g144_0, g144_1, g144_1n, g144_4, g144_5, g144_5n, g144_8, g144_9, g144_9n, g144_12, g144_13, g144_13n, g144_16, g144_17, g144_20, g144_21, g144_22, g144_23, g144_24, g144_27, g144_30, g144_31, g144_34, g144_35, mx_isr_ref, mx_isr_null, mx_wt_nil, mx_wt_1, mx_wt_2, mx_wt_3, Option.bind_some, Option.toList_some, Option.toList_none, List.cons_append, List.nil_append, mx_nl_int, mx_nl_ref, mx_nl_null, mx_nl_none, mx_nb0, mx_nb1, mx_fb0, mx_fb1, mx_cat_int, mx_cat_ref, if_true, if_false, not_true_eq_false, not_false_eq_true, mx_wt_4, mx_w4_0, mx_w9_0, mx_w9_1, mx_kn_int, mx_kn_ref, mx_kn_null, Nat.reduceLT, ofn, n10, t, g, r0, osm, c, decide_false, Bool.false_eq_true]
/-- a truth as a value -/
def vB (b : Option Bool) : Option (Nat × Int × List Nat) := b.map fun b => (0, if b = true then 1 else 0, [])
def vT (v : Option (List Nat)) : Option (Nat × Int × List Nat) := v.map fun cs => (2, 0, cs)
/-- an item's cell -/
def IC (M : List Nat) (h : mx_H) (e : Nat) (v : Option (List Nat)) (p : Option Bool) (c g : Int32) : Prop := ∃ a1 a2, h[e]? = some (.inl 8, [a1, a2, .int c, .int g]) ∧ OV M h a1 (vT v) ∧ OV M h a2 (vB p)
theorem IC_f {e : Nat} {v : Option (List Nat)} {p : Option Bool} {c g : Int32} (I : IC M h e v p c g) : ∃ a1 a2, mx_tag h e = some (.inl 8) ∧ mx_ln h e = 4 ∧ mx_el h e 0 = a1 ∧ mx_el h e 1 = a2 ∧ mx_el h e 2 = .int c ∧ mx_el h e 3 = .int g ∧ OV M h a1 (vT v) ∧ OV M h a2 (vB p) := by
  obtain ⟨a1, a2, e1, e2, e3⟩ := I
  exact ⟨a1, a2, ce_t e1, by rw [ce_n e1]; rfl, by rw [ce_e e1]; rfl, by rw [ce_e e1]; rfl, by rw [ce_e e1]; rfl, by rw [ce_e e1]; rfl, e2, e3⟩
theorem IC.ex {M' : List Nat} {h' : mx_H} {e : Nat} {v : Option (List Nat)} {p : Option Bool} {c g : Int32} (I : IC M h e v p c g) (x : Ex M h M' h') (he : h'[e]? = h[e]?) : IC M' h' e v p c g := by
  obtain ⟨a1, a2, e1, e2, e3⟩ := I
  exact ⟨a1, a2, by rw [he]; exact e1, e2.ex x, e3.ex x⟩
theorem ji_prim {e : Nat} {v : Option (List Nat)} {p : Option Bool} {c g : Int32} (I : IC M h e v p c g) : mx_G d 142 0 [some (.ref e)] [] h = some (some (.int (if tr1 p = true then 1 else 0)), h) := by
  obtain ⟨a1, a2, t, l, x0, x1, x2, x3, o1, o2⟩ := IC_f I
  cases p with
  | none =>
    rw [show a2 = .null from o2] at x1
    simp only [g142_0, g142_1, g142_4, g142_4n, g142_7, g142_8, g142_11, g142_14, g142_15, g142_18, g142_19, g142_22, g142_23, mx_isr_ref, mx_isr_null, mx_wt_nil, mx_wt_1, mx_wt_2, mx_wt_3, Option.bind_some, Option.toList_some, Option.toList_none, List.cons_append, List.nil_append, mx_nl_int, mx_nl_ref, mx_nl_null, mx_nl_none, mx_nb0, mx_nb1, mx_fb0, mx_fb1, mx_cat_int, mx_cat_ref, if_true, if_false, not_true_eq_false, not_false_eq_true, mx_wt_4, mx_w4_0, mx_w9_0, mx_w9_1, mx_kn_int, mx_kn_ref, mx_kn_null, Nat.reduceLT, ofn, n10, t, l, x1, tr1]
    rfl
  | some b =>
    obtain ⟨w, rfl, V, n⟩ := o2
    obtain ⟨s, b', f, t', l', e0, e1, -⟩ := VC_f V.vc
    cases b with
    | true => simp only [g142_0, g142_1, g142_4, g142_4n, g142_7, g142_8, g142_11, g142_14, g142_15, g142_18, g142_19, g142_22, g142_23, mx_isr_ref, mx_isr_null, mx_wt_nil, mx_wt_1, mx_wt_2, mx_wt_3, Option.bind_some, Option.toList_some, Option.toList_none, List.cons_append, List.nil_append, mx_nl_int, mx_nl_ref, mx_nl_null, mx_nl_none, mx_nb0, mx_nb1, mx_fb0, mx_fb1, mx_cat_int, mx_cat_ref, if_true, if_false, not_true_eq_false, not_false_eq_true, mx_wt_4, mx_w4_0, mx_w9_0, mx_w9_1, mx_kn_int, mx_kn_ref, mx_kn_null, Nat.reduceLT, ofn, n10, t, l, x1, t', l', e1, tr1]; rfl
    | false => simp only [g142_0, g142_1, g142_4, g142_4n, g142_7, g142_8, g142_11, g142_14, g142_15, g142_18, g142_19, g142_22, g142_23, mx_isr_ref, mx_isr_null, mx_wt_nil, mx_wt_1, mx_wt_2, mx_wt_3, Option.bind_some, Option.toList_some, Option.toList_none, List.cons_append, List.nil_append, mx_nl_int, mx_nl_ref, mx_nl_null, mx_nl_none, mx_nb0, mx_nb1, mx_fb0, mx_fb1, mx_cat_int, mx_cat_ref, if_true, if_false, not_true_eq_false, not_false_eq_true, mx_wt_4, mx_w4_0, mx_w9_0, mx_w9_1, mx_kn_int, mx_kn_ref, mx_kn_null, Nat.reduceLT, ofn, n10, t, l, x1, t', l', e1, tr1]; rfl
/-- what a value that was read can be -/
theorem cVl_c {ts : List tk} {n v t : Nat} (c : cVl ts n M h v t) : (tI ts t 123 = true ∧ ∃ n', n = n' + 1 ∧ ∃ f s, h[v]? = some (.inl 4, [.int 3, .int 0, .ref s, f]) ∧ fz M v ∧ Str M h s [] ∧ pG (cVl ts n' M h) ts true M h f (kd ts t) .null) ∨
    (tI ts t 123 = false ∧ tI ts t 91 = true ∧ ∃ n', n = n' + 1 ∧ ∃ f s, h[v]? = some (.inl 4, [.int 4, .int 0, .ref s, f]) ∧ fz M v ∧ Str M h s [] ∧ pG (cVl ts n' M h) ts false M h f (kd ts t) .null) ∨
    (0 < sc ts t ∧ tI ts t 123 = false ∧ tI ts t 91 = false ∧ VP M h v (pk ts t)) := by
  cases n with
  | zero =>
    refine Or.inr (Or.inr ⟨c.1, ?_, ?_, c.2⟩)
    · exact sc_tI c.1 (by decide)
    · exact sc_tI c.1 (by decide)
  | succ n =>
    rw [cVl] at c
    split at c
    · rename_i h1
      exact Or.inl ⟨h1, n, rfl, c⟩
    · rename_i h1
      split at c
      · rename_i h2
        exact Or.inr (Or.inl ⟨by simpa using h1, h2, n, rfl, c⟩)
      · rename_i h2
        exact Or.inr (Or.inr ⟨c.1, by simpa using h1, by simpa using h2, c.2⟩)
/-- its cell, kind and text -/
def vkd (ts : List tk) (t : Nat) : Nat := if tI ts t 123 = true then 3 else if tI ts t 91 = true then 4 else (pk ts t).1
def vtx (ts : List tk) (t : Nat) : List Nat := if tI ts t 123 = true then [] else if tI ts t 91 = true then [] else (pk ts t).2.2
theorem cVl_vc {ts : List tk} {n v t : Nat} (c : cVl ts n M h v t) : ∃ num, VC M h v (vkd ts t) num (vtx ts t) ∧ vkd ts t < 5 := by
  have hk : (pk ts t).1 < 5 := by
    unfold pk
    split
    · show 1 < 5; decide
    · split
      · show 2 < 5; decide
      · show 0 < 5; decide
  rcases cVl_c c with ⟨h1, n', -, f, s, a1, a2, a3, a4⟩ | ⟨h0, h1, n', -, f, s, a1, a2, a3, a4⟩ | ⟨h0, h1, h2, h3⟩
  · refine ⟨0, ⟨s, f, ?_, a2, ?_, pG_isr a4 rfl⟩, ?_⟩
    · unfold vkd; rw [if_pos h1]; exact a1
    · unfold vtx; rw [if_pos h1]; exact a3
    · unfold vkd; rw [if_pos h1]; decide
  · have h0' : ¬ tI ts t 123 = true := by rw [h0]; decide
    refine ⟨0, ⟨s, f, ?_, a2, ?_, pG_isr a4 rfl⟩, ?_⟩
    · unfold vkd; rw [if_neg h0', if_pos h1]; exact a1
    · unfold vtx; rw [if_neg h0', if_pos h1]; exact a3
    · unfold vkd; rw [if_neg h0', if_pos h1]; decide
  · have e1 : vkd ts t = (pk ts t).1 := by unfold vkd; rw [h1, h2]; rfl
    have e2 : vtx ts t = (pk ts t).2.2 := by unfold vtx; rw [h1, h2]; rfl
    rw [e1, e2]
    exact ⟨_, h3.vc, hk⟩
/-- fits, of a value that was read -/
theorem vk_2 {ts : List tk} {n v t : Nat} (c : cVl ts n M h v t) : (vkd ts t = 2 ∧ (vkd ts t = 2 → 1 ≤ (vtx ts t).length ∧ (vtx ts t).length ≤ 12)) ↔ ftx ts t = true := by
  unfold ftx
  rw [decide_eq_true_eq]
  rcases cVl_c c with ⟨h1, -⟩ | ⟨h0, h1, -⟩ | ⟨h0, h1, h2, h3⟩
  · have : sc ts t = 0 := by
      cases hz : sc ts t with
      | zero => rfl
      | succ k => have := sc_tI (ts := ts) (t := t) (c := 123) (by omega) (by decide); rw [h1] at this; cases this
    unfold vkd
    rw [if_pos h1, this]
    simp
  · have : sc ts t = 0 := by
      cases hz : sc ts t with
      | zero => rfl
      | succ k => have := sc_tI (ts := ts) (t := t) (c := 91) (by omega) (by decide); rw [h1] at this; cases this
    unfold vkd
    rw [h0, h1, this]
    simp
  · have e1 : vkd ts t = (pk ts t).1 := by unfold vkd; rw [h1, h2]; rfl
    have e2 : vtx ts t = (pk ts t).2.2 := by unfold vtx; rw [h1, h2]; rfl
    rw [e1, e2]
    unfold pk
    by_cases c1 : sc ts t = 1
    · rw [if_pos c1, c1]; simp
    · rw [if_neg c1]
      by_cases c2 : sc ts t = 2
      · rw [if_pos c2, c2]; simp
      · rw [if_neg c2]; simp [c2]
theorem vk_0 {ts : List tk} {n v t : Nat} (c : cVl ts n M h v t) : (vkd ts t = 0 ∧ (vkd ts t = 2 → 1 ≤ (vtx ts t).length ∧ (vtx ts t).length ≤ 12)) ↔ sc ts t = 3 := by
  have hs3 : sc ts t ≤ 3 := by unfold sc; split; decide; split; decide; split <;> decide
  rcases cVl_c c with ⟨h1, -⟩ | ⟨h0, h1, -⟩ | ⟨h0, h1, h2, h3⟩
  · have : sc ts t = 0 := by
      cases hz : sc ts t with
      | zero => rfl
      | succ k => have := sc_tI (ts := ts) (t := t) (c := 123) (by omega) (by decide); rw [h1] at this; cases this
    unfold vkd
    rw [if_pos h1, this]
    simp
  · have : sc ts t = 0 := by
      cases hz : sc ts t with
      | zero => rfl
      | succ k => have := sc_tI (ts := ts) (t := t) (c := 91) (by omega) (by decide); rw [h1] at this; cases this
    unfold vkd
    rw [h0, h1, this]
    simp
  · have e1 : vkd ts t = (pk ts t).1 := by unfold vkd; rw [h1, h2]; rfl
    rw [e1]
    unfold pk
    by_cases c1 : sc ts t = 1
    · rw [if_pos c1, c1]; simp
    · rw [if_neg c1]
      by_cases c2 : sc ts t = 2
      · rw [if_pos c2, c2]; simp
      · rw [if_neg c2]
        simp
        omega
theorem vk_1 {ts : List tk} {n v t : Nat} (c : cVl ts n M h v t) : (vkd ts t = 1 ∧ (vkd ts t = 2 → 1 ≤ (vtx ts t).length ∧ (vtx ts t).length ≤ 12)) ↔ sc ts t = 1 := by
  rcases cVl_c c with ⟨h1, -⟩ | ⟨h0, h1, -⟩ | ⟨h0, h1, h2, h3⟩
  · have : sc ts t = 0 := by
      cases hz : sc ts t with
      | zero => rfl
      | succ k => have := sc_tI (ts := ts) (t := t) (c := 123) (by omega) (by decide); rw [h1] at this; cases this
    unfold vkd
    rw [if_pos h1, this]
    simp
  · have : sc ts t = 0 := by
      cases hz : sc ts t with
      | zero => rfl
      | succ k => have := sc_tI (ts := ts) (t := t) (c := 91) (by omega) (by decide); rw [h1] at this; cases this
    unfold vkd
    rw [h0, h1, this]
    simp
  · have e1 : vkd ts t = (pk ts t).1 := by unfold vkd; rw [h1, h2]; rfl
    rw [e1]
    unfold pk
    by_cases c1 : sc ts t = 1
    · rw [if_pos c1, c1]; simp
    · rw [if_neg c1]
      by_cases c2 : sc ts t = 2
      · rw [if_pos c2, c2]; simp
      · rw [if_neg c2]; simp [c1]
theorem cVl_ov {ts : List tk} {n v t : Nat} (c : cVl ts n M h v t) (hnum : sc ts t = 1 → nb (tv ts t)) (hs : 0 < sc ts t) : OV M h (.ref v) (some (pk ts t)) := by
  rcases cVl_c c with ⟨h1, -⟩ | ⟨h0, h1, -⟩ | ⟨h0, h1, h2, h3⟩
  · have := sc_tI (ts := ts) (t := t) (c := 123) hs (by decide); rw [h1] at this; cases this
  · have := sc_tI (ts := ts) (t := t) (c := 91) hs (by decide); rw [h1] at this; cases this
  · refine ⟨v, rfl, h3, ?_⟩
    unfold pk
    by_cases c1 : sc ts t = 1
    · rw [if_pos c1]; exact hnum c1
    · rw [if_neg c1]
      by_cases c2 : sc ts t = 2
      · rw [if_pos c2]; show nb 0; exact ⟨by decide, by decide⟩
      · rw [if_neg c2]
        show nb (if tb ts t = true then 1 else 0)
        split <;> exact ⟨by decide, by decide⟩
end
