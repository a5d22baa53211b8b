/-! People of the class. -/
def nmO (x : List Nat) : Option (Nat × Int × List Nat) := if x = [] then none else some (2, 0, x)
def agO (x : Option Int) : Option (Nat × Int × List Nat) := x.map fun v => (1, v, [])
/-- the person's object, its list at l -/
def PC (M : List Nat) (h : mx_H) (p l : Nat) (q : prs) : Prop := ∃ (i v : Nat) (n f a o : Value), h[p]? = some (.inl 7, [.ref i, .ref v, n, f, a, o, .ref l]) ∧ VP M h i (1, (q.1 : Int), []) ∧ VP M h v (1, (q.2.1 : Int), []) ∧ OV M h n (nmO (pnm q)) ∧ OV M h f (nmO ((pnm q).map sml)) ∧ OV M h a (agO (pag q)) ∧ OV M h o (vB (pon q))
/-- a list of items that stands fast -/
def FL (M : List Nat) (h : mx_H) (l : Nat) (r : List itm) : Prop := ∃ (A cp : Nat) (es : List Nat), AL h l A cp es ∧ ITs M h es r ∧ fz M l ∧ fz M A ∧ ∀ e ∈ es, fz M e
def PP (M : List Nat) (h : mx_H) (p : Nat) (q : prs) : Prop := ∃ l, PC M h p l q ∧ FL M h l (pit q)
theorem AL_cells {h h' : mx_H} {a A cp : Nat} {es : List Nat} (L : AL h a A cp es) (h1 : h'[a]? = h[a]?) (h2 : h'[A]? = h[A]?) : AL h' a A cp es := by
  obtain ⟨⟨mc, e1⟩, e2, r⟩ := L
  exact ⟨⟨mc, by rw [h1]; exact e1⟩, by rw [h2]; exact e2, r⟩
theorem FL.ex {M M' : List Nat} {h h' : mx_H} {l : Nat} {r : List itm} (L : FL M h l r) (x : Ex M h M' h') : FL M' h' l r := by
  obtain ⟨A, cp, es, L, I, f1, f2, f3⟩ := L
  obtain ⟨⟨mc, e1⟩, e2, -⟩ := id L
  refine ⟨A, cp, es, AL_cells L (x.2 l (ce_l e1) f1).1 (x.2 A (ce_l e2) f2).1, I.ex x (fun e he => (x.2 e (elt_lt (I.elt e he)) (f3 e he)).1), (x.2 l (ce_l e1) f1).2, (x.2 A (ce_l e2) f2).2, fun e he => (x.2 e (elt_lt (I.elt e he)) (f3 e he)).2⟩
theorem PC.ex {M M' : List Nat} {h h' : mx_H} {p l : Nat} {q : prs} (C : PC M h p l q) (x : Ex M h M' h') (hp : h'[p]? = h[p]?) : PC M' h' p l q := by
  obtain ⟨i, v, n, f, a, o, e1, e2, e3, e4, e5, e6, e7⟩ := C
  exact ⟨i, v, n, f, a, o, by rw [hp]; exact e1, e2.ex x, e3.ex x, e4.ex x, e5.ex x, e6.ex x, e7.ex x⟩
theorem PP.ex {M M' : List Nat} {h h' : mx_H} {p : Nat} {q : prs} (C : PP M h p q) (x : Ex M h M' h') (hp : h'[p]? = h[p]?) : PP M' h' p q := by
  obtain ⟨l, C, L⟩ := C
  exact ⟨l, C.ex x hp, L.ex x⟩
theorem PC_f {M : List Nat} {h : mx_H} {p l : Nat} {q : prs} (C : PC M h p l q) : mx_tag h p = some (.inl 7) ∧ mx_ln h p = 7 ∧ mx_el h p 6 = .ref l ∧ ∃ (i v : Nat) (n f a o : Value), mx_el h p 0 = .ref i ∧ mx_el h p 1 = .ref v ∧ mx_el h p 2 = n ∧ mx_el h p 3 = f ∧ mx_el h p 4 = a ∧ mx_el h p 5 = o ∧ VP M h i (1, (q.1 : Int), []) ∧ VP M h v (1, (q.2.1 : Int), []) ∧ OV M h n (nmO (pnm q)) ∧ OV M h f (nmO ((pnm q).map sml)) ∧ OV M h a (agO (pag q)) ∧ OV M h o (vB (pon q)) := by
  obtain ⟨i, v, n, f, a, o, e1, r⟩ := C
  exact ⟨ce_t e1, by rw [ce_n e1]; rfl, by rw [ce_e e1]; rfl, i, v, n, f, a, o, by rw [ce_e e1]; rfl, by rw [ce_e e1]; rfl, by rw [ce_e e1]; rfl, by rw [ce_e e1]; rfl, by rw [ce_e e1]; rfl, by rw [ce_e e1]; rfl, r⟩
theorem osm_T (x y : List Nat) : osm (vT (some x)) (vT (some y)) = decide (x = y) := by simp [osm, vT]
section
variable {d : Nat} {h : mx_H} {M : List Nat} {p l A cp : Nat} {es : List Nat} {r : List itm}
/-- an item's cell by its number in the list -/
theorem it_get (L : AL h l A cp es) (I : ITs M h es r) {k : Nat} (hk : k < r.length) : ∃ (a1 a2 : Value) (c g : Int32), mx_G (d + 2) 139 0 [some (.ref l), some (.int (nI k))] [] h = some (some (.ref (es.getD k 0)), h) ∧ mx_tag h (es.getD k 0) = some (.inl 8) ∧ mx_ln h (es.getD k 0) = 4 ∧ mx_el h (es.getD k 0) 0 = a1 ∧ mx_el h (es.getD k 0) 1 = a2 ∧ mx_el h (es.getD k 0) 2 = .int c ∧ mx_el h (es.getD k 0) 3 = .int g ∧ OV M h a1 (vT (some (iG r k).1)) ∧ OV M h a2 (vB (iG r k).2) := by
  obtain ⟨c, g, I1⟩ := I.2 k hk
  obtain ⟨a1, a2, x⟩ := IC_f I1
  exact ⟨a1, a2, c, g, jl_get L (by rw [I.1]; exact hk), x⟩
theorem jp_twinI (tp : mx_tag h p = some (.inl 7)) (lp : mx_ln h p = 7) (p6 : mx_el h p 6 = .ref l) (L : AL h l A cp es) (I : ITs M h es r) {i : Nat} (hi : i < r.length) (h300 : r.length ≤ 1000) : ∀ n j, n + j = i →
    ((∃ b, j ≤ b ∧ b < i ∧ (iG r i).1 = (iG r b).1) → mx_G (d + 6) 143 15 [some (.ref p), some (.int (nI i)), some (.int (nI j))] [] h = some (some (.int 1), h)) ∧
    ((¬ ∃ b, j ≤ b ∧ b < i ∧ (iG r i).1 = (iG r b).1) → mx_G (d + 6) 143 15 [some (.ref p), some (.int (nI i)), some (.int (nI j))] [] h = mx_G (d + 6) 143 2 [some (.ref p), some (.int (nI (i + 1))), some (.int (nI i))] [] h) := by
  obtain ⟨c1, c2, c3, c4, c5, c6, c7, c8, c9, c10⟩ := AL_f L
  intro n
  induction n with
  | zero =>
    intro j hj
    have : j = i := by omega
    subst this
    refine ⟨fun ⟨b, z1, z2, z3⟩ => by omega, fun _ => ?_⟩
    simp only [g143_15, g143_16, g143_17, g143_62, g143_65, mx_isr_ref, mx_isr_null, mx_wt_nil, mx_wt_1, mx_wt_2, mx_wt_3, Option.bind_some, Option.toList_some, Option.toList_none, List.cons_append, List.nil_append, mx_nl_int, mx_nl_ref, mx_nl_null, mx_nl_none, mx_nb0, mx_nb1, mx_fb0, mx_fb1, mx_cat_int, mx_cat_ref, if_true, if_false, not_true_eq_false, not_false_eq_true, mx_wt_4, mx_w4_0, mx_w9_0, mx_w9_1, mx_kn_int, mx_kn_ref, mx_kn_null, Nat.reduceLT, ofn, n10, show nI j ≤ nI j from nI_le (Nat.le_refl _) (by omega), nI_1]
  | succ n ih =>
    intro j hj
    have hji : j < i := by omega
    obtain ⟨a1, a2, cc, gg, g1, t1, l1, x0, -, -, -, o1, -⟩ := it_get (d := d + 3) L I hi
    obtain ⟨b1, b2, cc', gg', g2, t2, l2, y0, -, -, -, o2, -⟩ := it_get (d := d + 3) L I (show j < r.length by omega)
    have S := jv_same (d := d) o1 o2
    rw [osm_T] at S
    have q : ¬ nI i ≤ nI j := nI_ge hji (by omega)
    have k1 := isr_kn o1.isr
    have k2 := isr_kn o2.isr
    by_cases e : (iG r i).1 = (iG r j).1
    · rw [if_pos (by simpa using e)] at S
      refine ⟨fun _ => ?_, fun z => absurd ⟨j, Nat.le_refl _, hji, e⟩ z⟩
      simp only [g143_15, g143_16, g143_17, g143_20, g143_21, g143_24, g143_25, g143_28n, g143_28, g143_31, g143_34, g143_35, g143_38, g143_39, g143_42n, g143_42, g143_45, g143_48, g143_51, g143_54, g143_55, mx_isr_ref, mx_isr_null, mx_wt_nil, mx_wt_1, mx_wt_2, mx_wt_3, Option.bind_some, Option.toList_some, Option.toList_none, List.cons_append, List.nil_append, mx_nl_int, mx_nl_ref, mx_nl_null, mx_nl_none, mx_nb0, mx_nb1, mx_fb0, mx_fb1, mx_cat_int, mx_cat_ref, if_true, if_false, not_true_eq_false, not_false_eq_true, mx_wt_4, mx_w4_0, mx_w9_0, mx_w9_1, mx_kn_int, mx_kn_ref, mx_kn_null, Nat.reduceLT, ofn, n10, q, tp, lp, p6, c1, g1, t1, l1, x0, k1, g2, t2, l2, y0, k2, o1.isr, o2.isr, S]
    · rw [if_neg (by simpa using e)] at S
      have hG : mx_G (d + 6) 143 15 [some (.ref p), some (.int (nI i)), some (.int (nI j))] [] h = mx_G (d + 6) 143 15 [some (.ref p), some (.int (nI i)), some (.int (nI (j + 1)))] [] h := by
        rw [g143_15]
        simp only [g143_16, g143_17, g143_20, g143_21, g143_24, g143_25, g143_28n, g143_28, g143_31, g143_34, g143_35, g143_38, g143_39, g143_42n, g143_42, g143_45, g143_48, g143_51, g143_54, g143_55, g143_56, g143_59, mx_isr_ref, mx_isr_null, mx_wt_nil, mx_wt_1, mx_wt_2, mx_wt_3, Option.bind_some, Option.toList_some, Option.toList_none, List.cons_append, List.nil_append, mx_nl_int, mx_nl_ref, mx_nl_null, mx_nl_none, mx_nb0, mx_nb1, mx_fb0, mx_fb1, mx_cat_int, mx_cat_ref, if_true, if_false, not_true_eq_false, not_false_eq_true, mx_wt_4, mx_w4_0, mx_w9_0, mx_w9_1, mx_kn_int, mx_kn_ref, mx_kn_null, Nat.reduceLT, ofn, n10, q, tp, lp, p6, c1, g1, t1, l1, x0, k1, g2, t2, l2, y0, k2, o1.isr, o2.isr, S, nI_1]
      rw [hG]
      obtain ⟨i1, i2⟩ := ih (j + 1) (by omega)
      refine ⟨fun ⟨b, z1, z2, z3⟩ => i1 ⟨b, ?_, z2, z3⟩, fun z => i2 (fun ⟨b, z1, z2, z3⟩ => z ⟨b, by omega, z2, z3⟩)⟩
      by_cases hb : b = j
      · subst hb; exact absurd z3 e
      · omega
theorem jp_twinO (tp : mx_tag h p = some (.inl 7)) (lp : mx_ln h p = 7) (p6 : mx_el h p 6 = .ref l) (L : AL h l A cp es) (I : ITs M h es r) (h300 : r.length ≤ 1000) : ∀ n i (l2 : Option Value), n + i = r.length →
    ((∃ a b, i ≤ a ∧ a < r.length ∧ b < a ∧ (iG r a).1 = (iG r b).1) → mx_G (d + 6) 143 2 [some (.ref p), some (.int (nI i)), l2] [] h = some (some (.int 1), h)) ∧
    ((¬ ∃ a b, i ≤ a ∧ a < r.length ∧ b < a ∧ (iG r a).1 = (iG r b).1) → mx_G (d + 6) 143 2 [some (.ref p), some (.int (nI i)), l2] [] h = some (some (.int 0), h)) := by
  obtain ⟨c1, c2, c3, c4, c5, c6, c7, c8, c9, c10⟩ := AL_f L
  have hle := I.1
  have sz := jl_size (d := d + 5) L
  rw [hle] at sz
  intro n
  induction n with
  | zero =>
    intro i l2 hi
    have : i = r.length := by omega
    subst this
    refine ⟨fun ⟨a, b, z1, z2, z3, z4⟩ => by omega, fun _ => ?_⟩
    simp only [g143_2, g143_3, g143_4, g143_7, g143_10, g143_68, g143_69, mx_isr_ref, mx_isr_null, mx_wt_nil, mx_wt_1, mx_wt_2, mx_wt_3, Option.bind_some, Option.toList_some, Option.toList_none, List.cons_append, List.nil_append, mx_nl_int, mx_nl_ref, mx_nl_null, mx_nl_none, mx_nb0, mx_nb1, mx_fb0, mx_fb1, mx_cat_int, mx_cat_ref, if_true, if_false, not_true_eq_false, not_false_eq_true, mx_wt_4, mx_w4_0, mx_w9_0, mx_w9_1, mx_kn_int, mx_kn_ref, mx_kn_null, Nat.reduceLT, ofn, n10, tp, lp, p6, c1, sz, show nI r.length ≤ nI r.length from nI_le (Nat.le_refl _) (by omega)]
  | succ n ih =>
    intro i l2 hi
    have hir : i < r.length := by omega
    have q : ¬ nI r.length ≤ nI i := nI_ge hir (by omega)
    have hG : mx_G (d + 6) 143 2 [some (.ref p), some (.int (nI i)), l2] [] h = mx_G (d + 6) 143 15 [some (.ref p), some (.int (nI i)), some (.int (nI 0))] [] h := by
      simp only [g143_2, g143_3, g143_4, g143_7, g143_10, g143_13, g143_14, mx_isr_ref, mx_isr_null, mx_wt_nil, mx_wt_1, mx_wt_2, mx_wt_3, Option.bind_some, Option.toList_some, Option.toList_none, List.cons_append, List.nil_append, mx_nl_int, mx_nl_ref, mx_nl_null, mx_nl_none, mx_nb0, mx_nb1, mx_fb0, mx_fb1, mx_cat_int, mx_cat_ref, if_true, if_false, not_true_eq_false, not_false_eq_true, mx_wt_4, mx_w4_0, mx_w9_0, mx_w9_1, mx_kn_int, mx_kn_ref, mx_kn_null, Nat.reduceLT, ofn, n10, q, tp, lp, p6, c1, sz]
      rfl
    obtain ⟨t1, t2⟩ := jp_twinI (d := d) tp lp p6 L I hir h300 i 0 (by omega)
    rw [hG]
    by_cases e : ∃ b, 0 ≤ b ∧ b < i ∧ (iG r i).1 = (iG r b).1
    · rw [t1 e]
      obtain ⟨b, -, z2, z3⟩ := e
      exact ⟨fun _ => rfl, fun z => absurd ⟨i, b, Nat.le_refl _, hir, z2, z3⟩ z⟩
    · rw [t2 e]
      obtain ⟨i1, i2⟩ := ih (i + 1) (some (.int (nI i))) (by omega)
      refine ⟨fun ⟨a, b, z1, z2, z3, z4⟩ => i1 ⟨a, b, ?_, z2, z3, z4⟩, fun z => i2 (fun ⟨a, b, z1, z2, z3, z4⟩ => z ⟨a, b, by omega, z2, z3, z4⟩)⟩
      by_cases ha : a = i
      · subst ha; exact absurd ⟨b, Nat.zero_le _, z3, z4⟩ e
      · omega
theorem jp_twins (tp : mx_tag h p = some (.inl 7)) (lp : mx_ln h p = 7) (p6 : mx_el h p 6 = .ref l) (L : AL h l A cp es) (I : ITs M h es r) (h300 : r.length ≤ 1000) : mx_G (d + 6) 143 0 [some (.ref p), none, none] [] h = some (some (.int (if twn r = true then 1 else 0)), h) := by
  obtain ⟨t1, t2⟩ := jp_twinO (d := d) tp lp p6 L I h300 r.length 0 none (by omega)
  have hG : mx_G (d + 6) 143 0 [some (.ref p), none, none] [] h = mx_G (d + 6) 143 2 [some (.ref p), some (.int (nI 0)), none] [] h := by
    simp only [g143_0, g143_1, mx_isr_ref, mx_isr_null, mx_wt_nil, mx_wt_1, mx_wt_2, mx_wt_3, Option.bind_some, Option.toList_some, Option.toList_none, List.cons_append, List.nil_append, mx_nl_int, mx_nl_ref, mx_nl_null, mx_nl_none, mx_nb0, mx_nb1, mx_fb0, mx_fb1, mx_cat_int, mx_cat_ref, if_true, if_false, not_true_eq_false, not_false_eq_true, mx_wt_4, mx_w4_0, mx_w9_0, mx_w9_1, mx_kn_int, mx_kn_ref, mx_kn_null, Nat.reduceLT, ofn, n10]
    rfl
  rw [hG]
  by_cases c : twn r = true
  · rw [if_pos c]; exact t1 (by obtain ⟨a, z1, z2, b, z3, z4⟩ := (twn_ex r).mp c; exact ⟨a, b, z1, z2, z3, z4⟩)
  · rw [if_neg c]; exact t2 (fun ⟨a, b, z1, z2, z3, z4⟩ => c ((twn_ex r).mpr ⟨a, z1, z2, b, z3, z4⟩))
/-- how many are primary, from i on -/
theorem jp_trsL (tp : mx_tag h p = some (.inl 7)) (lp : mx_ln h p = 7) (p6 : mx_el h p 6 = .ref l) (L : AL h l A cp es) (I : ITs M h es r) (h300 : r.length ≤ 1000) {g : Nat} : ∀ n i k, n + i = r.length → mx_G (d + 3) 137 23 [some (.ref p), some (.ref g), some (.int (nI k)), some (.int (nI i))] [] h = mx_G (d + 3) 137 60 [some (.ref p), some (.ref g), some (.int (nI (k + trs (r.drop i)))), some (.int (nI r.length))] [] h := by
  obtain ⟨c1, c2, c3, c4, c5, c6, c7, c8, c9, c10⟩ := AL_f L
  have hle := I.1
  have sz := jl_size (d := d + 2) L
  rw [hle] at sz
  intro n
  induction n with
  | zero =>
    intro i k hi
    have : i = r.length := by omega
    subst this
    rw [List.drop_length]
    simp only [g137_23, g137_24, g137_25, g137_28, g137_31, mx_isr_ref, mx_isr_null, mx_wt_nil, mx_wt_1, mx_wt_2, mx_wt_3, Option.bind_some, Option.toList_some, Option.toList_none, List.cons_append, List.nil_append, mx_nl_int, mx_nl_ref, mx_nl_null, mx_nl_none, mx_nb0, mx_nb1, mx_fb0, mx_fb1, mx_cat_int, mx_cat_ref, if_true, if_false, not_true_eq_false, not_false_eq_true, mx_wt_4, mx_w4_0, mx_w9_0, mx_w9_1, mx_kn_int, mx_kn_ref, mx_kn_null, Nat.reduceLT, ofn, n10, tp, lp, p6, c1, sz, show nI r.length ≤ nI r.length from nI_le (Nat.le_refl _) (by omega)]
    rfl
  | succ n ih =>
    intro i k hi
    have hir : i < r.length := by omega
    have q : ¬ nI r.length ≤ nI i := nI_ge hir (by omega)
    obtain ⟨cc, gg, I1⟩ := I.2 i hir
    have P := ji_prim (d := d + 2) I1
    have G1 := jl_get (d := d) L (show i < es.length by omega)
    have te : mx_tag h (es.getD i 0) = some (.inl 8) := by obtain ⟨a1, a2, t, -⟩ := IC_f I1; exact t
    have hd : r.drop i = iG r i :: r.drop (i + 1) := by
      unfold iG
      rw [List.drop_eq_getElem_cons hir, List.getD_eq_getElem?_getD, List.getElem?_eq_getElem hir]
      rfl
    rw [g137_23]
    by_cases t : tr1 (iG r i).2 = true
    · rw [if_pos t] at P
      have : trs (r.drop i) = trs (r.drop (i + 1)) + 1 := by
        rw [hd]
        unfold trs
        rw [List.filter_cons_of_pos (by exact t), List.length_cons]
      simp only [g137_24, g137_25, g137_28, g137_31, g137_34, g137_35, g137_38, g137_39, g137_42n, g137_42, g137_45, g137_48, g137_51, g137_54, g137_57, mx_isr_ref, mx_isr_null, mx_wt_nil, mx_wt_1, mx_wt_2, mx_wt_3, Option.bind_some, Option.toList_some, Option.toList_none, List.cons_append, List.nil_append, mx_nl_int, mx_nl_ref, mx_nl_null, mx_nl_none, mx_nb0, mx_nb1, mx_fb0, mx_fb1, mx_cat_int, mx_cat_ref, if_true, if_false, not_true_eq_false, not_false_eq_true, mx_wt_4, mx_w4_0, mx_w9_0, mx_w9_1, mx_kn_int, mx_kn_ref, mx_kn_null, Nat.reduceLT, ofn, n10, q, tp, lp, p6, c1, sz, G1, te, P, nI_1]
      rw [ih (i + 1) (k + 1) (by omega), this, show k + 1 + trs (r.drop (i + 1)) = k + (trs (r.drop (i + 1)) + 1) by omega]
    · rw [if_neg t] at P
      have : trs (r.drop i) = trs (r.drop (i + 1)) := by
        rw [hd]
        unfold trs
        rw [List.filter_cons_of_neg (by exact t)]
      simp only [g137_24, g137_25, g137_28, g137_31, g137_34, g137_35, g137_38, g137_39, g137_42n, g137_42, g137_45, g137_48, g137_51, g137_54, g137_57, mx_isr_ref, mx_isr_null, mx_wt_nil, mx_wt_1, mx_wt_2, mx_wt_3, Option.bind_some, Option.toList_some, Option.toList_none, List.cons_append, List.nil_append, mx_nl_int, mx_nl_ref, mx_nl_null, mx_nl_none, mx_nb0, mx_nb1, mx_fb0, mx_fb1, mx_cat_int, mx_cat_ref, if_true, if_false, not_true_eq_false, not_false_eq_true, mx_wt_4, mx_w4_0, mx_w9_0, mx_w9_1, mx_kn_int, mx_kn_ref, mx_kn_null, Nat.reduceLT, ofn, n10, q, tp, lp, p6, c1, sz, G1, te, P, nI_1]
      rw [ih (i + 1) k (by omega), this]
theorem jp_mail {q : prs} (hp63 : 63 ≤ p) (hpM : p ∈ M) {l2 A2 cp2 : Nat} (C : PC M h p l q) (L : AL h l2 A2 cp2 es) (I : ITs M h es r) : ∃ h', mx_G (d + 7) 137 0 [some (.ref p), some (.ref l2), none, none] [] h = some (some (.int (if r.length ≤ 4 ∧ twn r = false ∧ trs r < 2 then 1 else 0)), h') ∧ (r.length ≤ 4 → PC M h' p l2 q ∧ h' = mx_up h p 6 (.ref l2)) ∧ Fr [p] h h' ∧ mw h' = mw h := by
  obtain ⟨c1, c2, c3, c4, c5, c6, c7, c8, c9, c10⟩ := AL_f L
  have hle := I.1
  have sz := jl_size (d := d + 6) L
  rw [hle] at sz
  have h1000 : r.length ≤ 1000 := by have := L.2.2.1; have := L.2.2.2.1; omega
  have hn : mt_nO ≤ p := by rw [show mt_nO = 63 by decide]; exact hp63
  have tp := (PC_f C).1
  by_cases c4' : 4 < r.length
  · rw [if_neg (fun z => by omega)]
    refine ⟨h, ?_, fun z => by omega, Fr.rfl _ _, rfl⟩
    have q4 : ¬ nI r.length ≤ 4 := nI_ge (a := 4) (b := r.length) (by omega) (by omega)
    simp only [g137_0, g137_1, g137_1n, g137_4, g137_5, g137_8, g137_9, g137_12, g137_13, mx_isr_ref, mx_isr_null, mx_wt_nil, mx_wt_1, mx_wt_2, mx_wt_3, Option.bind_some, Option.toList_some, Option.toList_none, List.cons_append, List.nil_append, mx_nl_int, mx_nl_ref, mx_nl_null, mx_nl_none, mx_nb0, mx_nb1, mx_fb0, mx_fb1, mx_cat_int, mx_cat_ref, if_true, if_false, not_true_eq_false, not_false_eq_true, mx_wt_4, mx_w4_0, mx_w9_0, mx_w9_1, mx_kn_int, mx_kn_ref, mx_kn_null, Nat.reduceLT, ofn, n10, c1, sz, q4]
  · have q4 : nI r.length ≤ 4 := nI_le (b := 4) (by omega) (by decide)
    have E := Ex.up1 (h := h) (k := 6) (v := .ref l2) hpM
    obtain ⟨i, v, n, f, a, o, e1, e2, e3, e4, e5, e6, e7⟩ := C
    have C' : PC M (mx_up h p 6 (.ref l2)) p l2 q := ⟨i, v, n, f, a, o, by rw [c_up e1]; rfl, e2.ex E, e3.ex E, e4.ex E, e5.ex E, e6.ex E, e7.ex E⟩
    generalize hg : mx_up h p 6 (.ref l2) = g at *
    have Fg : Fr [p] h g := by rw [← hg]; exact Fr.up (by simp)
    have pne : ∀ e, e ≠ p → g[e]? = h[e]? := fun e he => by rw [← hg, c_upn he]
    have L' : AL g l2 A2 cp2 es := AL_fr L Fg (by
      rw [List.mem_singleton]
      rintro rfl
      rw [tp] at c1; cases c1) (by
      rw [List.mem_singleton]
      rintro rfl
      rw [tp] at c6; cases c6)
    have I' : ITs M g es r := I.ex E (fun e he => pne e (by
      rintro rfl
      obtain ⟨k, hk, ek⟩ := gd_mem he
      obtain ⟨cc, gg, a1, a2, x, -⟩ := I.2 k (by rw [← hle]; exact hk)
      rw [ek] at x
      rw [ce_t x] at tp
      cases tp))
    obtain ⟨tp', lp', p6', -⟩ := PC_f C'
    have T := jp_trsL (d := d + 4) tp' lp' p6' L' I' h1000 (g := l2) r.length 0 0 (by omega)
    have W := jp_twins (d := d) tp' lp' p6' L' I' h1000
    rw [Nat.zero_add, List.drop_zero] at T
    have hG : mx_G (d + 7) 137 0 [some (.ref p), some (.ref l2), none, none] [] h = mx_G (d + 7) 137 60 [some (.ref p), some (.ref l2), some (.int (nI (trs r))), some (.int (nI r.length))] [] g := by
      rw [← T]
      simp only [g137_0, g137_1, g137_1n, g137_4, g137_5, g137_8, g137_9, g137_12, g137_13, g137_14, g137_15, g137_16, g137_19, g137_20, g137_21, g137_22, mx_isr_ref, mx_isr_null, mx_wt_nil, mx_wt_1, mx_wt_2, mx_wt_3, Option.bind_some, Option.toList_some, Option.toList_none, List.cons_append, List.nil_append, mx_nl_int, mx_nl_ref, mx_nl_null, mx_nl_none, mx_nb0, mx_nb1, mx_fb0, mx_fb1, mx_cat_int, mx_cat_ref, if_true, if_false, not_true_eq_false, not_false_eq_true, mx_wt_4, mx_w4_0, mx_w9_0, mx_w9_1, mx_kn_int, mx_kn_ref, mx_kn_null, Nat.reduceLT, ofn, n10, c1, sz, q4, tp, hn, hg]
      rfl
    rw [hG]
    have htr : trs r ≤ r.length := List.length_filter_le _ _
    refine ⟨g, ?_, fun _ => ⟨C', rfl⟩, Fg, by rw [← hg, mw_up]⟩
    by_cases ct : trs r < 2
    · have q1 : ¬ (1 : Int32) < nI (trs r) := nI_nlt (a := 1) (b := trs r) (by omega) (by decide)
      cases hw : twn r with
      | false =>
        rw [hw, if_neg (by decide)] at W
        rw [if_pos ⟨by omega, rfl, ct⟩]
        simp only [g137_60, g137_61, g137_62, g137_65, g137_66, g137_69, g137_72, g137_73, g137_76, g137_77, mx_isr_ref, mx_isr_null, mx_wt_nil, mx_wt_1, mx_wt_2, mx_wt_3, Option.bind_some, Option.toList_some, Option.toList_none, List.cons_append, List.nil_append, mx_nl_int, mx_nl_ref, mx_nl_null, mx_nl_none, mx_nb0, mx_nb1, mx_fb0, mx_fb1, mx_cat_int, mx_cat_ref, if_true, if_false, not_true_eq_false, not_false_eq_true, mx_wt_4, mx_w4_0, mx_w9_0, mx_w9_1, mx_kn_int, mx_kn_ref, mx_kn_null, Nat.reduceLT, ofn, n10, q1, tp', W]
      | true =>
        rw [hw, if_pos rfl] at W
        rw [if_neg (fun z => absurd z.2.1 (by decide))]
        simp only [g137_60, g137_61, g137_62, g137_65, g137_66, g137_69, g137_72, g137_73, g137_76, g137_77, mx_isr_ref, mx_isr_null, mx_wt_nil, mx_wt_1, mx_wt_2, mx_wt_3, Option.bind_some, Option.toList_some, Option.toList_none, List.cons_append, List.nil_append, mx_nl_int, mx_nl_ref, mx_nl_null, mx_nl_none, mx_nb0, mx_nb1, mx_fb0, mx_fb1, mx_cat_int, mx_cat_ref, if_true, if_false, not_true_eq_false, not_false_eq_true, mx_wt_4, mx_w4_0, mx_w9_0, mx_w9_1, mx_kn_int, mx_kn_ref, mx_kn_null, Nat.reduceLT, ofn, n10, q1, tp', W]
    · have q1 : (1 : Int32) < nI (trs r) := nI_lt (a := 1) (by omega) (by omega)
      rw [if_neg (fun z => ct z.2.2)]
      simp only [g137_60, g137_61, g137_62, g137_65, g137_66, g137_69, g137_72, g137_73, g137_76, g137_77, mx_isr_ref, mx_isr_null, mx_wt_nil, mx_wt_1, mx_wt_2, mx_wt_3, Option.bind_some, Option.toList_some, Option.toList_none, List.cons_append, List.nil_append, mx_nl_int, mx_nl_ref, mx_nl_null, mx_nl_none, mx_nb0, mx_nb1, mx_fb0, mx_fb1, mx_cat_int, mx_cat_ref, if_true, if_false, not_true_eq_false, not_false_eq_true, mx_wt_4, mx_w4_0, mx_w9_0, mx_w9_1, mx_kn_int, mx_kn_ref, mx_kn_null, Nat.reduceLT, ofn, n10, q1]
end
