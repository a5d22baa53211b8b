/-! Filter.matches: what a filter means, whatever is added to the heap. -/
def Mt (K : Nat) (w : Bool) (M : List Nat) (h : mx_H) (f : Nat) (cs : List Value) (g : prs → Option Nat → Bool) : Prop :=
  ∀ (d : Nat) (M' : List Nat) (h' : mx_H) (nx : Value) (p l A cp : Nat) (es : List Nat) (q : prs) (it : Value) (i : Option Nat), Ex M h M' h' → h'[f]? = some (.inl 10, cs ++ [nx]) → mx_isr nx = true → MPs M' h' p l A cp es q it i → (w = true ↔ i ≠ none) →
    mx_G (d + K) 179 0 [some (.ref f), some (.ref p), some it, none, none] [] h' = some (some (.int (if g q i = true then 1 else 0)), h')
theorem Mt.ex {K : Nat} {w : Bool} {M M1 : List Nat} {h h1 : mx_H} {f : Nat} {cs : List Value} {g : prs → Option Nat → Bool} (m : Mt K w M h f cs g) (e : Ex M h M1 h1) : Mt K w M1 h1 f cs g :=
  fun d M' h' nx p l A cp es q it i E => m d M' h' nx p l A cp es q it i (e.trans E)
theorem Mt.le {K K' : Nat} {w : Bool} {M : List Nat} {h : mx_H} {f : Nat} {cs : List Value} {g : prs → Option Nat → Bool} (m : Mt K w M h f cs g) (hk : K ≤ K') : Mt K' w M h f cs g := by
  intro d M' h' nx p l A cp es q it i
  have := m (d + (K' - K)) M' h' nx p l A cp es q it i
  rw [show d + (K' - K) + K = d + K' by omega] at this
  exact this
theorem Mt.eq {K : Nat} {w : Bool} {M : List Nat} {h : mx_H} {f : Nat} {cs : List Value} {g g' : prs → Option Nat → Bool} (m : Mt K w M h f cs g) (e : ∀ p i, g' p i = g p i) : Mt K w M h f cs g' := by
  have : g' = g := funext fun p => funext fun i => e p i
  rw [this]; exact m
theorem MPs.it {M : List Nat} {h : mx_H} {p l A cp : Nat} {es : List Nat} {q : prs} {it : Value} {i : Option Nat} (P : MPs M h p l A cp es q it i) : mx_isr it = true := by
  rcases P.2.2.2.1 with ⟨rfl, -⟩ | ⟨k, -, rfl, -⟩ <;> rfl
/-- a row of filters, the newest first -/
def Fc (K : Nat) (w : Bool) (M : List Nat) (h : mx_H) : Value → List (prs → Option Nat → Bool) → Prop
  | v, [] => v = .null
  | v, g :: gs => ∃ (f : Nat) (cs : List Value) (nx : Value), v = .ref f ∧ h[f]? = some (.inl 10, cs ++ [nx]) ∧ cs.length = 5 ∧ fz M f ∧ Mt K w M h f cs g ∧ Fc K w M h nx gs
theorem Fc.ex {K : Nat} {w : Bool} {M M1 : List Nat} {h h1 : mx_H} (e : Ex M h M1 h1) : ∀ (gs : List (prs → Option Nat → Bool)) (v : Value), Fc K w M h v gs → Fc K w M1 h1 v gs := by
  intro gs
  induction gs with
  | nil => intro v z; exact z
  | cons g gs ih =>
    rintro v ⟨f, cs, nx, rfl, c1, c2, c3, c4, c5⟩
    exact ⟨f, cs, nx, rfl, (e.at c1 c3).1, c2, (e.at c1 c3).2, c4.ex e, ih _ c5⟩
theorem Fc.isr {K : Nat} {w : Bool} {M : List Nat} {h : mx_H} : ∀ {gs : List (prs → Option Nat → Bool)} {v : Value}, Fc K w M h v gs → mx_isr v = true := by
  intro gs v z
  cases gs with
  | nil => rw [show v = .null from z]; rfl
  | cons g gs => obtain ⟨f, cs, nx, rfl, -⟩ := z; rfl
theorem fc_f {h : mx_H} {f : Nat} {a b c v n nx : Value} (e : h[f]? = some (.inl 10, [a, b, c, v, n, nx])) : mx_tag h f = some (.inl 10) ∧ mx_ln h f = 6 ∧ mx_el h f 0 = a ∧ mx_el h f 1 = b ∧ mx_el h f 2 = c ∧ mx_el h f 3 = v ∧ mx_el h f 4 = n ∧ mx_el h f 5 = nx :=
  ⟨ce_t e, by rw [ce_n e]; rfl, by rw [ce_e e]; rfl, by rw [ce_e e]; rfl, by rw [ce_e e]; rfl, by rw [ce_e e]; rfl, by rw [ce_e e]; rfl, by rw [ce_e e]; rfl⟩
theorem fc_5 {h : mx_H} {f : Nat} {cs : List Value} {nx : Value} (e : h[f]? = some (.inl 10, cs ++ [nx])) (hc : cs.length = 5) : mx_tag h f = some (.inl 10) ∧ mx_ln h f = 6 ∧ mx_el h f 5 = nx := by
  refine ⟨ce_t e, by rw [ce_n e]; simp [hc], ?_⟩
  rw [ce_e e, List.getD_eq_getElem?_getD, List.getElem?_append_right (by omega), hc]
  rfl
theorem opc {c : Nat} (hc : c < 10) : c = 0 ↔ opsL.getD c [] = w_pr := by
  have : c = 0 ∨ c = 1 ∨ c = 2 ∨ c = 3 ∨ c = 4 ∨ c = 5 ∨ c = 6 ∨ c = 7 ∨ c = 8 ∨ c = 9 := by omega
  rcases this with rfl | rfl | rfl | rfl | rfl | rfl | rfl | rfl | rfl | rfl <;> decide
theorem opc2 {c : Nat} (hc : c < 10) : c = 2 ↔ opsL.getD c [] = w_ne := by
  have : c = 0 ∨ c = 1 ∨ c = 2 ∨ c = 3 ∨ c = 4 ∨ c = 5 ∨ c = 6 ∨ c = 7 ∨ c = 8 ∨ c = 9 := by omega
  rcases this with rfl | rfl | rfl | rfl | rfl | rfl | rfl | rfl | rfl | rfl <;> decide
theorem fvO_none {ts : List tk} {way t : Nat} {op : List Nat} : fvO ts way op t = none ↔ op = w_pr := by
  unfold fvO
  split
  · rename_i e; simp [e]
  · rename_i e
    split <;> simp [e]
theorem Mt_leaf {ts : List tk} {w : Bool} {M : List Nat} {h : mx_H} {f way t c : Nat} {fv : Value} {op : List Nat} (FV : OV M h fv (fvO ts way op t)) (hc : c < 10) (hop : opsL.getD c [] = op) (hv : vC ts way op t) (hw : w = true → 6 ≤ way) : Mt 7 w M h f [.int 4, .int (nI (atW way)), .int (nI c), fv, .null] (fun p i => hd ts p i (0, way, op, t)) := by
  intro d M' h' nx p l A cp es q it i E ef hnx P hwi
  show mx_G _ 179 0 _ [] h' = some (some (.int (if hd ts q i (0, way, op, t) = true then 1 else 0)), h')
  have FV' := FV.ex E
  have ef' : h'[f]? = some (.inl 10, [.int 4, .int (nI (atW way)), .int (nI c), fv, .null, nx]) := ef
  obtain ⟨t0, t1, y0, y1, y2, -⟩ := fc_f ef'
  have hit := P.it
  have hiw : i ≠ none → 6 ≤ way := fun z => hw (hwi.mpr z)
  by_cases e : c = 2
  · subst e
    have eo : op = w_ne := by rw [← hop]; rfl
    subst eo
    have ev : fvO ts way w_ne t = fvO ts way w_eq t := rfl
    rw [ev] at FV'
    have H := jh_cmp (d := d) (c := 1) (op := w_eq) P ef' FV' (by decide) (by decide) rfl (by decide) ⟨hv.1, hv.2.1, Or.inr ⟨by simp [vld], (hv.2.2.resolve_left (by decide)).2⟩⟩ ⟨fun z => (by cases z), fun z => absurd (fvO_none.mp z) (by decide)⟩ hiw
    rw [show nI 1 = 1 from rfl] at H
    have e1 : hd ts q i (0, way, w_ne, t) = !hA ts q i way w_eq t := rfl
    rw [e1]
    have n2 : nI 2 = 2 := rfl
    cases b : hA ts q i way w_eq t
    · rw [b] at H
      simp only [g179_0, g179_1, g179_4, g179_5, g179_8, g179_9, g179_12, g179_13, g179_16, g179_17, g179_18, g179_19, g179_20, g179_23, g179_26, g179_27, g179_30, g179_31, g179_34, g179_35, g179_36, g179_39, g179_40, g179_41, g179_44, mx_isr_ref, mx_isr_null, mx_wt_nil, mx_wt_1, mx_wt_2, mx_wt_3, Option.bind_some, Option.toList_some, Option.toList_none, List.cons_append, List.nil_append, mx_nl_int, mx_nl_ref, mx_nl_null, mx_nl_none, mx_nb0, mx_nb1, mx_fb0, mx_fb1, mx_cat_int, mx_cat_ref, if_true, if_false, not_true_eq_false, not_false_eq_true, mx_wt_4, mx_w4_0, mx_w9_0, mx_w9_1, mx_kn_int, mx_kn_ref, mx_kn_null, Nat.reduceLT, ofn, n10, t0, t1, y0, y2, n2, hit, H, Bool.false_eq_true, Bool.not_false]
    · rw [b] at H
      simp only [g179_0, g179_1, g179_4, g179_5, g179_8, g179_9, g179_12, g179_13, g179_16, g179_17, g179_18, g179_19, g179_20, g179_23, g179_26, g179_27, g179_30, g179_31, g179_34, g179_35, g179_36, g179_39, g179_40, g179_41, g179_44, mx_isr_ref, mx_isr_null, mx_wt_nil, mx_wt_1, mx_wt_2, mx_wt_3, Option.bind_some, Option.toList_some, Option.toList_none, List.cons_append, List.nil_append, mx_nl_int, mx_nl_ref, mx_nl_null, mx_nl_none, mx_nb0, mx_nb1, mx_fb0, mx_fb1, mx_cat_int, mx_cat_ref, if_true, if_false, not_true_eq_false, not_false_eq_true, mx_wt_4, mx_w4_0, mx_w9_0, mx_w9_1, mx_kn_int, mx_kn_ref, mx_kn_null, Nat.reduceLT, ofn, n10, t0, t1, y0, y2, n2, hit, H, Bool.false_eq_true, Bool.not_true]
  · have hne : op ≠ w_ne := fun z => e ((opc2 hc).mpr (hop.trans z))
    have H := jh_cmp (d := d) P ef' FV' hc e hop hne hv ((opc hc).trans (by rw [hop]; exact fvO_none.symm)) hiw
    have e1 : hd ts q i (0, way, op, t) = hA ts q i way op t := by unfold hd; rw [if_neg hne]
    rw [e1]
    have n2 : ¬ nI c = 2 := fun z => e ((nI_eq (b := 2) (by omega) (by decide)).mp z)
    cases z : hA ts q i way op t <;> rw [z] at H <;> simp only [g179_0, g179_1, g179_4, g179_5, g179_8, g179_9, g179_12, g179_13, g179_16, g179_17, g179_18, g179_19, g179_20, g179_23, g179_26, g179_27, g179_30, g179_31, g179_34, g179_35, g179_36, g179_39, g179_40, g179_41, g179_44, mx_isr_ref, mx_isr_null, mx_wt_nil, mx_wt_1, mx_wt_2, mx_wt_3, Option.bind_some, Option.toList_some, Option.toList_none, List.cons_append, List.nil_append, mx_nl_int, mx_nl_ref, mx_nl_null, mx_nl_none, mx_nb0, mx_nb1, mx_fb0, mx_fb1, mx_cat_int, mx_cat_ref, if_true, if_false, not_true_eq_false, not_false_eq_true, mx_wt_4, mx_w4_0, mx_w9_0, mx_w9_1, mx_kn_int, mx_kn_ref, mx_kn_null, Nat.reduceLT, ofn, n10, t0, t1, y0, y2, n2, hit, H, Bool.false_eq_true]
theorem Mt_not {K : Nat} {w : Bool} {M : List Nat} {h : mx_H} {f f' : Nat} {cs : List Value} {a b : Int32} {g : prs → Option Nat → Bool} (e : h[f']? = some (.inl 10, cs ++ [.null])) (hz : fz M f') (m : Mt K w M h f' cs g) : Mt (K + 1) w M h f [.int 2, .int a, .int b, .null, .ref f'] (fun p i => !g p i) := by
  intro d M' h' nx p l A cp es q it i E ef hnx P hwi
  show mx_G _ 179 0 _ [] h' = some (some (.int (if (!g q i) = true then 1 else 0)), h')
  have ef' : h'[f]? = some (.inl 10, [.int 2, .int a, .int b, .null, .ref f', nx]) := ef
  obtain ⟨t0, t1, y0, y1, y2, y3, y4, y5⟩ := fc_f ef'
  have hit := P.it
  have H := m d M' h' .null p l A cp es q it i E (E.at e hz).1 rfl P hwi
  have tf := ce_t (E.at e hz).1
  rw [← Nat.add_assoc, g179_0 mx_isr_ref]
  cases b : g q i
  · rw [b] at H
    simp only [g179_1, g179_4, g179_5, g179_45, g179_46, g179_49, g179_50, g179_105, g179_106, g179_109, g179_110, g179_113, g179_114, g179_117, g179_117n, g179_120, g179_121, g179_124, g179_125, g179_126, g179_129, g179_132, g179_133, g179_136, g179_137, mx_isr_ref, mx_isr_null, mx_wt_nil, mx_wt_1, mx_wt_2, mx_wt_3, Option.bind_some, Option.toList_some, Option.toList_none, List.cons_append, List.nil_append, mx_nl_int, mx_nl_ref, mx_nl_null, mx_nl_none, mx_nb0, mx_nb1, mx_fb0, mx_fb1, mx_cat_int, mx_cat_ref, if_true, if_false, not_true_eq_false, not_false_eq_true, mx_wt_4, mx_w4_0, mx_w9_0, mx_w9_1, mx_kn_int, mx_kn_ref, mx_kn_null, Nat.reduceLT, ofn, n10, t0, t1, y0, y4, tf, hit, H, Bool.false_eq_true, Bool.not_false, show ¬ (2 : Int32) = 4 by decide, show ¬ (2 : Int32) = 3 by decide]
  · rw [b] at H
    simp only [g179_1, g179_4, g179_5, g179_45, g179_46, g179_49, g179_50, g179_105, g179_106, g179_109, g179_110, g179_113, g179_114, g179_117, g179_117n, g179_120, g179_121, g179_124, g179_125, g179_126, g179_129, g179_132, g179_133, g179_136, g179_137, mx_isr_ref, mx_isr_null, mx_wt_nil, mx_wt_1, mx_wt_2, mx_wt_3, Option.bind_some, Option.toList_some, Option.toList_none, List.cons_append, List.nil_append, mx_nl_int, mx_nl_ref, mx_nl_null, mx_nl_none, mx_nb0, mx_nb1, mx_fb0, mx_fb1, mx_cat_int, mx_cat_ref, if_true, if_false, not_true_eq_false, not_false_eq_true, mx_wt_4, mx_w4_0, mx_w9_0, mx_w9_1, mx_kn_int, mx_kn_ref, mx_kn_null, Nat.reduceLT, ofn, n10, t0, t1, y0, y4, tf, hit, H, Bool.false_eq_true, Bool.not_true, show ¬ (2 : Int32) = 4 by decide, show ¬ (2 : Int32) = 3 by decide]
theorem Mt_row {K : Nat} {w d0 : Bool} {M : List Nat} {h : mx_H} {f : Nat} {v : Value} {a b : Int32} {gs : List (prs → Option Nat → Bool)} (F : Fc K w M h v gs) : Mt (K + 1) w M h f [.int (if d0 = true then 0 else 1), .int a, .int b, .null, v] (fun p i => if d0 = true then gs.any (fun g => g p i) else gs.all (fun g => g p i)) := by
  intro d M' h' nx p l A cp es q it i E ef hnx P hwi
  show mx_G _ 179 0 _ [] h' = some (some (.int (if (if d0 = true then gs.any (fun g => g q i) else gs.all (fun g => g q i)) = true then 1 else 0)), h')
  have ef' : h'[f]? = some (.inl 10, [.int (if d0 = true then 0 else 1), .int a, .int b, .null, v, nx]) := ef
  obtain ⟨t0, t1, y0, y1, y2, y3, y4, y5⟩ := fc_f ef'
  have hit := P.it
  have L : ∀ (gs : List (prs → Option Nat → Bool)) (v : Value), Fc K w M' h' v gs → mx_G (d + K + 1) 179 157 [some (.ref f), some (.ref p), some it, some (.int (if d0 = true then 1 else 0)), some v] [] h' = some (some (.int (if (if d0 = true then gs.any (fun g => g q i) else gs.all (fun g => g q i)) = true then 1 else 0)), h') := by
    intro gs
    induction gs with
    | nil =>
      intro v z
      rw [show v = .null from z]
      cases d0 <;> simp only [g179_157, g179_159, g179_159n, g179_185, g179_186, g179_189, g179_190, g179_193, g179_194, mx_isr_ref, mx_isr_null, mx_wt_nil, mx_wt_1, mx_wt_2, mx_wt_3, Option.bind_some, Option.toList_some, Option.toList_none, List.cons_append, List.nil_append, mx_nl_int, mx_nl_ref, mx_nl_null, mx_nl_none, mx_nb0, mx_nb1, mx_fb0, mx_fb1, mx_cat_int, mx_cat_ref, if_true, if_false, not_true_eq_false, not_false_eq_true, mx_wt_4, mx_w4_0, mx_w9_0, mx_w9_1, mx_kn_int, mx_kn_ref, mx_kn_null, Nat.reduceLT, ofn, n10, Bool.false_eq_true, List.any_nil, List.all_nil]
    | cons g gs ih =>
      rintro v ⟨f1, cs, nx1, rfl, c1, c2, c3, c4, c5⟩
      obtain ⟨s0, s1, s5⟩ := fc_5 c1 c2
      have hn := Fc.isr c5
      have hk := isr_kn hn
      have H := c4 d M' h' nx1 p l A cp es q it i (Ex.rfl _ _) c1 hn P hwi
      have I := ih nx1 c5
      rw [g179_157 mx_isr_ref]
      cases d0
      · cases z : g q i
        · rw [z] at H
          simp only [g179_159, g179_159n, g179_162, g179_164, g179_165, g179_166, g179_169, g179_170, g179_173, g179_174, mx_isr_ref, mx_isr_null, mx_wt_nil, mx_wt_1, mx_wt_2, mx_wt_3, Option.bind_some, Option.toList_some, Option.toList_none, List.cons_append, List.nil_append, mx_nl_int, mx_nl_ref, mx_nl_null, mx_nl_none, mx_nb0, mx_nb1, mx_fb0, mx_fb1, mx_cat_int, mx_cat_ref, if_true, if_false, not_true_eq_false, not_false_eq_true, mx_wt_4, mx_w4_0, mx_w9_0, mx_w9_1, mx_kn_int, mx_kn_ref, mx_kn_null, Nat.reduceLT, ofn, n10, s0, s1, hit, H, Bool.false_eq_true, List.all_cons, z, Bool.false_and]
        · rw [z] at H
          simp only [Bool.false_eq_true, if_false] at I
          simp only [g179_159, g179_159n, g179_162, g179_164, g179_165, g179_166, g179_169, g179_170, g179_173, g179_174, g179_175, g179_177, g179_180, g179_182, mx_isr_ref, mx_isr_null, mx_wt_nil, mx_wt_1, mx_wt_2, mx_wt_3, Option.bind_some, Option.toList_some, Option.toList_none, List.cons_append, List.nil_append, mx_nl_int, mx_nl_ref, mx_nl_null, mx_nl_none, mx_nb0, mx_nb1, mx_fb0, mx_fb1, mx_cat_int, mx_cat_ref, if_true, if_false, not_true_eq_false, not_false_eq_true, mx_wt_4, mx_w4_0, mx_w9_0, mx_w9_1, mx_kn_int, mx_kn_ref, mx_kn_null, Nat.reduceLT, ofn, n10, s0, s1, s5, hn, hk, nl_isr hn, hit, H, Bool.false_eq_true, List.all_cons, z, Bool.true_and, show ¬ (1 : Int32) = 0 by decide]
          exact I
      · cases z : g q i
        · rw [z] at H
          simp only [if_true] at I
          simp only [g179_159, g179_159n, g179_162, g179_164, g179_165, g179_166, g179_169, g179_170, g179_173, g179_174, g179_175, g179_177, g179_180, g179_182, mx_isr_ref, mx_isr_null, mx_wt_nil, mx_wt_1, mx_wt_2, mx_wt_3, Option.bind_some, Option.toList_some, Option.toList_none, List.cons_append, List.nil_append, mx_nl_int, mx_nl_ref, mx_nl_null, mx_nl_none, mx_nb0, mx_nb1, mx_fb0, mx_fb1, mx_cat_int, mx_cat_ref, if_true, if_false, not_true_eq_false, not_false_eq_true, mx_wt_4, mx_w4_0, mx_w9_0, mx_w9_1, mx_kn_int, mx_kn_ref, mx_kn_null, Nat.reduceLT, ofn, n10, s0, s1, s5, hn, hk, nl_isr hn, hit, H, Bool.false_eq_true, List.any_cons, z, Bool.false_or, show ¬ (0 : Int32) = 1 by decide]
          exact I
        · rw [z] at H
          simp only [g179_159, g179_159n, g179_162, g179_164, g179_165, g179_166, g179_169, g179_170, g179_173, g179_174, mx_isr_ref, mx_isr_null, mx_wt_nil, mx_wt_1, mx_wt_2, mx_wt_3, Option.bind_some, Option.toList_some, Option.toList_none, List.cons_append, List.nil_append, mx_nl_int, mx_nl_ref, mx_nl_null, mx_nl_none, mx_nb0, mx_nb1, mx_fb0, mx_fb1, mx_cat_int, mx_cat_ref, if_true, if_false, not_true_eq_false, not_false_eq_true, mx_wt_4, mx_w4_0, mx_w9_0, mx_w9_1, mx_kn_int, mx_kn_ref, mx_kn_null, Nat.reduceLT, ofn, n10, s0, s1, hit, H, List.any_cons, z, Bool.true_or]
  have F' := Fc.ex E _ _ F
  have hn := Fc.isr F'
  have hk := isr_kn hn
  have L1 := L gs v F'
  rw [← Nat.add_assoc, g179_0 mx_isr_ref]
  cases d0
  · simp only [Bool.false_eq_true, if_false] at L1 y0
    simp only [g179_1, g179_4, g179_5, g179_45, g179_46, g179_49, g179_50, g179_105, g179_106, g179_109, g179_110, g179_138, g179_139, g179_142, g179_145, g179_146, g179_149, g179_150, g179_151, g179_152, g179_155, mx_isr_ref, mx_isr_null, mx_wt_nil, mx_wt_1, mx_wt_2, mx_wt_3, Option.bind_some, Option.toList_some, Option.toList_none, List.cons_append, List.nil_append, mx_nl_int, mx_nl_ref, mx_nl_null, mx_nl_none, mx_nb0, mx_nb1, mx_fb0, mx_fb1, mx_cat_int, mx_cat_ref, if_true, if_false, not_true_eq_false, not_false_eq_true, mx_wt_4, mx_w4_0, mx_w9_0, mx_w9_1, mx_kn_int, mx_kn_ref, mx_kn_null, Nat.reduceLT, ofn, n10, t0, t1, y0, y4, hn, hk, nl_isr hn, nl_isr hit, Bool.false_eq_true, show ¬ (1 : Int32) = 4 by decide, show ¬ (1 : Int32) = 3 by decide, show ¬ (1 : Int32) = 2 by decide, show ¬ (1 : Int32) = 0 by decide]
    exact L1
  · simp only [if_true] at L1 y0
    simp only [g179_1, g179_4, g179_5, g179_45, g179_46, g179_49, g179_50, g179_105, g179_106, g179_109, g179_110, g179_138, g179_139, g179_142, g179_145, g179_146, g179_149, g179_150, g179_151, g179_152, g179_155, mx_isr_ref, mx_isr_null, mx_wt_nil, mx_wt_1, mx_wt_2, mx_wt_3, Option.bind_some, Option.toList_some, Option.toList_none, List.cons_append, List.nil_append, mx_nl_int, mx_nl_ref, mx_nl_null, mx_nl_none, mx_nb0, mx_nb1, mx_fb0, mx_fb1, mx_cat_int, mx_cat_ref, if_true, if_false, not_true_eq_false, not_false_eq_true, mx_wt_4, mx_w4_0, mx_w9_0, mx_w9_1, mx_kn_int, mx_kn_ref, mx_kn_null, Nat.reduceLT, ofn, n10, t0, t1, y0, y4, hn, hk, nl_isr hn, nl_isr hit, show ¬ (0 : Int32) = 4 by decide, show ¬ (0 : Int32) = 3 by decide, show ¬ (0 : Int32) = 2 by decide]
    exact L1
theorem any_from (n j : Nat) (h : j ≤ n) (f : Nat → Bool) : (List.range n).any f = ((List.range j).any f || (List.range (n - j)).any fun k => f (j + k)) := by
  apply Bool.eq_iff_iff.mpr
  simp only [Bool.or_eq_true, List.any_eq_true, List.mem_range]
  constructor
  · rintro ⟨k, hk, z⟩
    rcases Nat.lt_or_ge k j with y | y
    · exact Or.inl ⟨k, y, z⟩
    · exact Or.inr ⟨k - j, by omega, by rw [show j + (k - j) = k by omega]; exact z⟩
  · rintro (⟨k, hk, z⟩ | ⟨k, hk, z⟩)
    · exact ⟨k, by omega, z⟩
    · exact ⟨j + k, by omega, z⟩
theorem Mt_item {K : Nat} {M : List Nat} {h : mx_H} {f f' : Nat} {cs : List Value} {a b : Int32} {g : prs → Option Nat → Bool} (e : h[f']? = some (.inl 10, cs ++ [.null])) (hz : fz M f') (m : Mt (K + 4) true M h f' cs g) : Mt (K + 5) false M h f [.int 3, .int a, .int b, .null, .ref f'] (fun p _ => (List.range (itn p)).any fun j => g p (some j)) := by
  intro d M' h' nx p l A cp es q it i E ef hnx P hwi
  show mx_G _ 179 0 _ [] h' = some (some (.int (if ((List.range (itn q)).any fun j => g q (some j)) = true then 1 else 0)), h')
  have ef' : h'[f]? = some (.inl 10, [.int 3, .int a, .int b, .null, .ref f', nx]) := ef
  obtain ⟨t0, t1, y0, y1, y2, y3, y4, y5⟩ := fc_f ef'
  have hit := P.it
  have ef1 := (E.at e hz).1
  have tf := ce_t ef1
  have P0 := P
  obtain ⟨C, L, I, -, hn, hb⟩ := P
  obtain ⟨tp, lp, p6, -⟩ := PC_f C
  have hr : (pit q).length ≤ 1000 := by have := L.2.2.1; have := L.2.2.2.1; have := I.1; omega
  have sz := jl_size (d := d + K + 4) L
  rw [I.1] at sz
  have Lp : ∀ n j, n + j = (pit q).length → mx_G (d + K + 5) 179 55 [some (.ref f), some (.ref p), some it, some (.int (nI j)), none] [] h' = some (some (.int (if ((List.range n).any fun k => g q (some (j + k))) = true then 1 else 0)), h') := by
    intro n
    induction n with
    | zero =>
      intro j hj
      have : j = (pit q).length := by omega
      subst this
      simp only [g179_55, g179_56, g179_59, g179_59n, g179_62, g179_63, g179_64, g179_67, g179_70, g179_103, g179_104, mx_isr_ref, mx_isr_null, mx_wt_nil, mx_wt_1, mx_wt_2, mx_wt_3, Option.bind_some, Option.toList_some, Option.toList_none, List.cons_append, List.nil_append, mx_nl_int, mx_nl_ref, mx_nl_null, mx_nl_none, mx_nb0, mx_nb1, mx_fb0, mx_fb1, mx_cat_int, mx_cat_ref, if_true, if_false, not_true_eq_false, not_false_eq_true, mx_wt_4, mx_w4_0, mx_w9_0, mx_w9_1, mx_kn_int, mx_kn_ref, mx_kn_null, Nat.reduceLT, ofn, n10, t0, t1, y4, tp, lp, p6, (AL_f L).1, sz, show nI (pit q).length ≤ nI (pit q).length from nI_le (Nat.le_refl _) (by omega)]
      rfl
    | succ n ih =>
      intro j hj
      have hjr : j < (pit q).length := by omega
      have q1 : ¬ nI (pit q).length ≤ nI j := nI_ge hjr (by omega)
      have G1 := jl_get (d := d + K + 2) L (show j < es.length by rw [I.1]; exact hjr)
      have ij := I.2 j hjr
      have te : mx_tag h' (es.getD j 0) = some (.inl 8) := by obtain ⟨c, g, a1, a2, y, -⟩ := ij; exact ce_t y
      have H := m d M' h' .null p l A cp es q (.ref (es.getD j 0)) (some j) E ef1 rfl ⟨C, L, I, Or.inr ⟨j, hjr, rfl, rfl⟩, hn, hb⟩ (by simp)
      rw [← Nat.add_assoc] at H
      rw [any_from (n + 1) 1 (by omega), show (List.range 1).any (fun k => g q (some (j + k))) = g q (some j) by simp, show n + 1 - 1 = n from rfl, g179_55 mx_isr_ref]
      have I1 := ih (j + 1) (by omega)
      simp only [show ∀ k, j + (1 + k) = j + 1 + k from fun k => by omega]
      cases z : g q (some j)
      · rw [z] at H
        rw [Bool.false_or]
        simp only [g179_56, g179_59, g179_59n, g179_62, g179_63, g179_64, g179_67, g179_70, g179_73, g179_74, g179_77, g179_78, g179_79, g179_82, g179_83, g179_86n, g179_86, g179_89, g179_92, g179_95, g179_96, g179_97, g179_100, mx_isr_ref, mx_isr_null, mx_wt_nil, mx_wt_1, mx_wt_2, mx_wt_3, Option.bind_some, Option.toList_some, Option.toList_none, List.cons_append, List.nil_append, mx_nl_int, mx_nl_ref, mx_nl_null, mx_nl_none, mx_nb0, mx_nb1, mx_fb0, mx_fb1, mx_cat_int, mx_cat_ref, if_true, if_false, not_true_eq_false, not_false_eq_true, mx_wt_4, mx_w4_0, mx_w9_0, mx_w9_1, mx_kn_int, mx_kn_ref, mx_kn_null, Nat.reduceLT, ofn, n10, t0, t1, y4, tp, lp, p6, (AL_f L).1, sz, q1, G1, te, tf, H, nI_1, nl_isr hit, Bool.false_eq_true]
        exact I1
      · rw [z] at H
        simp only [g179_56, g179_59, g179_59n, g179_62, g179_63, g179_64, g179_67, g179_70, g179_73, g179_74, g179_77, g179_78, g179_79, g179_82, g179_83, g179_86n, g179_86, g179_89, g179_92, g179_95, g179_96, mx_isr_ref, mx_isr_null, mx_wt_nil, mx_wt_1, mx_wt_2, mx_wt_3, Option.bind_some, Option.toList_some, Option.toList_none, List.cons_append, List.nil_append, mx_nl_int, mx_nl_ref, mx_nl_null, mx_nl_none, mx_nb0, mx_nb1, mx_fb0, mx_fb1, mx_cat_int, mx_cat_ref, if_true, if_false, not_true_eq_false, not_false_eq_true, mx_wt_4, mx_w4_0, mx_w9_0, mx_w9_1, mx_kn_int, mx_kn_ref, mx_kn_null, Nat.reduceLT, ofn, n10, t0, t1, y4, tp, lp, p6, (AL_f L).1, sz, q1, G1, te, tf, H, Bool.true_or]
  have L1 := Lp (itn q) 0 (by unfold itn; omega)
  simp only [Nat.zero_add] at L1
  rw [show d + (K + 5) = d + K + 5 by omega, g179_0 mx_isr_ref]
  rw [show nI 0 = 0 from rfl] at L1
  simp only [g179_1, g179_4, g179_5, g179_45, g179_46, g179_49, g179_50, g179_53, g179_54, mx_isr_ref, mx_isr_null, mx_wt_nil, mx_wt_1, mx_wt_2, mx_wt_3, Option.bind_some, Option.toList_some, Option.toList_none, List.cons_append, List.nil_append, mx_nl_int, mx_nl_ref, mx_nl_null, mx_nl_none, mx_nb0, mx_nb1, mx_fb0, mx_fb1, mx_cat_int, mx_cat_ref, if_true, if_false, not_true_eq_false, not_false_eq_true, mx_wt_4, mx_w4_0, mx_w9_0, mx_w9_1, mx_kn_int, mx_kn_ref, mx_kn_null, Nat.reduceLT, ofn, n10, t0, t1, y0, nl_isr hit, show ¬ (3 : Int32) = 4 by decide]
  exact L1
