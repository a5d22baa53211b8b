/-! applyToItemParts. -/
theorem chM_len {f : itm → itf} {r : List itm} {bs : List Bool} (hb : bs.length = r.length) : (chM f r bs).length = r.length := by
  unfold chM
  rw [List.length_zipWith]
  omega
theorem chM_G {f : itm → itf} {r : List itm} {bs : List Bool} (hb : bs.length = r.length) {i : Nat} (hi : i < r.length) : xG (chM f r bs) i = if bs.getD i false = true then f (iG r i) else (iG r i, false) := by
  unfold chM xG iG
  rw [List.getD_eq_getElem?_getD, List.getElem?_zipWith, List.getElem?_eq_getElem hi, List.getElem?_eq_getElem (show i < bs.length by omega), List.getD_eq_getElem?_getD, List.getElem?_eq_getElem (show i < bs.length by omega), List.getD_eq_getElem?_getD, List.getElem?_eq_getElem hi]
  rfl
def fPt (pt : Bool) (y : List Nat) (t : Option Bool) (x : itm) : itf := if pt = true then ((y, x.2), false) else ((x.1, t), tr1 t)
section
variable {d : Nat} {h : mx_H} {R : List Nat} {N p l A cp : Nat} {es : List Nat} {q : prs} {m : List itf} {b : List Bool}
theorem jo_ptL {o : Nat} {sg : Int32} {fv vv nx : Value} {pt : Bool} {y : List Nat} {t : Option Bool} {r : List itm} {bs : List Bool} (hbs : bs.length = r.length) {a2 a3 : Int32} : ∀ n i (h : mx_H) (l5 : Option Value), n + i = r.length → DR R N h p l A cp es q ((chM (fPt pt y t) r bs).take i ++ (mrk r).drop i) bs → OC (dM p l A es R) h o sg (if pt = true then 6 else 7) fv vv nx → OV (dM p l A es R) h vv (if pt = true then vT (some y) else vB t) →
    ∃ h', mx_G (d + 3) 186 69 [some (.ref o), some (.ref p), some (.int a2), some (.int a3), some (.int (nI i)), l5] [] h = mx_G (d + 3) 186 147 [some (.ref o), some (.ref p), some (.int a2), some (.int a3), some (.int (nI r.length)), (if n = 0 then l5 else some (.ref (es.getD (r.length - 1) 0)))] [] h' ∧ DR R N h' p l A cp es q (chM (fPt pt y t) r bs) bs ∧ SX N (dM p l A es R) h (dM p l A es R) h' ∧ mw h' = mw h := by
  have kl : (chM (fPt pt y t) r bs).length = (mrk r).length := by rw [mrk_len, chM_len hbs]
  intro n
  induction n with
  | zero =>
    intro i h l5 hi D O V
    have : i = r.length := by omega
    subst this
    have L := D.2.1
    have hl := D.2.2.1.1
    rw [mid_len kl, mrk_len] at hl
    have h1000 := L.2.2.2.1
    have hcp := L.2.2.1
    obtain ⟨tp, lp, p6, -⟩ := PC_f D.1
    have sz := jl_size (d := d + 2) L
    rw [hl] at sz
    have e1 : (chM (fPt pt y t) r bs).take r.length ++ (mrk r).drop r.length = chM (fPt pt y t) r bs := by rw [List.drop_of_length_le (by rw [mrk_len]; exact Nat.le_refl _), List.append_nil, List.take_of_length_le (by rw [chM_len hbs]; exact Nat.le_refl _)]
    rw [e1] at D
    refine ⟨h, ?_, D, SX.rfl _ _ _, rfl⟩
    rw [if_pos rfl]
    simp only [g186_69, g186_71, g186_72, g186_75, g186_78, mx_isr_ref, mx_isr_null, mx_wt_nil, mx_wt_1, mx_wt_2, mx_wt_3, Option.bind_some, Option.toList_some, Option.toList_none, List.cons_append, List.nil_append, mx_nl_int, mx_nl_ref, mx_nl_null, mx_nl_none, mx_nb0, mx_nb1, mx_fb0, mx_fb1, mx_cat_int, mx_cat_ref, if_true, if_false, not_true_eq_false, not_false_eq_true, mx_wt_4, mx_w4_0, mx_w9_0, mx_w9_1, mx_kn_int, mx_kn_ref, mx_kn_null, Nat.reduceLT, ofn, n10, tp, lp, p6, (AL_f L).1, sz, show nI r.length ≤ nI r.length from nI_le (Nat.le_refl _) (by omega)]
  | succ n ih =>
    intro i h l5 hi D O V
    have hil : i < r.length := by omega
    have hil' : i < (mrk r).length := by rw [mrk_len]; exact hil
    have L := D.2.1
    have hl := D.2.2.1.1
    rw [mid_len kl, mrk_len] at hl
    have h1000 := L.2.2.2.1
    have hcp := L.2.2.1
    obtain ⟨tp, lp, p6, -⟩ := PC_f D.1
    have sz := jl_size (d := d + 2) L
    rw [hl] at sz
    have c1 : ¬ nI r.length ≤ nI i := nI_ge hil (by omega)
    have G := jl_get (d := d) L (show i < es.length by omega)
    have J := D.2.2.1.2.2 i (by rw [mid_len kl]; exact hil')
    rw [mid_G kl hil', xG_mrk] at J
    have hm : es.getD i 0 ∈ es := gd_mem' (by omega)
    have hne := D.ne hm
    have h63 : 63 ≤ es.getD i 0 := by have := D.2.2.2.2.1; omega
    have hn63 : mt_nO ≤ es.getD i 0 := by rw [show mt_nO = 63 by decide]; exact h63
    obtain ⟨to, lo, o0, o1, o2, o3, o4⟩ := OC_f O
    obtain ⟨a1', a2', te, le, x0, x1, x2, x3, -⟩ := IC_f J
    -- one item
    obtain ⟨h1, G1, J1, F1, w1⟩ : ∃ h1, mx_G (d + 3) 186 69 [some (.ref o), some (.ref p), some (.int a2), some (.int a3), some (.int (nI i)), l5] [] h = mx_G (d + 3) 186 141 [some (.ref o), some (.ref p), some (.int a2), some (.int a3), some (.int (nI i)), some (.ref (es.getD i 0))] [] h1 ∧ IC (dM p l A es R) h1 (es.getD i 0) (some (xG (chM (fPt pt y t) r bs) i).1.1) (xG (chM (fPt pt y t) r bs) i).1.2 (bI (bs.getD i false)) (bI (xG (chM (fPt pt y t) r bs) i).2) ∧ Fr [es.getD i 0] h h1 ∧ mw h1 = mw h := by
      rw [chM_G hbs hil, g186_69]
      cases hB : bs.getD i false
      · rw [hB] at J x2
        have b1 : bI false = 0 := rfl
        rw [b1] at x2
        rw [if_neg (by decide)]
        refine ⟨h, ?_, J, Fr.rfl _ _, rfl⟩
        simp only [g186_71, g186_72, g186_75, g186_78, g186_81, g186_82, g186_85, g186_87, g186_90n, g186_90, g186_93, g186_95, g186_97, g186_100, g186_124, g186_126, g186_129, mx_isr_ref, mx_isr_null, mx_wt_nil, mx_wt_1, mx_wt_2, mx_wt_3, Option.bind_some, Option.toList_some, Option.toList_none, List.cons_append, List.nil_append, mx_nl_int, mx_nl_ref, mx_nl_null, mx_nl_none, mx_nb0, mx_nb1, mx_fb0, mx_fb1, mx_cat_int, mx_cat_ref, if_true, if_false, not_true_eq_false, not_false_eq_true, mx_wt_4, mx_w4_0, mx_w9_0, mx_w9_1, mx_kn_int, mx_kn_ref, mx_kn_null, Nat.reduceLT, ofn, n10, tp, lp, p6, (AL_f L).1, sz, c1, G, te, le, x2]
      · rw [hB] at J x2
        have b1 : bI true = 1 := rfl
        rw [b1] at x2
        rw [if_pos rfl]
        cases pt
        · simp only [Bool.false_eq_true, if_false] at o1 V
          obtain ⟨h1, k1, k2, k3, k4⟩ := jo_give (d := d + 1) J (dM_e hm) h63 V
          refine ⟨h1, ?_, k2, k3, k4⟩
          simp only [g186_71, g186_72, g186_75, g186_78, g186_81, g186_82, g186_85, g186_87, g186_90n, g186_90, g186_93, g186_95, g186_97, g186_100, g186_103, g186_104, g186_107, g186_109, g186_124, g186_126, g186_129, g186_132, g186_134, g186_135, g186_138, mx_isr_ref, mx_isr_null, mx_wt_nil, mx_wt_1, mx_wt_2, mx_wt_3, Option.bind_some, Option.toList_some, Option.toList_none, List.cons_append, List.nil_append, mx_nl_int, mx_nl_ref, mx_nl_null, mx_nl_none, mx_nb0, mx_nb1, mx_fb0, mx_fb1, mx_cat_int, mx_cat_ref, if_true, if_false, not_true_eq_false, not_false_eq_true, mx_wt_4, mx_w4_0, mx_w9_0, mx_w9_1, mx_kn_int, mx_kn_ref, mx_kn_null, Nat.reduceLT, ofn, n10, tp, lp, p6, (AL_f L).1, sz, c1, G, te, le, x2, to, lo, o1, o3, isr_kn V.isr, V.isr, k1, show ¬ (1 : Int32) = 0 by decide, show ¬ (7 : Int32) = 6 by decide]
        · simp only [if_true] at o1 V
          obtain ⟨z1, z2, ez, r1, r2⟩ := id J
          have E1 := Ex.up1 (h := h) (k := 0) (v := vv) (dM_e (p := p) (l := l) (A := A) (R := R) hm)
          refine ⟨mx_up h (es.getD i 0) 0 vv, ?_, ⟨vv, z2, by rw [c_up ez]; rfl, V.ex E1, r2.ex E1⟩, Fr.up (by simp), mw_up _ _ _ _⟩
          simp only [g186_71, g186_72, g186_75, g186_78, g186_81, g186_82, g186_85, g186_87, g186_90n, g186_90, g186_93, g186_95, g186_97, g186_100, g186_103, g186_104, g186_107, g186_109, g186_112, g186_114, g186_115, g186_118, g186_121, mx_isr_ref, mx_isr_null, mx_wt_nil, mx_wt_1, mx_wt_2, mx_wt_3, Option.bind_some, Option.toList_some, Option.toList_none, List.cons_append, List.nil_append, mx_nl_int, mx_nl_ref, mx_nl_null, mx_nl_none, mx_nb0, mx_nb1, mx_fb0, mx_fb1, mx_cat_int, mx_cat_ref, if_true, if_false, not_true_eq_false, not_false_eq_true, mx_wt_4, mx_w4_0, mx_w9_0, mx_w9_1, mx_kn_int, mx_kn_ref, mx_kn_null, Nat.reduceLT, ofn, n10, tp, lp, p6, (AL_f L).1, sz, c1, G, te, le, x2, to, lo, o1, o3, isr_kn V.isr, V.isr, hn63, show ¬ (1 : Int32) = 0 by decide, show ¬ ¬ (6 : Int32) = 6 by decide]
    obtain ⟨D1, S1⟩ := D.item (i := i) (by rw [mid_len kl]; exact hil') F1 (fun a ha => Or.inl (List.mem_singleton.mp ha)) J1
    rw [bset_self (by omega), mid_set kl hil'] at D1
    obtain ⟨h', i1, i2, i3, i4⟩ := ih (i + 1) h1 (some (.ref (es.getD i 0))) (by omega) D1 (O.ex S1.2) (V.ex S1.2)
    refine ⟨h', ?_, i2, S1.trans i3, by rw [i4, w1]⟩
    rw [G1, if_neg (by omega)]
    have e5 : (if n = 0 then some (Value.ref (es.getD i 0)) else some (.ref (es.getD (r.length - 1) 0))) = some (.ref (es.getD (r.length - 1) 0)) := by
      split
      · rename_i z; rw [show r.length - 1 = i by omega]
      · rfl
    rw [e5] at i1
    simp only [g186_141, g186_144, mx_isr_ref, mx_isr_null, mx_wt_nil, mx_wt_1, mx_wt_2, mx_wt_3, Option.bind_some, Option.toList_some, Option.toList_none, List.cons_append, List.nil_append, mx_nl_int, mx_nl_ref, mx_nl_null, mx_nl_none, mx_nb0, mx_nb1, mx_fb0, mx_fb1, mx_cat_int, mx_cat_ref, if_true, if_false, not_true_eq_false, not_false_eq_true, mx_wt_4, mx_w4_0, mx_w9_0, mx_w9_1, mx_kn_int, mx_kn_ref, mx_kn_null, Nat.reduceLT, ofn, n10, nI_1]
    exact i1
theorem any_all (l : List Bool) : l.any id = !(l.all fun b => !b) := by
  induction l with
  | nil => rfl
  | cons a l ih => rw [List.any_cons, List.all_cons, ih]; cases a <;> rfl
theorem jo_parts {ts : List tk} {n t c o part : Nat} {fv vv nx : Value} {g : prs → Option Nat → Bool} (NBt : NB ts) (D : DR R N h p l A cp es q (mrk (pit q)) (chs g q)) (h4 : (pit q).length ≤ 4) (O : OC (dM p l A es R) h o (nI c) (nI (5 + part)) fv vv nx) (hc : c < 128) (hp : part = 1 ∨ part = 2) (hvn : c = 45 → vv = .null) (hv : c ≠ 45 → ∃ v, vv = .ref v ∧ cVl ts n (dM p l A es R) h v t) :
    PO R N h p l A cp es (aCh ts c part t g q) 100 (mx_G (d + 10) 186 0 [some (.ref o), some (.ref p), some (.int (bI ((chs g q).any id))), none, none, none] [] h) := by
  obtain ⟨to, lo, o0, o1, o2, o3, o4⟩ := OC_f O
  have hcl := chs_len g q
  have hcp := D.2.1.2.2.2.1
  have err : ∀ (e : Int), e ≠ 0 → mx_G (d + 10) 186 0 [some (.ref o), some (.ref p), some (.int (bI ((chs g q).any id))), none, none, none] [] h = some (some (.int (Int32.ofInt e)), h) → PO R N h p l A cp es (e, q) 100 (mx_G (d + 10) 186 0 [some (.ref o), some (.ref p), some (.int (bI ((chs g q).any id))), none, none, none] [] h) := fun e he hG => PO.err (res := (e, q)) hG he (FrN.rfl _ _) (by omega)
  have fin_ : ∀ (pt : Bool) (y : List Nat) (tt : Option Bool) (a3 : Int32), (nI (5 + part) : Int32) = (if pt = true then 6 else 7) → OV (dM p l A es R) h vv (if pt = true then vT (some y) else vB tt) → mx_G (d + 10) 186 0 [some (.ref o), some (.ref p), some (.int (bI ((chs g q).any id))), none, none, none] [] h = mx_G (d + 10) 186 69 [some (.ref o), some (.ref p), some (.int (bI ((chs g q).any id))), some (.int a3), some (.int (nI 0)), none] [] h → PO R N h p l A cp es (fin q (chM (fPt pt y tt) (pit q) (chs g q))) 100 (mx_G (d + 10) 186 0 [some (.ref o), some (.ref p), some (.int (bI ((chs g q).any id))), none, none, none] [] h) := by
    intro pt y tt a3 ha V hG
    rw [ha] at O
    obtain ⟨h1, k1, k2, k3, k4⟩ := jo_ptL (d := d + 7) hcl (a2 := bI ((chs g q).any id)) (a3 := a3) (pit q).length 0 h none (by omega) D O V
    have tp1 := (PC_f k2.1).1
    have PF := PO_fin (d := d + 2) (G := mx_G (d + 10) 186 0 [some (.ref o), some (.ref p), some (.int (bI ((chs g q).any id))), none, none, none] [] h) k2 (by rw [chM_len hcl]; exact h4) (fun h' v' z => by
      rw [hG, k1]
      split <;> simp only [g186_147, g186_148, g186_151, mx_isr_ref, mx_isr_null, mx_wt_nil, mx_wt_1, mx_wt_2, mx_wt_3, Option.bind_some, Option.toList_some, Option.toList_none, List.cons_append, List.nil_append, mx_nl_int, mx_nl_ref, mx_nl_null, mx_nl_none, mx_nb0, mx_nb1, mx_fb0, mx_fb1, mx_cat_int, mx_cat_ref, if_true, if_false, not_true_eq_false, not_false_eq_true, mx_wt_4, mx_w4_0, mx_w9_0, mx_w9_1, mx_kn_int, mx_kn_ref, mx_kn_null, Nat.reduceLT, ofn, n10, tp1, z])
    exact (PO.pre PF k3 (k1 := 0) (by omega) (fun v h' z => z)).mono (by decide)
  have n6 : nI (5 + part) = if part = 1 then 6 else 7 := by rcases hp with rfl | rfl <;> rfl
  unfold aCh
  have p0 : ¬ part = 0 := by omega
  by_cases c45 : c = 45
  · subst c45
    rw [show nI 45 = 45 from rfl] at o0
    rcases hp with rfl | rfl
    · rw [if_pos ⟨rfl, rfl⟩]
      refine err _ (by decide) ?_
      rw [show nI (5 + 1) = 6 from rfl] at o1
      simp only [g186_0, g186_1, g186_4, g186_6, g186_9, g186_10, g186_13, g186_14, g186_15, g186_16, g186_19, g186_20, g186_23, g186_25, g186_28, g186_31, mx_isr_ref, mx_isr_null, mx_wt_nil, mx_wt_1, mx_wt_2, mx_wt_3, Option.bind_some, Option.toList_some, Option.toList_none, List.cons_append, List.nil_append, mx_nl_int, mx_nl_ref, mx_nl_null, mx_nl_none, mx_nb0, mx_nb1, mx_fb0, mx_fb1, mx_cat_int, mx_cat_ref, if_true, if_false, not_true_eq_false, not_false_eq_true, mx_wt_4, mx_w4_0, mx_w9_0, mx_w9_1, mx_kn_int, mx_kn_ref, mx_kn_null, Nat.reduceLT, ofn, n10, to, lo, o0, o1, show ¬ (1 : Int32) = 0 by decide, show ¬ ¬ (45 : Int32) = 45 by decide, show ¬ ¬ (6 : Int32) = 6 by decide]
      rfl
    · rw [if_neg (by decide), if_neg (by decide), if_neg (fun z => z.1 rfl), if_neg (by decide), if_pos rfl, if_pos rfl]
      have := fin_ false [] none 1 rfl (by rw [hvn rfl]; exact rfl) (by
        rw [show nI (5 + 2) = 7 from rfl] at o1
        simp only [g186_0, g186_1, g186_4, g186_6, g186_9, g186_10, g186_13, g186_14, g186_15, g186_16, g186_19, g186_20, g186_23, g186_25, g186_28, g186_32, g186_33, g186_44, g186_45, g186_66, g186_67, mx_isr_ref, mx_isr_null, mx_wt_nil, mx_wt_1, mx_wt_2, mx_wt_3, Option.bind_some, Option.toList_some, Option.toList_none, List.cons_append, List.nil_append, mx_nl_int, mx_nl_ref, mx_nl_null, mx_nl_none, mx_nb0, mx_nb1, mx_fb0, mx_fb1, mx_cat_int, mx_cat_ref, if_true, if_false, not_true_eq_false, not_false_eq_true, mx_wt_4, mx_w4_0, mx_w9_0, mx_w9_1, mx_kn_int, mx_kn_ref, mx_kn_null, Nat.reduceLT, ofn, n10, to, lo, o0, o1, show ¬ (1 : Int32) = 0 by decide, show ¬ ¬ (45 : Int32) = 45 by decide, show ¬ (7 : Int32) = 6 by decide, nI_0])
      exact this
  · have n45 : ¬ nI c = 45 := fun z => c45 ((nI_eq (b := 45) (by omega) (by decide)).mp z)
    rw [if_neg (fun z => c45 z.1), if_neg (fun z => c45 z.1)]
    have ea := any_all (chs g q)
    by_cases hno : (chs g q).all (fun b => !b) = true
    · rw [if_pos ⟨c45, hno⟩]
      rw [hno] at ea
      rw [ea] at err ⊢
      refine err _ (by decide) ?_
      rw [show bI (!true) = 0 from rfl]
      simp only [g186_0, g186_1, g186_4, g186_6, g186_13, g186_14, g186_15, g186_16, g186_32, g186_33, g186_36, g186_37, g186_40, g186_43, mx_isr_ref, mx_isr_null, mx_wt_nil, mx_wt_1, mx_wt_2, mx_wt_3, Option.bind_some, Option.toList_some, Option.toList_none, List.cons_append, List.nil_append, mx_nl_int, mx_nl_ref, mx_nl_null, mx_nl_none, mx_nb0, mx_nb1, mx_fb0, mx_fb1, mx_cat_int, mx_cat_ref, if_true, if_false, not_true_eq_false, not_false_eq_true, mx_wt_4, mx_w4_0, mx_w9_0, mx_w9_1, mx_kn_int, mx_kn_ref, mx_kn_null, Nat.reduceLT, ofn, n10, to, lo, o0, n45, show ¬ ¬ (0 : Int32) = 0 by decide]
      rfl
    · rw [if_neg (fun z => hno z.2)]
      rw [show (chs g q).all (fun b => !b) = false by simpa using hno] at ea
      rw [ea] at err fin_ ⊢
      rw [show bI (!false) = 1 from rfl] at err fin_ ⊢
      obtain ⟨v, rfl, V⟩ := hv c45
      obtain ⟨num, VC1, hk5⟩ := cVl_vc V
      have FI := ja_fits (d := d + 7) D.2.2.2.2.2.2 VC1 hk5 (at_ := 5 + part) (by omega)
      rcases hp with rfl | rfl
      · rw [if_pos rfl]
        rw [show kdA (5 + 1) = 2 from rfl] at FI
        have iff := vk_2 V
        by_cases hf : ftx ts t = true
        · rw [if_pos (iff.mpr hf)] at FI
          rw [if_pos hf]
          have hs2 : sc ts t = 2 := by unfold ftx at hf; rw [decide_eq_true_eq] at hf; exact hf.1
          have OVv := cVl_ov V (NBt t) (by omega)
          rw [pk_ty.2.1 hs2] at OVv
          refine fin_ true (tx ts t) none 0 rfl OVv ?_
          rw [show nI (5 + 1) = 6 from rfl] at o1 FI
          simp only [g186_0, g186_1, g186_4, g186_6, g186_13, g186_14, g186_15, g186_16, g186_32, g186_33, g186_36, g186_37, g186_44, g186_45, g186_48, g186_49, g186_52, g186_53, g186_56, g186_59, g186_66, g186_67, mx_isr_ref, mx_isr_null, mx_wt_nil, mx_wt_1, mx_wt_2, mx_wt_3, Option.bind_some, Option.toList_some, Option.toList_none, List.cons_append, List.nil_append, mx_nl_int, mx_nl_ref, mx_nl_null, mx_nl_none, mx_nb0, mx_nb1, mx_fb0, mx_fb1, mx_cat_int, mx_cat_ref, if_true, if_false, not_true_eq_false, not_false_eq_true, mx_wt_4, mx_w4_0, mx_w9_0, mx_w9_1, mx_kn_int, mx_kn_ref, mx_kn_null, Nat.reduceLT, ofn, n10, to, lo, o0, o1, o3, n45, FI, show ¬ (1 : Int32) = 0 by decide, nI_0]
        · rw [if_neg (fun z => hf (iff.mp z))] at FI
          rw [if_neg hf]
          refine err _ (by decide) ?_
          rw [show nI (5 + 1) = 6 from rfl] at o1 FI
          simp only [g186_0, g186_1, g186_4, g186_6, g186_13, g186_14, g186_15, g186_16, g186_32, g186_33, g186_36, g186_37, g186_44, g186_45, g186_48, g186_49, g186_52, g186_53, g186_56, g186_59, g186_62, g186_65, mx_isr_ref, mx_isr_null, mx_wt_nil, mx_wt_1, mx_wt_2, mx_wt_3, Option.bind_some, Option.toList_some, Option.toList_none, List.cons_append, List.nil_append, mx_nl_int, mx_nl_ref, mx_nl_null, mx_nl_none, mx_nb0, mx_nb1, mx_fb0, mx_fb1, mx_cat_int, mx_cat_ref, if_true, if_false, not_true_eq_false, not_false_eq_true, mx_wt_4, mx_w4_0, mx_w9_0, mx_w9_1, mx_kn_int, mx_kn_ref, mx_kn_null, Nat.reduceLT, ofn, n10, to, lo, o0, o1, o3, n45, FI, show ¬ (1 : Int32) = 0 by decide, show ¬ ¬ (0 : Int32) = 0 by decide]
          rfl
      · rw [if_neg (by decide), if_pos rfl, if_neg c45]
        rw [show kdA (5 + 2) = 0 from rfl] at FI
        have iff := vk_0 V
        by_cases hf : sc ts t = 3
        · rw [if_pos (iff.mpr hf)] at FI
          rw [if_pos hf]
          have OVv := cVl_ov V (NBt t) (by omega)
          rw [pk_ty.2.2 hf] at OVv
          have e1 : (fun x : itm => ((x.1, some (tb ts t)), tb ts t)) = fPt false [] (some (tb ts t)) := by
            funext x
            unfold fPt tr1
            cases tb ts t <;> rfl
          rw [e1]
          refine fin_ false [] (some (tb ts t)) 0 rfl OVv ?_
          rw [show nI (5 + 2) = 7 from rfl] at o1 FI
          simp only [g186_0, g186_1, g186_4, g186_6, g186_13, g186_14, g186_15, g186_16, g186_32, g186_33, g186_36, g186_37, g186_44, g186_45, g186_48, g186_49, g186_52, g186_53, g186_56, g186_59, g186_66, g186_67, mx_isr_ref, mx_isr_null, mx_wt_nil, mx_wt_1, mx_wt_2, mx_wt_3, Option.bind_some, Option.toList_some, Option.toList_none, List.cons_append, List.nil_append, mx_nl_int, mx_nl_ref, mx_nl_null, mx_nl_none, mx_nb0, mx_nb1, mx_fb0, mx_fb1, mx_cat_int, mx_cat_ref, if_true, if_false, not_true_eq_false, not_false_eq_true, mx_wt_4, mx_w4_0, mx_w9_0, mx_w9_1, mx_kn_int, mx_kn_ref, mx_kn_null, Nat.reduceLT, ofn, n10, to, lo, o0, o1, o3, n45, FI, show ¬ (1 : Int32) = 0 by decide, nI_0]
        · rw [if_neg (fun z => hf (iff.mp z))] at FI
          rw [if_neg hf]
          refine err _ (by decide) ?_
          rw [show nI (5 + 2) = 7 from rfl] at o1 FI
          simp only [g186_0, g186_1, g186_4, g186_6, g186_13, g186_14, g186_15, g186_16, g186_32, g186_33, g186_36, g186_37, g186_44, g186_45, g186_48, g186_49, g186_52, g186_53, g186_56, g186_59, g186_62, g186_65, mx_isr_ref, mx_isr_null, mx_wt_nil, mx_wt_1, mx_wt_2, mx_wt_3, Option.bind_some, Option.toList_some, Option.toList_none, List.cons_append, List.nil_append, mx_nl_int, mx_nl_ref, mx_nl_null, mx_nl_none, mx_nb0, mx_nb1, mx_fb0, mx_fb1, mx_cat_int, mx_cat_ref, if_true, if_false, not_true_eq_false, not_false_eq_true, mx_wt_4, mx_w4_0, mx_w9_0, mx_w9_1, mx_kn_int, mx_kn_ref, mx_kn_null, Nat.reduceLT, ofn, n10, to, lo, o0, o1, o3, n45, FI, show ¬ (1 : Int32) = 0 by decide, show ¬ ¬ (0 : Int32) = 0 by decide]
          rfl
end
