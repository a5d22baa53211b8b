/-! applyToItems. -/
def fIt (e : Bool) (v : Option (List Nat)) (w : Option Bool) (x : itm) : itf := if e = true then ((v.getD [], w), tr1 w) else gai (x, false) v w
section
variable {d : Nat} {h : mx_H} {R : List Nat} {N p l A cp : Nat} {es : List Nat} {q : prs} {m : List itf} {b : List Bool}
theorem IC.frz {M M' : List Nat} {h' : mx_H} {e : Nat} {v : Option (List Nat)} {w : Option Bool} {c g : Int32} (I : IC M h e v w c g) (hz : fz M e) (x : Ex M h M' h') : IC M' h' e v w c g ∧ fz M' e := ⟨I.ex x (x.2 _ I.tag.2 hz).1, (x.2 _ I.tag.2 hz).2⟩
theorem jo_itL {o s : Nat} {c : Nat} {at_ : Int32} {fv vv nx : Value} {v : Option (List Nat)} {w : Option Bool} {r : List itm} {bs : List Bool} (hbs : bs.length = r.length) (hc : c < 128) (hv : c = 61 → v ≠ none) {a2 : Int32} : ∀ n i (h : mx_H) (l5 : Option Value), n + i = r.length → DR R N h p l A cp es q ((chM (fIt (decide (c = 61)) v w) r bs).take i ++ (mrk r).drop i) bs → OC (dM p l A es R) h o (nI c) at_ fv vv nx → IC (dM p l A es R) h s v w 0 0 → fz (dM p l A es R) s →
    ∃ h', mx_G (d + 4) 190 65 [some (.ref o), some (.ref p), some (.int a2), some (.ref s), some (.int (nI i)), l5] [] h = mx_G (d + 4) 190 137 [some (.ref o), some (.ref p), some (.int a2), some (.ref s), some (.int (nI r.length)), (if n = 0 then l5 else some (.ref (es.getD (r.length - 1) 0)))] [] h' ∧ DR R N h' p l A cp es q (chM (fIt (decide (c = 61)) v w) r bs) bs ∧ SX N (dM p l A es R) h (dM p l A es R) h' ∧ mw h' = mw h := by
  have kl : (chM (fIt (decide (c = 61)) v w) r bs).length = (mrk r).length := by rw [mrk_len, chM_len hbs]
  intro n
  induction n with
  | zero =>
    intro i h l5 hi D O J2 z2
    have : i = r.length := by omega
    subst this
    have L := D.2.1
    have hl := D.2.2.1.1
    rw [mid_len kl, mrk_len] at hl
    have h1000 := L.2.2.2.1
    have hcp := L.2.2.1
    obtain ⟨tp, lp, p6, -⟩ := PC_f D.1
    have sz := jl_size (d := d + 3) L
    rw [hl] at sz
    have e1 : (chM (fIt (decide (c = 61)) v w) r bs).take r.length ++ (mrk r).drop r.length = chM (fIt (decide (c = 61)) v w) r bs := by rw [List.drop_of_length_le (by rw [mrk_len]; exact Nat.le_refl _), List.append_nil, List.take_of_length_le (by rw [chM_len hbs]; exact Nat.le_refl _)]
    rw [e1] at D
    refine ⟨h, ?_, D, SX.rfl _ _ _, rfl⟩
    rw [if_pos rfl]
    simp only [g190_65, g190_67, g190_68, g190_71, g190_74, mx_isr_ref, mx_isr_null, mx_wt_nil, mx_wt_1, mx_wt_2, mx_wt_3, Option.bind_some, Option.toList_some, Option.toList_none, List.cons_append, List.nil_append, mx_nl_int, mx_nl_ref, mx_nl_null, mx_nl_none, mx_nb0, mx_nb1, mx_fb0, mx_fb1, mx_cat_int, mx_cat_ref, if_true, if_false, not_true_eq_false, not_false_eq_true, mx_wt_4, mx_w4_0, mx_w9_0, mx_w9_1, mx_kn_int, mx_kn_ref, mx_kn_null, Nat.reduceLT, ofn, n10, tp, lp, p6, (AL_f L).1, sz, show nI r.length ≤ nI r.length from nI_le (Nat.le_refl _) (by omega)]
  | succ n ih =>
    intro i h l5 hi D O J2 z2
    have hil : i < r.length := by omega
    have hil' : i < (mrk r).length := by rw [mrk_len]; exact hil
    have L := D.2.1
    have hl := D.2.2.1.1
    rw [mid_len kl, mrk_len] at hl
    have h1000 := L.2.2.2.1
    have hcp := L.2.2.1
    obtain ⟨tp, lp, p6, -⟩ := PC_f D.1
    have sz := jl_size (d := d + 3) L
    rw [hl] at sz
    have c1 : ¬ nI r.length ≤ nI i := nI_ge hil (by omega)
    have G := jl_get (d := d + 1) L (show i < es.length by omega)
    have J := D.2.2.1.2.2 i (by rw [mid_len kl]; exact hil')
    rw [mid_G kl hil', xG_mrk] at J
    have hm : es.getD i 0 ∈ es := gd_mem' (by omega)
    have hne := D.ne hm
    have h63 : 63 ≤ es.getD i 0 := by have := D.2.2.2.2.1; omega
    have sne : s ≠ es.getD i 0 := fun z => z2.2 (by rw [z]; exact dM_e hm)
    obtain ⟨to, lo, o0, o1, o2, o3, o4⟩ := OC_f O
    obtain ⟨a1', a2', te, le, x0, x1, x2, x3, -⟩ := IC_f J
    -- one item
    obtain ⟨h1, G1, J1, F1, w1⟩ : ∃ h1, mx_G (d + 4) 190 65 [some (.ref o), some (.ref p), some (.int a2), some (.ref s), some (.int (nI i)), l5] [] h = mx_G (d + 4) 190 131 [some (.ref o), some (.ref p), some (.int a2), some (.ref s), some (.int (nI i)), some (.ref (es.getD i 0))] [] h1 ∧ IC (dM p l A es R) h1 (es.getD i 0) (some (xG (chM (fIt (decide (c = 61)) v w) r bs) i).1.1) (xG (chM (fIt (decide (c = 61)) v w) r bs) i).1.2 (bI (bs.getD i false)) (bI (xG (chM (fIt (decide (c = 61)) v w) r bs) i).2) ∧ Fr [es.getD i 0] h h1 ∧ mw h1 = mw h := by
      rw [chM_G hbs hil, g190_65]
      cases hB : bs.getD i false
      · rw [hB] at J x2
        have b1 : bI false = 0 := rfl
        rw [b1] at x2
        rw [if_neg (by decide)]
        refine ⟨h, ?_, J, Fr.rfl _ _, rfl⟩
        simp only [g190_67, g190_68, g190_71, g190_74, g190_77, g190_78, g190_81, g190_83, g190_86n, g190_86, g190_89, g190_91, g190_93, g190_96, g190_117, g190_119, g190_122, mx_isr_ref, mx_isr_null, mx_wt_nil, mx_wt_1, mx_wt_2, mx_wt_3, Option.bind_some, Option.toList_some, Option.toList_none, List.cons_append, List.nil_append, mx_nl_int, mx_nl_ref, mx_nl_null, mx_nl_none, mx_nb0, mx_nb1, mx_fb0, mx_fb1, mx_cat_int, mx_cat_ref, if_true, if_false, not_true_eq_false, not_false_eq_true, mx_wt_4, mx_w4_0, mx_w9_0, mx_w9_1, mx_kn_int, mx_kn_ref, mx_kn_null, Nat.reduceLT, ofn, n10, tp, lp, p6, (AL_f L).1, sz, c1, G, te, le, x2]
      · rw [hB] at J x2
        have b1 : bI true = 1 := rfl
        rw [b1] at x2
        rw [if_pos rfl]
        by_cases c61 : c = 61
        · subst c61
          rw [show nI 61 = 61 from rfl] at o0
          rw [show decide ((61 : Nat) = 61) = true from rfl]
          obtain ⟨h1, k1, k2, k3, k4⟩ := jo_become (d := d + 1) J (dM_e hm) h63 J2 sne
          refine ⟨h1, ?_, ?_, k3, k4⟩
          · simp only [g190_67, g190_68, g190_71, g190_74, g190_77, g190_78, g190_81, g190_83, g190_86n, g190_86, g190_89, g190_91, g190_93, g190_96, g190_99, g190_100, g190_103, g190_105, g190_108, g190_110, g190_111, g190_114, mx_isr_ref, mx_isr_null, mx_wt_nil, mx_wt_1, mx_wt_2, mx_wt_3, Option.bind_some, Option.toList_some, Option.toList_none, List.cons_append, List.nil_append, mx_nl_int, mx_nl_ref, mx_nl_null, mx_nl_none, mx_nb0, mx_nb1, mx_fb0, mx_fb1, mx_cat_int, mx_cat_ref, if_true, if_false, not_true_eq_false, not_false_eq_true, mx_wt_4, mx_w4_0, mx_w9_0, mx_w9_1, mx_kn_int, mx_kn_ref, mx_kn_null, Nat.reduceLT, ofn, n10, tp, lp, p6, (AL_f L).1, sz, c1, G, te, le, x2, to, lo, o0, J2.tag.1, k1, show ¬ (1 : Int32) = 0 by decide, show ¬ ¬ (61 : Int32) = 61 by decide]
          · cases hvv : v with
            | none => exact absurd hvv (hv rfl)
            | some t => rw [hvv] at k2; exact k2
        · have n61 : ¬ nI c = 61 := fun z => c61 ((nI_eq (b := 61) (by omega) (by decide)).mp z)
          rw [show decide (c = 61) = false by simpa using c61]
          obtain ⟨h1, k1, k2, k3, k4⟩ := jo_gain (d := d + 1) (x := (iG r i, false)) J (dM_e hm) h63 J2 sne
          refine ⟨h1, ?_, k2, k3, k4⟩
          simp only [g190_67, g190_68, g190_71, g190_74, g190_77, g190_78, g190_81, g190_83, g190_86n, g190_86, g190_89, g190_91, g190_93, g190_96, g190_99, g190_100, g190_103, g190_105, g190_117, g190_119, g190_122, g190_125, g190_127, g190_128, mx_isr_ref, mx_isr_null, mx_wt_nil, mx_wt_1, mx_wt_2, mx_wt_3, Option.bind_some, Option.toList_some, Option.toList_none, List.cons_append, List.nil_append, mx_nl_int, mx_nl_ref, mx_nl_null, mx_nl_none, mx_nb0, mx_nb1, mx_fb0, mx_fb1, mx_cat_int, mx_cat_ref, if_true, if_false, not_true_eq_false, not_false_eq_true, mx_wt_4, mx_w4_0, mx_w9_0, mx_w9_1, mx_kn_int, mx_kn_ref, mx_kn_null, Nat.reduceLT, ofn, n10, tp, lp, p6, (AL_f L).1, sz, c1, G, te, le, x2, to, lo, o0, n61, J2.tag.1, k1, show ¬ (1 : Int32) = 0 by decide]
    obtain ⟨D1, S1⟩ := D.item (i := i) (by rw [mid_len kl]; exact hil') F1 (fun a ha => Or.inl (List.mem_singleton.mp ha)) J1
    rw [bset_self (by omega), mid_set kl hil'] at D1
    obtain ⟨J3, z3⟩ := J2.frz z2 S1.2
    obtain ⟨h', i1, i2, i3, i4⟩ := ih (i + 1) h1 (some (.ref (es.getD i 0))) (by omega) D1 (O.ex S1.2) J3 z3
    refine ⟨h', ?_, i2, S1.trans i3, by rw [i4, w1]⟩
    rw [G1, if_neg (by omega)]
    have e5 : (if n = 0 then some (Value.ref (es.getD i 0)) else some (.ref (es.getD (r.length - 1) 0))) = some (.ref (es.getD (r.length - 1) 0)) := by
      split
      · rename_i z; rw [show r.length - 1 = i by omega]
      · rfl
    rw [e5] at i1
    simp only [g190_131, g190_134, mx_isr_ref, mx_isr_null, mx_wt_nil, mx_wt_1, mx_wt_2, mx_wt_3, Option.bind_some, Option.toList_some, Option.toList_none, List.cons_append, List.nil_append, mx_nl_int, mx_nl_ref, mx_nl_null, mx_nl_none, mx_nb0, mx_nb1, mx_fb0, mx_fb1, mx_cat_int, mx_cat_ref, if_true, if_false, not_true_eq_false, not_false_eq_true, mx_wt_4, mx_w4_0, mx_w9_0, mx_w9_1, mx_kn_int, mx_kn_ref, mx_kn_null, Nat.reduceLT, ofn, n10, nI_1]
    exact i1
theorem jo_items {ts : List tk} {n t c o : Nat} {at_ : Int32} {fv vv nx : Value} {g : prs → Option Nat → Bool} (D : DR R N h p l A cp es q (mrk (pit q)) (chs g q)) (h4 : (pit q).length ≤ 4) (O : OC (dM p l A es R) h o (nI c) at_ fv vv nx) (hc : c < 128) (hvi : mx_isr vv = true) (hv : c ≠ 45 → ∃ v, vv = .ref v ∧ cVl ts n (dM p l A es R) h v t) :
    PO R N h p l A cp es (aCh ts c 0 t g q) 100 (mx_G (d + 10) 190 0 [some (.ref o), some (.ref p), some (.int (bI ((chs g q).any id))), none, none, none] [] h) := by
  obtain ⟨to, lo, o0, o1, o2, o3, o4⟩ := OC_f O
  have hcl := chs_len g q
  have hcp := D.2.1.2.2.2.1
  have tp := (PC_f D.1).1
  unfold aCh
  by_cases c45 : c = 45
  · subst c45
    rw [show nI 45 = 45 from rfl] at o0
    rw [if_neg (by decide), if_pos ⟨rfl, rfl⟩]
    obtain ⟨h1, es', b', k1, k2, k3, k4⟩ := jo_drop (d := d + 6) D
    refine PO.ok (h' := h1) (A' := A) (cp' := cp) (es' := es') (b' := b') ?_ k2 k3 (by omega)
    simp only [g190_0, g190_1, g190_4, g190_6, g190_16, g190_17, g190_20, g190_21, mx_isr_ref, mx_isr_null, mx_wt_nil, mx_wt_1, mx_wt_2, mx_wt_3, Option.bind_some, Option.toList_some, Option.toList_none, List.cons_append, List.nil_append, mx_nl_int, mx_nl_ref, mx_nl_null, mx_nl_none, mx_nb0, mx_nb1, mx_fb0, mx_fb1, mx_cat_int, mx_cat_ref, if_true, if_false, not_true_eq_false, not_false_eq_true, mx_wt_4, mx_w4_0, mx_w9_0, mx_w9_1, mx_kn_int, mx_kn_ref, mx_kn_null, Nat.reduceLT, ofn, n10, to, lo, o0, tp, k1]
    rfl
  · have n45 : ¬ nI c = 45 := fun z => c45 ((nI_eq (b := 45) (by omega) (by decide)).mp z)
    rw [if_neg (fun z => c45 z.1), if_neg (fun z => c45 z.1)]
    obtain ⟨v, rfl, V⟩ := hv c45
    have ea := any_all (chs g q)
    have hN := D.2.2.2.2.1
    by_cases hno : (chs g q).all (fun b => !b) = true
    · rw [if_pos ⟨c45, hno⟩]
      rw [hno] at ea
      rw [ea]
      rw [show bI (!true) = 0 from rfl]
      refine PO.err (h' := h) ?_ (show (-403 : Int) ≠ 0 by decide) (FrN.rfl _ _) (by omega)
      simp only [g190_0, g190_1, g190_4, g190_6, g190_9, g190_10, g190_13, g190_13n, g190_22, g190_23, g190_26, g190_29, mx_isr_ref, mx_isr_null, mx_wt_nil, mx_wt_1, mx_wt_2, mx_wt_3, Option.bind_some, Option.toList_some, Option.toList_none, List.cons_append, List.nil_append, mx_nl_int, mx_nl_ref, mx_nl_null, mx_nl_none, mx_nb0, mx_nb1, mx_fb0, mx_fb1, mx_cat_int, mx_cat_ref, if_true, if_false, not_true_eq_false, not_false_eq_true, mx_wt_4, mx_w4_0, mx_w9_0, mx_w9_1, mx_kn_int, mx_kn_ref, mx_kn_null, Nat.reduceLT, ofn, n10, to, lo, o0, o3, n45, show ¬ ¬ (0 : Int32) = 0 by decide]
      rfl
    · rw [if_neg (fun z => hno z.2)]
      rw [show (chs g q).all (fun b => !b) = false by simpa using hno] at ea
      rw [ea]
      rw [show bI (!false) = 1 from rfl]
      rw [if_neg (by decide), if_neg (by decide)]
      obtain ⟨W1, W2⟩ := ji_from (d := d + 6) D.2.2.2.2.2.2 (by omega) V
      cases hO : iO ts t with
      | none =>
        obtain ⟨h1, k1, k2, k3⟩ := W2 hO
        refine PO.err (h' := h1) ?_ (show (-401 : Int) ≠ 0 by decide) (D.new k2).2.1 (by omega)
        simp only [g190_0, g190_1, g190_4, g190_6, g190_9, g190_10, g190_13, g190_13n, g190_22, g190_23, g190_30, g190_31, g190_34, g190_37, g190_38, g190_39, g190_39n, g190_39n, g190_58, g190_61, mx_isr_ref, mx_isr_null, mx_wt_nil, mx_wt_1, mx_wt_2, mx_wt_3, Option.bind_some, Option.toList_some, Option.toList_none, List.cons_append, List.nil_append, mx_nl_int, mx_nl_ref, mx_nl_null, mx_nl_none, mx_nb0, mx_nb1, mx_fb0, mx_fb1, mx_cat_int, mx_cat_ref, if_true, if_false, not_true_eq_false, not_false_eq_true, mx_wt_4, mx_w4_0, mx_w9_0, mx_w9_1, mx_kn_int, mx_kn_ref, mx_kn_null, Nat.reduceLT, ofn, n10, to, lo, o0, o3, n45, k1, show ¬ (1 : Int32) = 0 by decide]
        rfl
      | some z =>
        obtain ⟨h1, k1, J1, k3, k4, k5⟩ := W1 z hO
        obtain ⟨D1, S1⟩ := D.new k3
        have rb := D.rb
        have fzN : fz (dM p l A es R) h.length := ⟨by omega, fun y => by have := (rb _ y).2; omega⟩
        have J2 : IC (dM p l A es R) h1 h.length z.1 z.2 0 0 := J1.ex (Ex.sub h1 (fun a ha => List.mem_cons_of_mem _ ha)) rfl
        obtain ⟨to1, lo1, o01, -⟩ := OC_f (O.ex S1.2)
        obtain ⟨y1, y2, tz, lz, zx0, zx1, -, -, zo1, zo2⟩ := IC_f J2
        have fin_ : (c = 61 → z.1 ≠ none) → mx_G (d + 10) 190 0 [some (.ref o), some (.ref p), some (.int 1), none, none, none] [] h = mx_G (d + 10) 190 65 [some (.ref o), some (.ref p), some (.int 1), some (.ref h.length), some (.int (nI 0)), none] [] h1 → PO R N h p l A cp es (fin q (chM (fIt (decide (c = 61)) z.1 z.2) (pit q) (chs g q))) 100 (mx_G (d + 10) 190 0 [some (.ref o), some (.ref p), some (.int 1), none, none, none] [] h) := by
          intro hz hG
          obtain ⟨h2, j1, j2, j3, j4⟩ := jo_itL (d := d + 6) (a2 := 1) hcl hc hz (pit q).length 0 h1 none (by omega) D1 (O.ex S1.2) J2 fzN
          have tp2 := (PC_f j2.1).1
          have PF := PO_fin (d := d + 2) (G := mx_G (d + 10) 190 0 [some (.ref o), some (.ref p), some (.int 1), none, none, none] [] h) j2 (by rw [chM_len hcl]; exact h4) (fun h' v' y => by
            rw [hG, j1]
            split <;> simp only [g190_137, g190_138, g190_141, mx_isr_ref, mx_isr_null, mx_wt_nil, mx_wt_1, mx_wt_2, mx_wt_3, Option.bind_some, Option.toList_some, Option.toList_none, List.cons_append, List.nil_append, mx_nl_int, mx_nl_ref, mx_nl_null, mx_nl_none, mx_nb0, mx_nb1, mx_fb0, mx_fb1, mx_cat_int, mx_cat_ref, if_true, if_false, not_true_eq_false, not_false_eq_true, mx_wt_4, mx_w4_0, mx_w9_0, mx_w9_1, mx_kn_int, mx_kn_ref, mx_kn_null, Nat.reduceLT, ofn, n10, tp2, y])
          exact (PO.pre PF (S1.trans j3) (k1 := 16) (by omega) (fun v h' y => y)).mono (by decide)
        simp only
        by_cases c61 : c = 61
        · rw [if_pos c61]
          have c61' := c61
          subst c61'
          rw [show nI 61 = 61 from rfl] at o0 o01
          cases hz : z.1 with
          | none =>
            rw [hz] at zo1
            rw [show y1 = .null from zo1] at zx0
            refine PO.err (h' := h1) ?_ (show (-401 : Int) ≠ 0 by decide) S1.1 (by omega)
            simp only [g190_0, g190_1, g190_4, g190_6, g190_9, g190_10, g190_13, g190_13n, g190_22, g190_23, g190_30, g190_31, g190_34, g190_37, g190_38, g190_39, g190_39n, g190_42, g190_43, g190_46, g190_48, g190_51, g190_52, g190_55, g190_55n, g190_55n, g190_58, g190_61, mx_isr_ref, mx_isr_null, mx_wt_nil, mx_wt_1, mx_wt_2, mx_wt_3, Option.bind_some, Option.toList_some, Option.toList_none, List.cons_append, List.nil_append, mx_nl_int, mx_nl_ref, mx_nl_null, mx_nl_none, mx_nb0, mx_nb1, mx_fb0, mx_fb1, mx_cat_int, mx_cat_ref, if_true, if_false, not_true_eq_false, not_false_eq_true, mx_wt_4, mx_w4_0, mx_w9_0, mx_w9_1, mx_kn_int, mx_kn_ref, mx_kn_null, Nat.reduceLT, ofn, n10, to, lo, o0, o3, k1, to1, lo1, o01, tz, lz, zx0, show ¬ (1 : Int32) = 0 by decide, show ¬ (61 : Int32) = 45 by decide, show ¬ ¬ (61 : Int32) = 61 by decide]
            rfl
          | some tt =>
            rw [hz] at zo1
            obtain ⟨w, ew, -⟩ := id zo1
            subst ew
            have := fin_ (fun _ => by rw [hz]; simp) (by
              simp only [g190_0, g190_1, g190_4, g190_6, g190_9, g190_10, g190_13, g190_13n, g190_22, g190_23, g190_30, g190_31, g190_34, g190_37, g190_38, g190_39, g190_39n, g190_42, g190_43, g190_46, g190_48, g190_51, g190_52, g190_55, g190_55n, g190_62, g190_63, mx_isr_ref, mx_isr_null, mx_wt_nil, mx_wt_1, mx_wt_2, mx_wt_3, Option.bind_some, Option.toList_some, Option.toList_none, List.cons_append, List.nil_append, mx_nl_int, mx_nl_ref, mx_nl_null, mx_nl_none, mx_nb0, mx_nb1, mx_fb0, mx_fb1, mx_cat_int, mx_cat_ref, if_true, if_false, not_true_eq_false, not_false_eq_true, mx_wt_4, mx_w4_0, mx_w9_0, mx_w9_1, mx_kn_int, mx_kn_ref, mx_kn_null, Nat.reduceLT, ofn, n10, to, lo, o0, o3, k1, to1, lo1, o01, tz, lz, zx0, show ¬ (1 : Int32) = 0 by decide, show ¬ (61 : Int32) = 45 by decide, show ¬ ¬ (61 : Int32) = 61 by decide, nI_0])
            rw [show fIt (decide ((61 : Nat) = 61)) z.1 z.2 = fun _ => ((tt, z.2), tr1 z.2) by funext x; unfold fIt; rw [hz]; rfl] at this
            exact this
        · rw [if_neg c61]
          have n61 : ¬ nI c = 61 := fun y => c61 ((nI_eq (b := 61) (by omega) (by decide)).mp y)
          have := fin_ (fun y => absurd y c61) (by
            simp only [g190_0, g190_1, g190_4, g190_6, g190_9, g190_10, g190_13, g190_13n, g190_22, g190_23, g190_30, g190_31, g190_34, g190_37, g190_38, g190_39, g190_39n, g190_42, g190_43, g190_46, g190_48, g190_62, g190_63, mx_isr_ref, mx_isr_null, mx_wt_nil, mx_wt_1, mx_wt_2, mx_wt_3, Option.bind_some, Option.toList_some, Option.toList_none, List.cons_append, List.nil_append, mx_nl_int, mx_nl_ref, mx_nl_null, mx_nl_none, mx_nb0, mx_nb1, mx_fb0, mx_fb1, mx_cat_int, mx_cat_ref, if_true, if_false, not_true_eq_false, not_false_eq_true, mx_wt_4, mx_w4_0, mx_w9_0, mx_w9_1, mx_kn_int, mx_kn_ref, mx_kn_null, Nat.reduceLT, ofn, n10, to, lo, o0, o3, k1, to1, lo1, o01, n45, n61, show ¬ (1 : Int32) = 0 by decide, nI_0])
          rw [show fIt (decide (c = 61)) z.1 z.2 = fun x => gai (x, false) z.1 z.2 by funext x; unfold fIt; rw [show decide (c = 61) = false by simpa using c61]; rfl] at this
          exact this
end
