/-! Filter.readOr. -/
def vO : Option cdP → List (prs → Option Nat → Bool) → Prop
  | none, gs => gs = []
  | some c, gs => ∀ p i, c.2 p i = gs.any (fun g => g p i)
def vA : Option cdP → List (prs → Option Nat → Bool) → Prop
  | none, gs => gs = []
  | some c, gs => ∀ p i, c.2 p i = gs.all (fun g => g p i)
theorem vA_cons {a : Option cdP} {gs : List (prs → Option Nat → Bool)} (h : vA a gs) (c : cdP) : ∀ p i, (cA a c).2 p i = (c.2 :: gs).all (fun g => g p i) := by
  intro p i
  cases a with
  | none =>
    rw [show gs = [] from h]
    simp [cA]
  | some y =>
    rw [List.all_cons, ← h p i, Bool.and_comm]
    rfl
theorem vO_cons {o : Option cdP} {gs : List (prs → Option Nat → Bool)} (h : vO o gs) (c : cdP) {g : prs → Option Nat → Bool} (e : ∀ p i, c.2 p i = g p i) : ∀ p i, (cB o c).2 p i = (g :: gs).any (fun g => g p i) := by
  intro p i
  cases o with
  | none =>
    rw [show gs = [] from h]
    simp [cB, e]
  | some y =>
    rw [List.any_cons, ← h p i, Bool.or_comm, ← e]
    rfl
def OS (n : Nat) (w : Bool) (R : List Nat) (h : mx_H) (x any all : Nat) (o a : Option cdP) : Prop := ∃ (fO fA : Value) (gO gA : List (prs → Option Nat → Bool)), h[any]? = some (.inl 10, [.int 0, .int (-1), .int (-1), .null, fO, .null]) ∧ h[all]? = some (.inl 10, [.int 1, .int (-1), .int (-1), .null, fA, .null]) ∧ Fc (8 + 3 * n) w (x :: any :: all :: R) h fO gO ∧ Fc (7 + 3 * n) w (x :: any :: all :: R) h fA gA ∧ vO o gO ∧ vA a gA
theorem Ex.fr64 {M : List Nat} {h h' : mx_H} (F : Fr [64] h h') : Ex M h M h' := F.ex (fun a ha z => by rw [List.mem_singleton] at ha; subst ha; exact z.1 (by omega)) (fun a ha => Or.inl ha)
theorem set5 {cs : List Value} {a v : Value} (h : cs.length = 5) : (cs ++ [a]).set 5 v = cs ++ [v] := by
  rw [List.set_append_right _ _ (by omega), h]
  rfl
section
variable {d : Nat} {ts : List tk} {R : List Nat}
theorem jg_orL {n : Nat} (hn : n ≤ 6) (N : NB ts) (w : Bool) (rd : ∀ m, n = m + 1 → ∀ w, RO (d + 9) m w ts) {h0 : mx_H} {x0 cp0 c0 : Nat} (hl0 : 102 ≤ h0.length) (r0 : RB R h0) :
    ∀ (f i : Nat) (h : mx_H) (x cp c any all : Nat) (o a : Option cdP) (l6 : Option Value), i + f = 120 → BT h x cp ts c → KK h → PXd ts h0 x0 cp0 c0 h x cp c 36 → OS n w R h x any all o a → h0.length ≤ any → h0.length ≤ all → any ≠ all →
    Rs (9 + 3 * n) 0 36 w ts R h0 x0 cp0 c0 (mx_G (d + 12) 163 16 [some (.ref 64), some (.int (nI (6 - n))), some (.int (if w = true then 1 else 0)), some (.ref any), some (.ref all), some (.int (nI i)), l6] [] h) (cL ts (cT (hd ts) itn ts (rOf ts n) w) f o a c) := by
  intro f
  induction f with
  | zero =>
    intro i h x cp c any all o a l6 hi T K P S h1 h2 h3
    have : i = 120 := by omega
    subst this
    refine ⟨h, x, cp, c, ?_, T, P⟩
    simp only [g163_16, g163_18, g163_20, g163_84, g163_85, mx_isr_ref, mx_isr_null, mx_wt_nil, mx_wt_1, mx_wt_2, mx_wt_3, Option.bind_some, Option.toList_some, Option.toList_none, List.cons_append, List.nil_append, mx_nl_int, mx_nl_ref, mx_nl_null, mx_nl_none, mx_nb0, mx_nb1, mx_fb0, mx_fb1, mx_cat_int, mx_cat_ref, if_true, if_false, not_true_eq_false, not_false_eq_true, mx_wt_4, mx_w4_0, mx_w9_0, mx_w9_1, mx_kn_int, mx_kn_ref, mx_kn_null, Nat.reduceLT, ofn, n10, show (120 : Int32) ≤ nI 120 by decide]
  | succ f ih =>
    intro i h x cp c any all o a l6 hi T K P S hany hall hne
    have q1 : ¬ (120 : Int32) ≤ nI i := nI_ge (a := i) (b := 120) (by omega) (by decide)
    obtain ⟨fO, fA, gO, gA, eO, eA, cO', cA', vo, va⟩ := S
    have lO := ce_l eO
    have lA := ce_l eA
    have lh : h0.length ≤ h.length := P.1.1
    have anx : any ≠ x := T.ne eO (by simp)
    have alx : all ≠ x := T.ne eA (by simp)
    have xl2 : 63 ≤ x := T.xlt.2.1
    have r : RB (any :: all :: R) h := by
      intro q hq
      simp only [List.mem_cons] at hq
      rcases hq with rfl | rfl | z
      · exact ⟨by omega, lO⟩
      · exact ⟨by omega, lA⟩
      · have := r0 _ z; exact ⟨this.1, by omega⟩
    have A := jg_term (d := d) hn N w rd T r K
    rw [cL]
    rw [g163_16]
    cases e : cT (hd ts) itn ts (rOf ts n) w c with
    | none =>
      rw [e] at A
      obtain ⟨h', x', cp', c', b1, b2, b3⟩ := A
      refine ⟨h', x', cp', c', ?_, b2, P.trans b3⟩
      simp only [g163_18, g163_20, g163_23, g163_24, g163_25, g163_26, g163_29, g163_31, g163_33, g163_33n, g163_33n, g163_36, g163_37, mx_isr_ref, mx_isr_null, mx_wt_nil, mx_wt_1, mx_wt_2, mx_wt_3, Option.bind_some, Option.toList_some, Option.toList_none, List.cons_append, List.nil_append, mx_nl_int, mx_nl_ref, mx_nl_null, mx_nl_none, mx_nb0, mx_nb1, mx_fb0, mx_fb1, mx_cat_int, mx_cat_ref, if_true, if_false, not_true_eq_false, not_false_eq_true, mx_wt_4, mx_w4_0, mx_w9_0, mx_w9_1, mx_kn_int, mx_kn_ref, mx_kn_null, Nat.reduceLT, ofn, n10, q1, b1]
    | some q =>
      rw [e] at A
      obtain ⟨h1, x1, cp1, f1, b1, T1, Pf, b4, P1⟩ := A
      obtain ⟨cs, ef, hcs, mt⟩ := Pf
      have l1 := P1.1.1
      have lf := ce_l ef
      have f1x : f1 ≠ x1 := T1.ne ef (by simp)
      have eO1 := P1.1.at eO (by simp; omega)
      have eA1 := P1.1.at eA (by simp; omega)
      have anx1 : any ≠ x1 := T1.ne eO1 (by simp)
      have alx1 : all ≠ x1 := T1.ne eA1 (by simp)
      have hfA := Fc.isr cA'
      have hfO := Fc.isr cO'
      have ad := jg_adopt (d := d + 11) (a := all) (f := f1) (by omega) (by omega) hfA eA1 ef
      generalize hu : mx_up (mx_up h1 f1 5 fA) all 4 (.ref f1) = h2 at ad
      have F12 : Fr [f1, all] h1 h2 := by
        rw [← hu]
        exact (Fr.up (by simp)).trans (Fr.up (F := [f1, all]) (by simp)) (fun a ha => Or.inl ha)
      have w2 : mw h2 = mw h1 := by rw [← hu, mw_up, mw_up]
      have T2 := T1.fr F12 (by
        intro a ha
        simp only [List.mem_cons, List.not_mem_nil, or_false] at ha
        rcases ha with rfl | rfl
        · exact ⟨by omega, f1x⟩
        · exact ⟨by omega, alx1⟩)
      have ef2 : h2[f1]? = some (.inl 10, cs ++ [fA]) := by
        rw [← hu, c_upn (by omega), c_up ef, set5 hcs]
      have eA2 : h2[all]? = some (.inl 10, [.int 1, .int (-1), .int (-1), .null, .ref f1, .null]) := by
        rw [← hu, c_up (t := .inl 10) (vs := [.int 1, .int (-1), .int (-1), .null, fA, .null]) (by rw [c_upn (by omega)]; exact eA1)]
        rfl
      have eO2 := F12.at eO1 (by simp; omega)
      have fzf : fz (x1 :: any :: all :: R) f1 := ⟨by omega, fun z => by
        simp only [List.mem_cons] at z
        rcases z with z | z | z | z
        · exact f1x z
        · omega
        · omega
        · have := r0 _ z; omega⟩
      have Ef : Ex (f1 :: x1 :: any :: all :: R) h1 (x1 :: any :: all :: R) h2 := F12.ex (fun a ha z => by
        simp only [List.mem_cons, List.not_mem_nil, or_false] at ha
        rcases ha with rfl | rfl
        · exact z.2 (by simp)
        · exact z.2 (by simp)) (fun a ha => Or.inl (List.mem_cons_of_mem _ ha))
      have F02 : Fr [64, 69, x, all] h h2 := (P1.1.mono (by intro a ha; simp at ha ⊢; omega)).trans F12 (fun a ha => by
        simp only [List.mem_cons, List.not_mem_nil, or_false] at ha
        rcases ha with rfl | rfl
        · exact Or.inr b4
        · exact Or.inl (by simp))
      have E02 : Ex (x :: any :: all :: R) h (x1 :: any :: all :: R) h2 := F02.ex (fun a ha z => by
        simp only [List.mem_cons, List.not_mem_nil, or_false] at ha
        rcases ha with rfl | rfl | rfl | rfl
        · exact z.1 (by omega)
        · exact z.1 (by omega)
        · exact z.2 (by simp)
        · exact z.2 (by simp)) (fun a ha => by
        rcases List.mem_cons.mp ha with rfl | z
        · exact P1.2.1.elim (fun z => Or.inl (by rw [z]; exact List.mem_cons_self)) Or.inr
        · exact Or.inl (List.mem_cons_of_mem _ z))
      have cA2 : Fc (7 + 3 * n) w (x1 :: any :: all :: R) h2 (.ref f1) (q.1.2 :: gA) := ⟨f1, cs, fA, rfl, ef2, hcs, fzf, mt.ex Ef, Fc.ex E02 _ _ cA'⟩
      have cO2 := Fc.ex E02 _ _ cO'
      have K2 : KK h2 := K.fr F02 (by intro a ha; simp at ha; omega)
      have S24 : sB h2 55 56 w_and := K2.1 24 (by decide)
      obtain ⟨h3, n3, T3, F3, W3⟩ := jt_word (d := d + 7) T2 S24
      have K3 : KK h3 := K2.fr F3 (by simp)
      have g2 := T2.kind.1
      have g1 := T1.kind.1
      have f0 := T.kind.1
      have eO3 := F3.at eO2 (by simp; omega)
      have eA3 := F3.at eA2 (by simp; omega)
      have E23 : Ex (x1 :: any :: all :: R) h2 (x1 :: any :: all :: R) h3 := Ex.fr64 F3
      have cA3 := Fc.ex E23 _ _ cA2
      have cO3 := Fc.ex E23 _ _ cO2
      have va' := vA_cons va q.1
      -- the room up to there
      have P2 : PX ts h0 x0 cp0 c0 h1 x1 cp1 q.2 54 := (P.of P1 (by omega)).mono (by omega)
      have mkP : ∀ (g : mx_H) (c' k : Nat), Fr [64, any, all, f1] h1 g → q.2 ≤ c' → mw g + Wt ts q.2 + k ≤ mw h1 + Wt ts c' + 54 → PX ts h0 x0 cp0 c0 g x1 cp1 c' k := by
        intro g c' k F hc hw
        obtain ⟨p1, p2, p3, p4⟩ := P2
        refine ⟨p1.trans F (fun a ha => ?_), p2, by omega, by omega⟩
        simp only [List.mem_cons, List.not_mem_nil, or_false] at ha
        rcases ha with rfl | rfl | rfl | rfl
        · exact Or.inl (by simp)
        · exact Or.inr hany
        · exact Or.inr hall
        · exact Or.inr (by omega)
      have F13 : Fr [64, any, all, f1] h1 h3 := (F12.mono (by intro a ha; simp at ha ⊢; omega)).trans F3 (fun a ha => Or.inl (by simp at ha; simp [ha]))
      show Rs _ _ _ _ _ _ _ _ _ _ _ (if tW ts q.2 w_and = true then cL ts (cT (hd ts) itn ts (rOf ts n) w) f o (some (cA a q.1)) (q.2 + 1) else if tW ts q.2 w_or = true then cL ts (cT (hd ts) itn ts (rOf ts n) w) f (some (cB o (cA a q.1))) none (q.2 + 1) else some (cB o (cA a q.1), q.2))
      by_cases an : tW ts q.2 w_and = true
      · rw [if_pos an] at n3 T3
        rw [if_pos an]
        have hlt := tW_lt an
        have I := ih (i + 1) h3 x1 cp1 (q.2 + 1) any all o (some (cA a q.1)) (some (.ref f1)) (by omega) T3 K3 ((mkP h3 (q.2 + 1) 0 F13 (by omega) (by rw [Wt_succ hlt]; omega)).d 36) ⟨fO, .ref f1, gO, _, eO3, eA3, cO3, cA3, vo, va'⟩ hany hall hne
        refine I.ret (fun v h' hv hG => ?_)
        simp only [g163_18, g163_20, g163_23, g163_24, g163_25, g163_26, g163_29, g163_31, g163_33, g163_33n, g163_36, g163_37, g163_38, g163_40, g163_42, g163_45, g163_46, g163_48, g163_51, g163_78, g163_81, mx_isr_ref, mx_isr_null, mx_wt_nil, mx_wt_1, mx_wt_2, mx_wt_3, Option.bind_some, Option.toList_some, Option.toList_none, List.cons_append, List.nil_append, mx_nl_int, mx_nl_ref, mx_nl_null, mx_nl_none, mx_nb0, mx_nb1, mx_fb0, mx_fb1, mx_cat_int, mx_cat_ref, if_true, if_false, not_true_eq_false, not_false_eq_true, mx_wt_4, mx_w4_0, mx_w9_0, mx_w9_1, mx_kn_int, mx_kn_ref, mx_kn_null, Nat.reduceLT, ofn, n10, q1, b1, ce_t eA1, ad, g2, n3, nI_1]
        exact hG
      · rw [if_neg an] at n3 T3
        rw [if_neg an]
        have ad2 := jg_adopt (d := d + 11) (a := any) (f := all) (cs := [.int 1, .int (-1), .int (-1), .null, .ref f1]) (nf := .null) (by omega) (by omega) hfO eO3 eA3
        generalize hv : mx_up (mx_up h3 all 5 fO) any 4 (.ref all) = h4 at ad2
        have F34 : Fr [all, any] h3 h4 := by
          rw [← hv]
          exact (Fr.up (by simp)).trans (Fr.up (F := [all, any]) (by simp)) (fun a ha => Or.inl ha)
        have w4 : mw h4 = mw h3 := by rw [← hv, mw_up, mw_up]
        have T4 := T3.fr F34 (by
          intro a ha
          simp only [List.mem_cons, List.not_mem_nil, or_false] at ha
          rcases ha with rfl | rfl
          · exact ⟨by omega, alx1⟩
          · exact ⟨by omega, anx1⟩)
        have eA4 : h4[all]? = some (.inl 10, [.int 1, .int (-1), .int (-1), .null, .ref f1] ++ [fO]) := by
          rw [← hv, c_upn (Ne.symm hne), c_up eA3]
          rfl
        have eO4 : h4[any]? = some (.inl 10, [.int 0, .int (-1), .int (-1), .null, .ref all, .null]) := by
          rw [← hv, c_up (t := .inl 10) (vs := [.int 0, .int (-1), .int (-1), .null, fO, .null]) (by rw [c_upn hne]; exact eO3)]
          rfl
        have E34 : Ex (x1 :: any :: all :: R) h3 (x1 :: any :: R) h4 := F34.ex (fun a ha z => by
          simp only [List.mem_cons, List.not_mem_nil, or_false] at ha
          rcases ha with rfl | rfl
          · exact z.2 (by simp)
          · exact z.2 (by simp)) (fun a ha => Or.inl (by
          simp only [List.mem_cons] at ha ⊢
          rcases ha with z | z | z
          · exact Or.inl z
          · exact Or.inr (Or.inl z)
          · exact Or.inr (Or.inr (Or.inr z))))
        have fza : fz (x1 :: any :: R) all := ⟨by omega, fun z => by
          simp only [List.mem_cons] at z
          rcases z with z | z | z
          · exact alx1 z
          · exact hne z.symm
          · have := r0 _ z; omega⟩
        have mA := Mt_row (d0 := false) (f := all) (a := -1) (b := -1) (Fc.ex E34 _ _ cA3)
        have cO4 : Fc (8 + 3 * n) w (x1 :: any :: R) h4 (.ref all) (_ :: gO) := ⟨all, _, fO, rfl, eA4, rfl, fza, mA.le (by omega), Fc.ex E34 _ _ cO3⟩
        have vo' := vO_cons vo (cA a q.1) (g := fun p i => if false = true then (q.1.2 :: gA).any (fun g => g p i) else (q.1.2 :: gA).all (fun g => g p i)) (fun p i => by rw [va' p i]; rfl)
        have K4 : KK h4 := K3.fr F34 (by intro a ha; simp at ha; omega)
        have S25 : sB h4 57 58 w_or := K4.1 25 (by decide)
        obtain ⟨h5, n5, T5, F5, W5⟩ := jt_word (d := d + 7) T4 S25
        have g4 := T4.kind.1
        have g3 := T3.kind.1
        have K5 : KK h5 := K4.fr F5 (by simp)
        have eO5 := F5.at eO4 (by simp; omega)
        have cO5 := Fc.ex (Ex.fr64 F5) _ _ cO4
        have F15 : Fr [64, any, all, f1] h1 h5 := (F13.trans F34 (fun a ha => Or.inl (by simp at ha ⊢; omega))).trans F5 (fun a ha => Or.inl (by simp at ha; simp [ha]))
        have l5 := F15.1
        by_cases og : tW ts q.2 w_or = true
        · rw [if_pos og] at n5 T5
          rw [if_pos og]
          have hlt := tW_lt og
          obtain ⟨h6, m1, m2, m3, m4, m5⟩ := jg_around (d := d + 9) (h := h5) (by omega) 1 (v := .null) rfl
          have T6 := T5.fr m3 (by simp)
          have K6 : KK h6 := K5.fr m3 (by simp)
          have E56 : Ex (x1 :: any :: R) h5 (x1 :: any :: h5.length :: R) h6 := m3.ex (by simp) (fun a ha => by
            simp only [List.mem_cons] at ha ⊢
            rcases ha with z | z | z | z
            · exact Or.inl (Or.inl z)
            · exact Or.inl (Or.inr (Or.inl z))
            · exact Or.inr (by omega)
            · exact Or.inl (Or.inr (Or.inr z)))
          have I := ih (i + 1) h6 x1 cp1 (q.2 + 1) any h5.length (some (cB o (cA a q.1))) none (some (.ref f1)) (by omega) T6 K6 ((mkP h6 (q.2 + 1) 0 (F15.trans m3 (fun a ha => by simp at ha)) (by omega) (by rw [Wt_succ hlt]; omega)).d 36) ⟨.ref all, .null, _, [], m3.at eO5 (by simp), m2, Fc.ex E56 _ _ cO5, rfl, vo', rfl⟩ hany (by omega) (by omega)
          refine I.ret (fun v h' hv hG => ?_)
          simp only [g163_18, g163_20, g163_23, g163_24, g163_25, g163_26, g163_29, g163_31, g163_33, g163_33n, g163_36, g163_37, g163_38, g163_40, g163_42, g163_45, g163_46, g163_48, g163_51, g163_54, g163_55, g163_57, g163_60, g163_61, g163_63, g163_66, g163_69, g163_70, g163_71, g163_72, g163_73, g163_76, g163_78, g163_81, mx_isr_ref, mx_isr_null, mx_wt_nil, mx_wt_1, mx_wt_2, mx_wt_3, Option.bind_some, Option.toList_some, Option.toList_none, List.cons_append, List.nil_append, mx_nl_int, mx_nl_ref, mx_nl_null, mx_nl_none, mx_nb0, mx_nb1, mx_fb0, mx_fb1, mx_cat_int, mx_cat_ref, if_true, if_false, not_true_eq_false, not_false_eq_true, mx_wt_4, mx_w4_0, mx_w9_0, mx_w9_1, mx_kn_int, mx_kn_ref, mx_kn_null, Nat.reduceLT, ofn, n10, q1, b1, ce_t eA1, ad, g2, n3, ce_t eO3, ad2, g4, n5, m1, nI_1]
          exact hG
        · rw [if_neg og] at n5 T5
          rw [if_neg og]
          have mO := Mt_row (d0 := true) (f := any) (a := -1) (b := -1) (Fc.ex (show Ex (x1 :: any :: R) h5 (any :: x1 :: R) h5 from ⟨Nat.le_refl _, fun a _ hz => ⟨rfl, fz_sub hz (fun q hq => by simp only [List.mem_cons] at hq ⊢; rcases hq with z | z | z <;> simp [z])⟩⟩) _ _ cO5)
          refine ⟨h5, x1, cp1, any, ?_, T5, ⟨[.int 0, .int (-1), .int (-1), .null, .ref all], eO5, rfl, ?_⟩, hany, mkP h5 q.2 0 F15 (Nat.le_refl _) (by omega)⟩
          · simp only [g163_18, g163_20, g163_23, g163_24, g163_25, g163_26, g163_29, g163_31, g163_33, g163_33n, g163_36, g163_37, g163_38, g163_40, g163_42, g163_45, g163_46, g163_48, g163_51, g163_54, g163_55, g163_57, g163_60, g163_61, g163_63, g163_66, g163_69, g163_70, mx_isr_ref, mx_isr_null, mx_wt_nil, mx_wt_1, mx_wt_2, mx_wt_3, Option.bind_some, Option.toList_some, Option.toList_none, List.cons_append, List.nil_append, mx_nl_int, mx_nl_ref, mx_nl_null, mx_nl_none, mx_nb0, mx_nb1, mx_fb0, mx_fb1, mx_cat_int, mx_cat_ref, if_true, if_false, not_true_eq_false, not_false_eq_true, mx_wt_4, mx_w4_0, mx_w9_0, mx_w9_1, mx_kn_int, mx_kn_ref, mx_kn_null, Nat.reduceLT, ofn, n10, q1, b1, ce_t eA1, ad, g2, n3, ce_t eO3, ad2, g4, n5]
          · exact (mO.le (by omega)).eq (fun p i => vo' p i)
theorem jg_or {n : Nat} (hn : n ≤ 6) (N : NB ts) (w : Bool) (rd : ∀ m, n = m + 1 → ∀ w, RO (d + 9) m w ts) : RO (d + 12) n w ts := by
  intro h x cp c R T r K
  have hl := T.xlt.2.2.2.1
  have xl := T.xlt.1
  obtain ⟨h1, a1, a2, a3, a4, a5⟩ := jg_around (d := d + 9) (h := h) (by omega) 0 (v := .null) rfl
  obtain ⟨h2, b1, b2, b3, b4, b5⟩ := jg_around (d := d + 9) (h := h1) (by omega) 1 (v := .null) rfl
  have F2 : Fr [] h h2 := a3.trans b3 (fun a ha => by simp at ha)
  rw [cF_rOf]
  have L := jg_orL hn N w rd (h0 := h) (x0 := x) (cp0 := cp) (c0 := c) hl r 120 0 h2 x cp c h.length h1.length none none none (by omega) (T.fr F2 (by simp)) (K.fr F2 (by simp)) ⟨F2.mono (by simp), Or.inl rfl, Nat.le_refl _, by omega⟩ ⟨.null, .null, [], [], b3.at a2 (by simp), b2, rfl, rfl, rfl, rfl⟩ (Nat.le_refl _) (by omega) (by omega)
  refine L.ret (fun v h' hv hG => ?_)
  rw [show nI 0 = 0 from rfl] at hG
  simp only [g163_0, g163_1, g163_2, g163_5, g163_6, g163_7, g163_8, g163_11, g163_13, g163_14, mx_isr_ref, mx_isr_null, mx_wt_nil, mx_wt_1, mx_wt_2, mx_wt_3, Option.bind_some, Option.toList_some, Option.toList_none, List.cons_append, List.nil_append, mx_nl_int, mx_nl_ref, mx_nl_null, mx_nl_none, mx_nb0, mx_nb1, mx_fb0, mx_fb1, mx_cat_int, mx_cat_ref, if_true, if_false, not_true_eq_false, not_false_eq_true, mx_wt_4, mx_w4_0, mx_w9_0, mx_w9_1, mx_kn_int, mx_kn_ref, mx_kn_null, Nat.reduceLT, ofn, n10, a1, b1]
  exact hG
/-- a filter, with n more pairs -/
theorem ro_n (N : NB ts) : ∀ n, n ≤ 6 → ∀ (d : Nat) (w : Bool), RO (d + 3 * n + 12) n w ts := by
  intro n
  induction n with
  | zero => intro hn d w; exact jg_or hn N w (fun m hm => (by omega))
  | succ n ih =>
    intro hn d w
    refine jg_or (d := d + 3 * (n + 1)) hn N w (fun m hm w => ?_)
    have : m = n := by omega
    subst this
    have := ih (by omega) d w
    rw [show d + 3 * m + 12 = d + 3 * (m + 1) + 9 by omega] at this
    exact this
end
