/-! Operation.readAll is rOps. -/
def OQ (M : List Nat) (h : mx_H) (ts : List tk) : Value → List opr → Value → Prop
  | v, [], g => v = g
  | v, r :: l, g => ∃ (o : Nat) (nx : Value), v = .ref o ∧ OPR M h ts o r nx ∧ OQ M h ts nx l g
theorem OQ.ex {M M' : List Nat} {h h' : mx_H} {ts : List tk} (x : Ex M h M' h') : ∀ (l : List opr) (v g : Value), OQ M h ts v l g → OQ M' h' ts v l g := by
  intro l
  induction l with
  | nil => intro v g z; exact z
  | cons r l ih =>
    rintro v g ⟨o, nx, e, O, S⟩
    exact ⟨o, nx, e, O.ex x, ih nx g S⟩
theorem OQ.snoc {M : List Nat} {h : mx_H} {ts : List tk} {o : Nat} {r : opr} {nx : Value} (O : OPR M h ts o r nx) : ∀ (l : List opr) (v : Value), OQ M h ts v l (.ref o) → OQ M h ts v (l ++ [r]) nx := by
  intro l
  induction l with
  | nil => intro v z; exact ⟨o, nx, z, O, rfl⟩
  | cons r' l ih =>
    rintro v ⟨o', nx', e, O', S⟩
    exact ⟨o', nx', e, O', ih nx' S⟩
theorem OQ.ops {M : List Nat} {h : mx_H} {ts : List tk} : ∀ (l : List opr) (v : Value), OQ M h ts v l .null → OPs M h ts v l := by
  intro l
  induction l with
  | nil => intro v z; exact z
  | cons r l ih =>
    rintro v ⟨o, nx, e, O, S⟩
    exact ⟨o, nx, e, O, ih nx S⟩
theorem OQ.isr {M : List Nat} {h : mx_H} {ts : List tk} {v g : Value} {l : List opr} (S : OQ M h ts v l g) (hg : mx_isr g = true) : mx_isr v = true := by
  cases l with
  | nil => rw [show v = g from S]; exact hg
  | cons r l => obtain ⟨o, nx, rfl, -⟩ := S; rfl
theorem OPX.ex {M M' : List Nat} {h h' : mx_H} {ts : List tk} {o : Nat} {r : opr} {nx : Value} (O : OPX M h ts o r nx) (x : Ex M h M' h') (he : h'[o]? = h[o]?) : OPX M' h' ts o r nx := by
  obtain ⟨fv, vv, a1, a2, a3, a4, a5, a6⟩ := O
  exact ⟨fv, vv, by rw [he]; exact a1, a2.ex x, a3, a4, a5, fun z => by obtain ⟨v, e, V⟩ := a6 z; exact ⟨v, e, cVl.ex x _ _ _ V⟩⟩
theorem OPX.link {M M' : List Nat} {h h' : mx_H} {ts : List tk} {o : Nat} {r : opr} {nx nx' : Value} (O : OPX M h ts o r nx) (x : Ex M h M' h') (he : ∀ a b c e f, h[o]? = some (.inl 9, [a, b, c, e, f]) → h'[o]? = some (.inl 9, [a, b, c, e, nx'])) (hz : fz M' o) : OPR M' h' ts o r nx' := by
  obtain ⟨fv, vv, a1, a2, a3, a4, a5, a6⟩ := O
  exact ⟨fv, vv, ⟨he _ _ _ _ _ a1, hz⟩, a2.ex x, a3, a4, a5, fun z => by obtain ⟨v, e, V⟩ := a6 z; exact ⟨v, e, cVl.ex x _ _ _ V⟩⟩
theorem OPX.at {M : List Nat} {h : mx_H} {ts : List tk} {o : Nat} {r : opr} {nx : Value} (O : OPX M h ts o r nx) : mx_tag h o = some (.inl 9) ∧ o < h.length := by
  obtain ⟨fv, vv, a1, -⟩ := O
  exact ⟨ce_t a1, ce_l a1⟩
/-- the operations read so far -/
def CH (R : List Nat) (B : Nat) (h : mx_H) (x : Nat) (ts : List tk) (first last : Value) (l0 : List opr) : Prop :=
  (first = .null ∧ last = .null ∧ l0 = []) ∨ ∃ (ol : Nat) (l1 : List opr) (r : opr), last = .ref ol ∧ l0 = l1 ++ [r] ∧ OQ (x :: ol :: R) h ts first l1 (.ref ol) ∧ OPX (x :: ol :: R) h ts ol r .null ∧ B ≤ ol
section
variable {d : Nat} {ts : List tk} {R : List Nat}
theorem jr_allL (N : NB ts) (hend : ∀ e, e ≤ ts.length → (tI ts e 0 = true ↔ e = ts.length)) {h0 : mx_H} {x0 cp0 c0 : Nat} (hl0 : 102 ≤ h0.length) (r0 : RB R h0) :
    ∀ (f i : Nat) (h : mx_H) (x cp k : Nat) (first last : Value) (l0 : List opr) (l4 : Option Value), i + f = 120 → BT h x cp ts k → KK h → PX ts h0 x0 cp0 c0 h x cp k 0 → CH R h0.length h x ts first last l0 →
    (∀ l, rOps ts f k = some l → ∃ (h' : mx_H) (x' cp' : Nat) (v : Nat), mx_G (d + 29) 157 10 [some (.ref 64), some first, some last, some (.int (nI i)), l4] [] h = some (some (.ref v), h') ∧ BT h' x' cp' ts ts.length ∧ OPs (x' :: R) h' ts (.ref v) (l0 ++ l) ∧ PX ts h0 x0 cp0 c0 h' x' cp' ts.length 0) ∧
    (rOps ts f k = none → ∃ (h' : mx_H) (x' cp' k' : Nat), mx_G (d + 29) 157 10 [some (.ref 64), some first, some last, some (.int (nI i)), l4] [] h = some (some .null, h') ∧ BT h' x' cp' ts k' ∧ PXd ts h0 x0 cp0 c0 h' x' cp' k' 53) := by
  intro f
  induction f with
  | zero =>
    intro i h x cp k first last l0 l4 hi T K P C
    have : i = 120 := by omega
    subst this
    refine ⟨fun l hl => (by cases hl), fun _ => ⟨h, x, cp, k, ?_, T, P.d 53⟩⟩
    simp only [g157_10, g157_11, g157_13, g157_107, g157_108, mx_isr_ref, mx_isr_null, mx_wt_nil, mx_wt_1, mx_wt_2, mx_wt_3, Option.bind_some, Option.toList_some, Option.toList_none, List.cons_append, List.nil_append, mx_nl_int, mx_nl_ref, mx_nl_null, mx_nl_none, mx_nb0, mx_nb1, mx_fb0, mx_fb1, mx_cat_int, mx_cat_ref, if_true, if_false, not_true_eq_false, not_false_eq_true, mx_wt_4, mx_w4_0, mx_w9_0, mx_w9_1, mx_kn_int, mx_kn_ref, mx_kn_null, Nat.reduceLT, ofn, n10, show (120 : Int32) ≤ nI 120 by decide]
  | succ f ih =>
    intro i h x cp k first last l0 l4 hi T K P C
    have q1 : ¬ (120 : Int32) ≤ nI i := nI_ge (a := i) (b := 120) (by omega) (by decide)
    have lh : h0.length ≤ h.length := P.1.1
    have hf : mx_isr first = true := by
      rcases C with ⟨rfl, -⟩ | ⟨ol, l1, r, -, -, S, -⟩
      · rfl
      · exact S.isr rfl
    have hla : mx_isr last = true := by
      rcases C with ⟨-, rfl, -⟩ | ⟨ol, l1, r, rfl, -⟩ <;> rfl
    -- what may be written beside: the last one
    obtain ⟨R', hR', r1⟩ : ∃ R' : List Nat, (R' = R ∧ last = .null ∧ first = .null ∧ l0 = [] ∨ ∃ ol, R' = ol :: R ∧ last = .ref ol) ∧ RB R' h := by
      rcases C with ⟨a, b, c⟩ | ⟨ol, l1, r, e, -, -, O, hB⟩
      · exact ⟨R, Or.inl ⟨rfl, b, a, c⟩, r0.le lh⟩
      · refine ⟨ol :: R, Or.inr ⟨ol, rfl, e⟩, fun a ha => ?_⟩
        rcases List.mem_cons.mp ha with rfl | z
        · exact ⟨by omega, O.at.2⟩
        · have := r0 _ z; exact ⟨this.1, by omega⟩
    obtain ⟨Y1, Y2⟩ := jr_op (d := d) (k := k) (i := nI i) (l4 := l4) N T r1 K hf hla
    have st : ∀ X, mx_G (d + 29) 157 16 [some (.ref 64), some first, some last, some (.int (nI i)), l4] [] h = X → mx_G (d + 29) 157 10 [some (.ref 64), some first, some last, some (.int (nI i)), l4] [] h = X := by
      intro X hX
      rw [g157_10]
      simp only [g157_11, g157_13, mx_isr_ref, mx_isr_null, mx_wt_nil, mx_wt_1, mx_wt_2, mx_wt_3, Option.bind_some, Option.toList_some, Option.toList_none, List.cons_append, List.nil_append, mx_nl_int, mx_nl_ref, mx_nl_null, mx_nl_none, mx_nb0, mx_nb1, mx_fb0, mx_fb1, mx_cat_int, mx_cat_ref, if_true, if_false, not_true_eq_false, not_false_eq_true, mx_wt_4, mx_w4_0, mx_w9_0, mx_w9_1, mx_kn_int, mx_kn_ref, mx_kn_null, Nat.reduceLT, ofn, n10, q1]
      exact hX
    rw [rOps]
    cases hq : rOp ts k with
    | none =>
      obtain ⟨h', x', cp', k', j1, j2, j3⟩ := Y2 hq
      refine ⟨fun l hl => (by cases hl), fun _ => ⟨h', x', cp', k', st _ j1, j2, (P.d 0).trans j3 |> fun z => ⟨z.1, z.2.1, z.2.2.1, by have := z.2.2.2; omega⟩⟩⟩
    | some q =>
      obtain ⟨h1, x1, cp1, j1, T1, O1, K1, klt, P1⟩ := Y1 q hq
      have l1' := P1.1.1
      have xl := T.xlt
      have xl1 := T1.xlt
      have ho := O1.at
      have ox1 : h.length ≠ x1 := by rintro e; rw [← e] at xl1; rw [xl1.2.2.2.2.2.1] at ho; cases ho.1
      -- linked
      obtain ⟨h2, T2, P2, C2, K2, hG⟩ : ∃ h2, BT h2 x1 cp1 ts q.2 ∧ PX ts h0 x0 cp0 c0 h2 x1 cp1 q.2 0 ∧ (∃ first', CH R h0.length h2 x1 ts first' (.ref h.length) (l0 ++ [q.1]) ∧ mx_isr first' = true ∧ mx_G (d + 29) 157 61 [some (.ref 64), some first, some last, some (.int (nI i)), some (.ref h.length)] [] h1 = mx_G (d + 29) 157 80 [some (.ref 64), some first', some (.ref h.length), some (.int (nI i)), some (.ref h.length)] [] h2 ∧ first' ≠ .null) ∧ KK h2 ∧ True := by
        rcases C with ⟨ef, el, e0⟩ | ⟨ol, l1, r, el, e0, S, O, hB⟩
        · subst ef; subst el; subst e0
          have eR : R' = R := by
            rcases hR' with z | ⟨ol, -, z⟩
            · exact z.1
            · cases z
          subst eR
          refine ⟨h1, T1, (P.trans P1).mono (by omega), ⟨.ref h.length, Or.inr ⟨h.length, [], q.1, rfl, rfl, rfl, O1, lh⟩, rfl, ?_, by simp⟩, K1, trivial⟩
          simp only [g157_61, g157_62, g157_62n, g157_62n, g157_65, g157_67, g157_68, g157_77, g157_79, mx_isr_ref, mx_isr_null, mx_wt_nil, mx_wt_1, mx_wt_2, mx_wt_3, Option.bind_some, Option.toList_some, Option.toList_none, List.cons_append, List.nil_append, mx_nl_int, mx_nl_ref, mx_nl_null, mx_nl_none, mx_nb0, mx_nb1, mx_fb0, mx_fb1, mx_cat_int, mx_cat_ref, if_true, if_false, not_true_eq_false, not_false_eq_true, mx_wt_4, mx_w4_0, mx_w9_0, mx_w9_1, mx_kn_int, mx_kn_ref, mx_kn_null, Nat.reduceLT, ofn, n10]
        · subst el; subst e0
          have eR : R' = ol :: R := by
            rcases hR' with ⟨-, z, -⟩ | ⟨ol', e, z⟩
            · cases z
            · cases z; exact e
          subst eR
          have oll := O.at
          have olx : ol ≠ x := by rintro e; rw [e] at oll; rw [xl.2.2.2.2.2.1] at oll; cases oll.1
          have ola : 102 ≤ ol := by omega
          have k1 : h1[ol]? = h[ol]? := P1.1.2 ol oll.2 (by simp; omega)
          have oll1 : mx_tag h1 ol = some (.inl 9) := by unfold mx_tag at oll ⊢; rw [k1]; exact oll.1
          have olx1 : ol ≠ x1 := by rintro e; rw [e] at oll1; rw [xl1.2.2.2.2.2.1] at oll1; cases oll1
          generalize hu : mx_up h1 ol 4 (.ref h.length) = h2
          have Fu : Fr [ol] h1 h2 := by rw [← hu]; exact Fr.up (by simp)
          have F2 : Fr [64, 69, x, ol] h h2 := (P1.1.mono (by intro a ha; simp at ha ⊢; omega)).trans Fu (fun a ha => Or.inl (by simp at ha ⊢; omega))
          have E2 : Ex (x :: ol :: R) h (x1 :: h.length :: R) h2 := F2.ex (fun a ha z => by
            simp only [List.mem_cons, List.not_mem_nil, or_false] at ha
            rcases ha with rfl | rfl | rfl | rfl
            · exact z.1 (by omega)
            · exact z.1 (by omega)
            · exact z.2 (by simp)
            · exact z.2 (by simp)) (fun a ha => by
            simp only [List.mem_cons] at ha ⊢
            rcases ha with z | z | z
            · rcases P1.2.1 with w | w
              · exact Or.inl (Or.inl (by rw [z, w]))
              · exact Or.inr (by omega)
            · exact Or.inr (by omega)
            · exact Or.inl (Or.inr (Or.inr z)))
          have fz2 : fz (x1 :: h.length :: R) ol := ⟨by omega, fun z => by
            simp only [List.mem_cons] at z
            rcases z with z | z | z
            · exact olx1 z
            · omega
            · have := r0 _ z; omega⟩
          have OL : OPR (x1 :: h.length :: R) h2 ts ol r (.ref h.length) := O.link E2 (fun a b c e f z => by rw [← hu, c_up (by rw [k1]; exact z)]; rfl) fz2
          have E12 : Ex (x1 :: h.length :: ol :: R) h1 (x1 :: h.length :: R) h2 := Fu.ex (fun a ha z => by rw [List.mem_singleton] at ha; exact z.2 (by simp [ha])) (fun a ha => Or.inl (by
            simp only [List.mem_cons] at ha ⊢
            rcases ha with z | z | z
            · exact Or.inl z
            · exact Or.inr (Or.inl z)
            · exact Or.inr (Or.inr (Or.inr z))))
          have O2 := O1.ex E12 (Fu.2 _ ho.2 (by simp; omega))
          have hn : mt_nO ≤ ol := by rw [show mt_nO = 63 by decide]; omega
          have T2 := T1.fr Fu (by simp; omega)
          have P2 : PX ts h0 x0 cp0 c0 h2 x1 cp1 q.2 0 := by
            have := (P.trans P1).al Fu (fun a ha => by rw [List.mem_singleton] at ha; rw [ha]; exact hB) (n := 0) (by rw [← hu, mw_up]; omega) (by omega)
            exact this.mono (by omega)
          refine ⟨h2, T2, P2, ⟨first, Or.inr ⟨h.length, l1 ++ [r], q.1, rfl, rfl, OQ.snoc OL l1 first (OQ.ex E2 _ _ _ S), O2, lh⟩, hf, ?_, ?_⟩, K1.fr Fu (by simp; omega), trivial⟩
          · simp only [g157_61, g157_62, g157_62n, g157_71, g157_72, g157_74, g157_77, g157_79, mx_isr_ref, mx_isr_null, mx_wt_nil, mx_wt_1, mx_wt_2, mx_wt_3, Option.bind_some, Option.toList_some, Option.toList_none, List.cons_append, List.nil_append, mx_nl_int, mx_nl_ref, mx_nl_null, mx_nl_none, mx_nb0, mx_nb1, mx_fb0, mx_fb1, mx_cat_int, mx_cat_ref, if_true, if_false, not_true_eq_false, not_false_eq_true, mx_wt_4, mx_w4_0, mx_w9_0, mx_w9_1, mx_kn_int, mx_kn_ref, mx_kn_null, Nat.reduceLT, ofn, n10, oll1, hn, hu, hf, nl_isr hf]
          · cases l1 with
            | nil => rw [show first = .ref ol from S]; simp
            | cons r' l1 => obtain ⟨o', nx', e, -⟩ := S; rw [e]; simp
      obtain ⟨first', C2, hf', hG, hnn⟩ := C2
      have he : q.2 ≤ ts.length := T2.kind.2.2.2.2.2.2.2.2.2.2.2
      have A0 := jt_isAt (d := d + 28) T2 (k := 0) (by decide)
      rw [nI_0] at A0
      have g642 := T2.kind.1
      have lh2 := P2.1.1
      have full : ∀ X, mx_G (d + 29) 157 80 [some (.ref 64), some first', some (.ref h.length), some (.int (nI i)), some (.ref h.length)] [] h2 = X → mx_G (d + 29) 157 10 [some (.ref 64), some first, some last, some (.int (nI i)), l4] [] h = X := fun X hX => st _ (by rw [j1, hG]; exact hX)
      show (∀ l, (if q.2 = ts.length then some [q.1] else if tI ts q.2 10 = true then (rOps ts f (q.2 + 1)).map fun l => q.1 :: l else none : Option (List opr)) = some l → _) ∧ ((if q.2 = ts.length then some [q.1] else if tI ts q.2 10 = true then (rOps ts f (q.2 + 1)).map fun l => q.1 :: l else none : Option (List opr)) = none → _)
      by_cases e : q.2 = ts.length
      · rw [if_pos e]
        rw [if_pos ((hend _ he).mpr e)] at A0
        refine ⟨fun l hl => ?_, fun z => (by cases z)⟩
        cases hl
        -- nothing more is written: all stands fast
        have SS : OPs (x1 :: R) h2 ts first' (l0 ++ [q.1]) := by
          rcases C2 with ⟨-, z, -⟩ | ⟨ol, l1, r, el, e0, S, O, hB⟩
          · cases z
          · cases el
            rw [e0]
            have E : Ex (x1 :: h.length :: R) h2 (x1 :: R) h2 := Ex.sub h2 (fun a ha => by
              simp only [List.mem_cons] at ha ⊢
              rcases ha with z | z
              · exact Or.inl z
              · exact Or.inr (Or.inr z))
            have fz1 : fz (x1 :: R) h.length := ⟨by omega, fun z => by
              simp only [List.mem_cons] at z
              rcases z with z | z
              · exact ox1 z
              · have := r0 _ z; omega⟩
            refine OQ.ops _ _ (OQ.snoc (O.link E (nx' := .null) (fun a b c e f z => ?_) fz1) l1 first' (OQ.ex E _ _ _ S))
            obtain ⟨fv, vv, a1, -⟩ := O
            rw [a1] at z
            rw [a1]
            cases z
            rfl
        obtain ⟨v, ev⟩ : ∃ v, first' = .ref v := by cases first' <;> first | exact ⟨_, rfl⟩ | exact absurd rfl hnn | (cases hf'; done)
        subst ev
        rw [e] at T2 P2
        refine ⟨h2, x1, cp1, v, full _ ?_, T2, SS, P2⟩
        simp only [g157_80, g157_81, g157_82, g157_85, g157_88, g157_89, mx_isr_ref, mx_isr_null, mx_wt_nil, mx_wt_1, mx_wt_2, mx_wt_3, Option.bind_some, Option.toList_some, Option.toList_none, List.cons_append, List.nil_append, mx_nl_int, mx_nl_ref, mx_nl_null, mx_nl_none, mx_nb0, mx_nb1, mx_fb0, mx_fb1, mx_cat_int, mx_cat_ref, if_true, if_false, not_true_eq_false, not_false_eq_true, mx_wt_4, mx_w4_0, mx_w9_0, mx_w9_1, mx_kn_int, mx_kn_ref, mx_kn_null, Nat.reduceLT, ofn, n10, g642, A0, show ¬ (1 : Int32) = 0 by decide]
      · rw [if_neg e]
        rw [if_neg (fun z => e ((hend _ he).mp z))] at A0
        obtain ⟨h3, b1, T3, F3, W3⟩ := jt_take (d := d + 27) T2 (k := 10) (by decide) (by decide)
        rw [show nI 10 = 10 from rfl] at b1
        have K3 : KK h3 := K2.fr F3 (by simp)
        by_cases d10 : tI ts q.2 10 = true
        · rw [if_pos d10] at b1 T3
          rw [if_pos d10]
          have P3 : PX ts h0 x0 cp0 c0 h3 x1 cp1 (q.2 + 1) 0 := (P2.trans (px_of64 T2 F3 W3 (by omega))).mono (by omega)
          have C3 : CH R h0.length h3 x1 ts first' (.ref h.length) (l0 ++ [q.1]) := by
            rcases C2 with ⟨-, z, -⟩ | ⟨ol, l1, r, el, e0, S, O, hB⟩
            · cases z
            · cases el
              have E := Ex.fr64 (M := x1 :: h.length :: R) F3
              exact Or.inr ⟨h.length, l1, r, rfl, e0, OQ.ex E _ _ _ S, O.ex E (F3.2 _ O.at.2 (by simp; omega)), hB⟩
          obtain ⟨I1, I2⟩ := ih (i + 1) h3 x1 cp1 (q.2 + 1) first' (.ref h.length) (l0 ++ [q.1]) (some (.ref h.length)) (by omega) T3 K3 P3 C3
          have nxt : ∀ X, mx_G (d + 29) 157 10 [some (.ref 64), some first', some (.ref h.length), some (.int (nI (i + 1))), some (.ref h.length)] [] h3 = X → mx_G (d + 29) 157 80 [some (.ref 64), some first', some (.ref h.length), some (.int (nI i)), some (.ref h.length)] [] h2 = X := by
            intro X hX
            simp only [g157_80, g157_81, g157_82, g157_85, g157_90, g157_91, g157_93, g157_96, g157_101, g157_104, mx_isr_ref, mx_isr_null, mx_wt_nil, mx_wt_1, mx_wt_2, mx_wt_3, Option.bind_some, Option.toList_some, Option.toList_none, List.cons_append, List.nil_append, mx_nl_int, mx_nl_ref, mx_nl_null, mx_nl_none, mx_nb0, mx_nb1, mx_fb0, mx_fb1, mx_cat_int, mx_cat_ref, if_true, if_false, not_true_eq_false, not_false_eq_true, mx_wt_4, mx_w4_0, mx_w9_0, mx_w9_1, mx_kn_int, mx_kn_ref, mx_kn_null, Nat.reduceLT, ofn, n10, g642, A0, b1, show ¬ (1 : Int32) = 0 by decide, nI_1]
            exact hX
          refine ⟨fun l hl => ?_, fun z => ?_⟩
          · obtain ⟨l', hl', el⟩ := Option.map_eq_some_iff.mp hl
            obtain ⟨h', x', cp', v, i1, i2, i3, i4⟩ := I1 l' hl'
            refine ⟨h', x', cp', v, full _ (nxt _ i1), i2, ?_, i4⟩
            rw [← el]
            rw [List.append_assoc] at i3
            exact i3
          · obtain ⟨h', x', cp', k', i1, i2, i3⟩ := I2 (Option.map_eq_none_iff.mp z)
            exact ⟨h', x', cp', k', full _ (nxt _ i1), i2, i3⟩
        · rw [if_neg d10] at b1 T3
          rw [if_neg d10]
          refine ⟨fun l hl => (by cases hl), fun _ => ⟨h3, x1, cp1, q.2, full _ ?_, T3, ?_⟩⟩
          · simp only [g157_80, g157_81, g157_82, g157_85, g157_90, g157_91, g157_93, g157_96, g157_99, g157_100, mx_isr_ref, mx_isr_null, mx_wt_nil, mx_wt_1, mx_wt_2, mx_wt_3, Option.bind_some, Option.toList_some, Option.toList_none, List.cons_append, List.nil_append, mx_nl_int, mx_nl_ref, mx_nl_null, mx_nl_none, mx_nb0, mx_nb1, mx_fb0, mx_fb1, mx_cat_int, mx_cat_ref, if_true, if_false, not_true_eq_false, not_false_eq_true, mx_wt_4, mx_w4_0, mx_w9_0, mx_w9_1, mx_kn_int, mx_kn_ref, mx_kn_null, Nat.reduceLT, ofn, n10, g642, A0, b1, show ¬ ¬ (0 : Int32) = 0 by decide]
          · exact (P2.trans (px_of64 T2 F3 W3 (Nat.le_refl _))).d 53
end
