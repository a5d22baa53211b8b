section
variable {d : Nat} {h : mx_H} {ts : List tk}
theorem xG_mrk (l : List itm) (k : Nat) : xG (mrk l) k = (iG l k, false) := by
  unfold xG mrk iG
  rw [List.getD_eq_getElem?_getD, List.getD_eq_getElem?_getD, List.getElem?_map]
  cases l[k]? <;> rfl
theorem mrk_len (l : List itm) : (mrk l).length = l.length := by unfold mrk; rw [List.length_map]
/-- the items that the operation makes -/
def mlR (ts : List tk) (c v : Nat) (l : List itm) : Int × List itf :=
  if c = 45 then (0, []) else match iB ts v with
    | none => (-401, mrk l)
    | some x => match mgA (mrk (if c = 61 then [] else l)) x with
      | none => (-413, mrk l)
      | some r => (0, r)
/-- and what becomes of the person -/
def fnR (p : prs) (q : Int × List itf) : Int × prs := if q.1 = 0 then fin p q.2 else (q.1, p)
theorem aMl_R (c v : Nat) (p : prs) : aMl ts c v p = fnR p (mlR ts c v (pit p)) := by
  unfold aMl mlR fnR
  by_cases e : c = 45
  · rw [if_pos e, if_pos e]; rfl
  · rw [if_neg e, if_neg e]
    cases iB ts v with
    | none => rfl
    | some x =>
      show (match mgA (mrk (if c = 61 then [] else pit p)) x with
        | none => (-413, p)
        | some l => fin p l) = _
      cases z : mgA (mrk (if c = 61 then [] else pit p)) x with
      | none => simp only [z]; rfl
      | some r => simp only [z]; rfl
theorem rm_mlL (S : rm_TK h ts) (K : tkOK ts) {c v b : Int32} : ∀ ms r l h1, chn ts 3 false ms → (∀ m ∈ ms, vOk ts m) → iL ts ms = some r → dI h1 l → mf P79 h h1 → (∀ i, i < 659 → mi h1 77 i = mi h 77 i) →
    ∃ h', mx_G (d + 6) 314 89 [some (.ref 76), some (.int c), some (.int v), some (.int b), some (.int 1), some (.int (nx ms))] [] h1 = some (some (.int (if (mgA l r).isSome = true then 0 else -413)), h') ∧ mf P79 h h' ∧ (∀ i, i < 659 → mi h' 77 i = mi h 77 i) ∧ ∀ l', mgA l r = some l' → dI h' l' := by
  intro ms
  induction ms with
  | nil =>
    intro r l h1 _ _ hr D m fr
    have hr : [] = r := Option.some.inj hr
    subst hr
    refine ⟨h1, ?_, m, fr, fun l' e => ?_⟩
    · rw [r314_89, r314_91, if_pos nx_n]
      simp only [r314_119, r314_121, r314_124, r314_125, r314_128, r314_131, mx_isr_ref, mx_isr_null, mx_wt_nil, mx_wt_1, mx_wt_2, mx_wt_3, Option.bind_some, Option.toList_some, Option.toList_none, List.cons_append, List.nil_append, mx_nl_int, mx_nl_ref, mx_nl_null, mx_nl_none, mx_nb0, mx_nb1, mx_fb0, mx_fb1, mx_cat_int, mx_cat_ref, if_true, if_false, not_true_eq_false, not_false_eq_true, show ¬ (1 : Int32) = 0 by decide]
      rfl
    · rw [mgA] at e
      exact Option.some.inj e ▸ D
  | cons x ms ih =>
    intro r l h1 hc hv hr D m fr
    have T := m.1
    have S1 := TK_mf S m tk79
    have hvx := hv x (List.mem_cons_self ..)
    have ml := vOk_lt hvx
    have hl := S.1.2.1
    have n1 : ¬ nx (x :: ms) < 0 := nx_nn (by omega) ms
    rw [iL] at hr
    cases z : iW ts x with
    | none => rw [z] at hr; cases hr
    | some y =>
      rw [z] at hr
      cases z2 : iL ts ms with
      | none => rw [z2] at hr; cases hr
      | some r' =>
        rw [z2] at hr
        have hr : y :: r' = r := Option.some.inj hr
        subst hr
        obtain ⟨h2, ra, m2, f2, D2⟩ := rm_addItem (d := d) S1 K D hvx z
        have M := mf_trans m m2
        have S2 := TK_mf S M tk79
        have T2 := M.1
        have fr2 : ∀ i, i < 659 → mi h2 77 i = mi h 77 i := fun i hi => (f2 i hi).trans (fr i hi)
        have af : mx_G (d + 5) 257 0 [some (.ref 76), some (.int (nI x)), some (.int 0), none] [] h2 = some (some (.int (nx ms)), h2) := rm_after (d := d + 3) S2.1 hc
        rw [mgA]
        cases z3 : mg l y with
        | none =>
          rw [z3] at ra
          refine ⟨h2, ?_, M, fr2, fun l' e => by cases e⟩
          have s1 : mx_G (d + 6) 314 89 [some (.ref 76), some (.int c), some (.int v), some (.int b), some (.int 1), some (.int (nx (x :: ms)))] [] h1 = mx_G (d + 6) 314 89 [some (.ref 76), some (.int c), some (.int v), some (.int b), some (.int 0), some (.int (nx ms))] [] h2 := by
            rw [r314_89, r314_91, if_neg n1]
            rw [show nx (x :: ms) = nI x from rfl]
            simp only [r314_94, r314_96, r314_99, r314_100, r314_102, r314_105, r314_107, r314_108, r314_110, r314_111, r314_114, r314_116, mx_isr_ref, mx_isr_null, mx_wt_nil, mx_wt_1, mx_wt_2, mx_wt_3, Option.bind_some, Option.toList_some, Option.toList_none, List.cons_append, List.nil_append, mx_nl_int, mx_nl_ref, mx_nl_null, mx_nl_none, mx_nb0, mx_nb1, mx_fb0, mx_fb1, mx_cat_int, mx_cat_ref, if_true, if_false, not_true_eq_false, not_false_eq_true, T, T2, ra, af, Option.isSome_none, Bool.false_eq_true, show ¬ (1 : Int32) = 0 by decide]
          rw [s1]
          by_cases c2 : nx ms < 0
          · simp only [r314_89, r314_91, r314_94, r314_96, r314_99, r314_100, r314_102, r314_105, r314_107, r314_108, r314_110, r314_111, r314_114, r314_116, r314_119, r314_121, r314_124, r314_125, r314_128, r314_131, mx_isr_ref, mx_isr_null, mx_wt_nil, mx_wt_1, mx_wt_2, mx_wt_3, Option.bind_some, Option.toList_some, Option.toList_none, List.cons_append, List.nil_append, mx_nl_int, mx_nl_ref, mx_nl_null, mx_nl_none, mx_nb0, mx_nb1, mx_fb0, mx_fb1, mx_cat_int, mx_cat_ref, if_true, if_false, not_true_eq_false, not_false_eq_true, c2]
            rfl
          · simp only [r314_89, r314_91, r314_94, r314_96, r314_99, r314_100, r314_102, r314_105, r314_107, r314_108, r314_110, r314_111, r314_114, r314_116, r314_119, r314_121, r314_124, r314_125, r314_128, r314_131, mx_isr_ref, mx_isr_null, mx_wt_nil, mx_wt_1, mx_wt_2, mx_wt_3, Option.bind_some, Option.toList_some, Option.toList_none, List.cons_append, List.nil_append, mx_nl_int, mx_nl_ref, mx_nl_null, mx_nl_none, mx_nb0, mx_nb1, mx_fb0, mx_fb1, mx_cat_int, mx_cat_ref, if_true, if_false, not_true_eq_false, not_false_eq_true, c2]
            rfl
        | some l2 =>
          rw [z3] at ra
          obtain ⟨h3, r3, m3, f3, D3⟩ := ih r' l2 h2 hc.2.2 (fun a ha => hv a (List.mem_cons_of_mem _ ha)) z2 (D2 l2 z3) M fr2
          refine ⟨h3, ?_, m3, f3, D3⟩
          show _ = some (some (Value.int (if (mgA l2 r').isSome = true then 0 else -413)), h3)
          rw [← r3, r314_89, r314_91, if_neg n1]
          rw [show nx (x :: ms) = nI x from rfl]
          simp only [r314_94, r314_96, r314_99, r314_100, r314_102, r314_105, r314_107, r314_108, r314_110, r314_111, r314_114, r314_116, mx_isr_ref, mx_isr_null, mx_wt_nil, mx_wt_1, mx_wt_2, mx_wt_3, Option.bind_some, Option.toList_some, Option.toList_none, List.cons_append, List.nil_append, mx_nl_int, mx_nl_ref, mx_nl_null, mx_nl_none, mx_nb0, mx_nb1, mx_fb0, mx_fb1, mx_cat_int, mx_cat_ref, if_true, if_false, not_true_eq_false, not_false_eq_true, T, T2, ra, af, Option.isSome_some, show ¬ (1 : Int32) = 0 by decide]
theorem dI_nil {l : List itm} (D : dI h (mrk l)) : mf P79 h (mx_up h 77 659 (.int 0)) → mr_T h → dI (mx_up h 77 659 (.int 0)) (mrk []) := by
  intro m T
  have e0 : mi (mx_up h 77 659 (.int 0)) 77 659 = nI (mrk []).length := by rw [mi_r T (by decide), if_pos rfl]; rfl
  refine ⟨by decide, e0, fun x hx => (List.not_mem_nil hx).elim, fun k hk => (Nat.not_lt_zero k hk).elim, fun k hk => ?_⟩
  rw [mi_up, if_neg (by omega), D.2.2.2.2 k hk, xG_mrk, xG_mrk]
theorem rm_doMail (S : rm_TK h ts) (K : tkOK ts) {l : List itm} (D : dI h (mrk l)) {c v : Nat} (hc : c < 128) (hv : c ≠ 45 → vOk ts v) :
    ∃ h', mx_G (d + 6) 314 0 [some (.ref 76), some (.int (nI c)), some (.int (nI v)), none, none, none] [] h = some (some (.int (Int32.ofInt (mlR ts c v l).1)), h') ∧ mf P79 h h' ∧ (∀ i, i < 659 → mi h' 77 i = mi h 77 i) ∧ ((mlR ts c v l).1 = 0 → dI h' (mlR ts c v l).2) := by
  have T := S.1.1
  have hl := S.1.2.1
  have s1 := rm_set (d := d + 5) T (s := 8) (o := 19) (v := 0) (by decide)
  rw [show nI 8 = 8 from rfl, show nI 19 = 19 from rfl, show 80 * 8 + 19 = 659 from rfl] at s1
  have m1 : mf P79 h (mx_up h 77 659 (.int 0)) := mf_up (mf_rfl T) (by decide) (P79_t (by decide))
  have D0 := dI_nil D m1 T
  have fr1 : ∀ i, i < 659 → mi (mx_up h 77 659 (.int 0)) 77 i = mi h 77 i := fun i hi => by rw [mi_r T (by decide), if_neg (by omega)]
  unfold mlR
  by_cases c45 : c = 45
  · have e : nI c = 45 := by rw [c45]; rfl
    simp only [if_pos c45]
    refine ⟨_, ?_, m1, fr1, fun _ => D0⟩
    simp only [r314_0, r314_1, r314_3, r314_6, r314_7, r314_9, r314_11, r314_12, r314_15, r314_16, mx_isr_ref, mx_isr_null, mx_wt_nil, mx_wt_1, mx_wt_2, mx_wt_3, Option.bind_some, Option.toList_some, Option.toList_none, List.cons_append, List.nil_append, mx_nl_int, mx_nl_ref, mx_nl_null, mx_nl_none, mx_nb0, mx_nb1, mx_fb0, mx_fb1, mx_cat_int, mx_cat_ref, if_true, if_false, not_true_eq_false, not_false_eq_true, T, m1.1, eq_true e, s1]
    rfl
  · have e : ¬ nI c = 45 := fun z => c45 ((nI_eq (b := 45) (by omega) (by decide)).mp z)
    simp only [if_neg c45]
    have hv := hv c45
    have vl := vOk_lt hv
    have ii : mx_G (d + 5) 266 0 [some (.ref 76), some (.int (nI v)), some (.int 1), none, none] [] h = some (some (.int (if iiB ts v true = true then 1 else 0)), h) := rm_isItem (d := d + 1) S hv true
    have is := rm_isItems (d := d) S hv
    -- the heap behind the sign
    have key : ∃ h1, dI h1 (mrk (if c = 61 then [] else l)) ∧ mf P79 h h1 ∧ (∀ i, i < 659 → mi h1 77 i = mi h 77 i) ∧ ∀ b : Bool, mx_G (d + 6) 314 40 [some (.ref 76), some (.int (nI c)), some (.int (nI v)), some (.int (if b = true then 1 else 0)), none, none] [] h = mx_G (d + 6) 314 55 [some (.ref 76), some (.int (nI c)), some (.int (nI v)), some (.int (if b = true then 1 else 0)), none, none] [] h1 := by
      by_cases c61 : c = 61
      · have e2 : nI c = 61 := by rw [c61]; rfl
        rw [if_pos c61]
        refine ⟨_, D0, m1, fr1, fun b => ?_⟩
        simp only [r314_40, r314_41, r314_43, r314_46, r314_47, r314_49, r314_51, r314_52, mx_isr_ref, mx_isr_null, mx_wt_nil, mx_wt_1, mx_wt_2, mx_wt_3, Option.bind_some, Option.toList_some, Option.toList_none, List.cons_append, List.nil_append, mx_nl_int, mx_nl_ref, mx_nl_null, mx_nl_none, mx_nb0, mx_nb1, mx_fb0, mx_fb1, mx_cat_int, mx_cat_ref, if_true, if_false, not_true_eq_false, not_false_eq_true, T, m1.1, eq_true e2, s1]
      · have e2 : ¬ nI c = 61 := fun z => c61 ((nI_eq (b := 61) (by omega) (by decide)).mp z)
        rw [if_neg c61]
        refine ⟨h, D, mf_rfl T, fun _ _ => rfl, fun b => ?_⟩
        simp only [r314_40, r314_41, r314_43, mx_isr_ref, mx_isr_null, mx_wt_nil, mx_wt_1, mx_wt_2, mx_wt_3, Option.bind_some, Option.toList_some, Option.toList_none, List.cons_append, List.nil_append, mx_nl_int, mx_nl_ref, mx_nl_null, mx_nl_none, mx_nb0, mx_nb1, mx_fb0, mx_fb1, mx_cat_int, mx_cat_ref, if_true, if_false, not_true_eq_false, not_false_eq_true, eq_false e2]
    obtain ⟨h1, Dh, mh, frh, st⟩ := key
    generalize mrk (if c = 61 then [] else l) = l0 at *
    have S1 := TK_mf S mh tk79
    have T1 := mh.1
    cases z : iW ts v with
    | some x =>
      have h123 := (iW_some hv z).1
      have h91 : tI ts v 91 = false := by
        cases y : tI ts v 91 with
        | false => rfl
        | true => have a := tI_eq.1 y; have b := tI_eq.1 h123; omega
      have eb : iB ts v = some [x] := by unfold iB; rw [h91, z]; rfl
      rw [eb]
      have wt := iiB_W hv
      rw [z] at wt
      rw [← wt] at ii
      have st := st true
      obtain ⟨h2, ra, m2, f2, D2⟩ := rm_addItem (d := d) S1 K Dh hv z
      have M := mf_trans mh m2
      have fr2 : ∀ i, i < 659 → mi h2 77 i = mi h 77 i := fun i hi => (f2 i hi).trans (frh i hi)
      have T2 := M.1
      have s2 : mx_G (d + 6) 314 0 [some (.ref 76), some (.int (nI c)), some (.int (nI v)), none, none, none] [] h = mx_G (d + 6) 314 55 [some (.ref 76), some (.int (nI c)), some (.int (nI v)), some (.int 1), none, none] [] h1 := by
        rw [if_pos rfl] at st
        rw [← st]
        simp only [r314_0, r314_1, r314_3, r314_6, r314_7, r314_9, r314_11, r314_12, r314_15, r314_16, r314_17, r314_18, r314_19, r314_20, r314_23, r314_24, r314_25, mx_isr_ref, mx_isr_null, mx_wt_nil, mx_wt_1, mx_wt_2, mx_wt_3, Option.bind_some, Option.toList_some, Option.toList_none, List.cons_append, List.nil_append, mx_nl_int, mx_nl_ref, mx_nl_null, mx_nl_none, mx_nb0, mx_nb1, mx_fb0, mx_fb1, mx_cat_int, mx_cat_ref, if_true, if_false, not_true_eq_false, not_false_eq_true, T, e, ii, Option.isSome_some, show ¬ (1 : Int32) = 0 by decide]
      rw [s2]
      cases z3 : mg l0 x with
      | none =>
        rw [z3] at ra
        have em : mgA l0 [x] = none := by rw [mgA, z3]; rfl
        simp only [em]
        refine ⟨h2, ?_, M, fr2, fun q => absurd q (by decide)⟩
        simp only [r314_55, r314_56, r314_59, r314_60, r314_61, r314_64, r314_67, r314_68, r314_71, r314_72, r314_74, r314_75, r314_78, r314_79, r314_82, r314_83, r314_84, r314_87, r314_89, r314_91, r314_94, r314_96, r314_99, r314_100, r314_102, r314_105, r314_107, r314_108, r314_110, r314_111, r314_114, r314_116, r314_119, r314_121, r314_124, r314_125, r314_128, r314_131, mx_isr_ref, mx_isr_null, mx_wt_nil, mx_wt_1, mx_wt_2, mx_wt_3, Option.bind_some, Option.toList_some, Option.toList_none, List.cons_append, List.nil_append, mx_nl_int, mx_nl_ref, mx_nl_null, mx_nl_none, mx_nb0, mx_nb1, mx_fb0, mx_fb1, mx_cat_int, mx_cat_ref, if_true, if_false, not_true_eq_false, not_false_eq_true, T1, T2, ra, Option.isSome_none, Bool.false_eq_true, show ¬ (1 : Int32) = 0 by decide, show (-1 : Int32) < 0 by decide]
        rfl
      | some l2 =>
        rw [z3] at ra
        have em : mgA l0 [x] = some l2 := by rw [mgA, z3]; rfl
        simp only [em]
        refine ⟨h2, ?_, M, fr2, fun _ => D2 l2 z3⟩
        simp only [r314_55, r314_56, r314_59, r314_60, r314_61, r314_64, r314_67, r314_68, r314_71, r314_72, r314_74, r314_75, r314_78, r314_79, r314_82, r314_83, r314_84, r314_87, r314_89, r314_91, r314_94, r314_96, r314_99, r314_100, r314_102, r314_105, r314_107, r314_108, r314_110, r314_111, r314_114, r314_116, r314_119, r314_121, r314_124, r314_125, r314_128, r314_131, mx_isr_ref, mx_isr_null, mx_wt_nil, mx_wt_1, mx_wt_2, mx_wt_3, Option.bind_some, Option.toList_some, Option.toList_none, List.cons_append, List.nil_append, mx_nl_int, mx_nl_ref, mx_nl_null, mx_nl_none, mx_nb0, mx_nb1, mx_fb0, mx_fb1, mx_cat_int, mx_cat_ref, if_true, if_false, not_true_eq_false, not_false_eq_true, T1, T2, ra, Option.isSome_some, show ¬ (1 : Int32) = 0 by decide, show (-1 : Int32) < 0 by decide]
        rfl
    | none =>
      have wt := iiB_W hv
      rw [z] at wt
      rw [← wt] at ii
      cases y : tI ts v 91 with
      | false =>
        have ea : iA ts v = none := by unfold iA; rw [y]; rfl
        have eb : iB ts v = none := by unfold iB; rw [y, z]; rfl
        rw [ea] at is
        rw [eb]
        refine ⟨h, ?_, mf_rfl T, fun _ _ => rfl, fun q => absurd (show (-401 : Int) = 0 from q) (by decide)⟩
        simp only [r314_0, r314_1, r314_3, r314_6, r314_7, r314_9, r314_11, r314_12, r314_15, r314_16, r314_17, r314_18, r314_19, r314_20, r314_23, r314_24, r314_25, r314_28, r314_29, r314_30, r314_33, r314_36, r314_39, mx_isr_ref, mx_isr_null, mx_wt_nil, mx_wt_1, mx_wt_2, mx_wt_3, Option.bind_some, Option.toList_some, Option.toList_none, List.cons_append, List.nil_append, mx_nl_int, mx_nl_ref, mx_nl_null, mx_nl_none, mx_nb0, mx_nb1, mx_fb0, mx_fb1, mx_cat_int, mx_cat_ref, if_true, if_false, not_true_eq_false, not_false_eq_true, T, e, ii, is, Option.isSome_none, Bool.false_eq_true]
        rfl
      | true =>
        have ea : iA ts v = iL ts (kd ts v) := by unfold iA; rw [y]; rfl
        have eb : iB ts v = iL ts (kd ts v) := by unfold iB; rw [y]; rfl
        rw [ea] at is
        rw [eb]
        cases z4 : iL ts (kd ts v) with
        | none =>
          rw [z4] at is
          refine ⟨h, ?_, mf_rfl T, fun _ _ => rfl, fun q => absurd (show (-401 : Int) = 0 from q) (by decide)⟩
          simp only [r314_0, r314_1, r314_3, r314_6, r314_7, r314_9, r314_11, r314_12, r314_15, r314_16, r314_17, r314_18, r314_19, r314_20, r314_23, r314_24, r314_25, r314_28, r314_29, r314_30, r314_33, r314_36, r314_39, mx_isr_ref, mx_isr_null, mx_wt_nil, mx_wt_1, mx_wt_2, mx_wt_3, Option.bind_some, Option.toList_some, Option.toList_none, List.cons_append, List.nil_append, mx_nl_int, mx_nl_ref, mx_nl_null, mx_nl_none, mx_nb0, mx_nb1, mx_fb0, mx_fb1, mx_cat_int, mx_cat_ref, if_true, if_false, not_true_eq_false, not_false_eq_true, T, e, ii, is, Option.isSome_none, Bool.false_eq_true]
          rfl
        | some r =>
          rw [z4] at is
          have st := st false
          obtain ⟨e0, hE, -⟩ := id hv
          have fi := rm_first (d := d + 4) S1.1 (by omega) hE (Or.inr y)
          obtain ⟨h2, rl, m2, f2, D2⟩ := rm_mlL (d := d) S K (c := nI c) (v := nI v) (b := 0) _ r l0 h1 (kd_chn.2 y) (vOk_arr hv y) z4 Dh mh frh
          have s2 : mx_G (d + 6) 314 0 [some (.ref 76), some (.int (nI c)), some (.int (nI v)), none, none, none] [] h = some (some (.int (if (mgA l0 r).isSome = true then 0 else -413)), h2) := by
            rw [if_neg (by decide)] at st
            rw [← rl]
            have s3 : mx_G (d + 6) 314 0 [some (.ref 76), some (.int (nI c)), some (.int (nI v)), none, none, none] [] h = mx_G (d + 6) 314 40 [some (.ref 76), some (.int (nI c)), some (.int (nI v)), some (.int 0), none, none] [] h := by
              simp only [r314_0, r314_1, r314_3, r314_6, r314_7, r314_9, r314_11, r314_12, r314_15, r314_16, r314_17, r314_18, r314_19, r314_20, r314_23, r314_24, r314_25, r314_28, r314_29, r314_30, r314_33, mx_isr_ref, mx_isr_null, mx_wt_nil, mx_wt_1, mx_wt_2, mx_wt_3, Option.bind_some, Option.toList_some, Option.toList_none, List.cons_append, List.nil_append, mx_nl_int, mx_nl_ref, mx_nl_null, mx_nl_none, mx_nb0, mx_nb1, mx_fb0, mx_fb1, mx_cat_int, mx_cat_ref, if_true, if_false, not_true_eq_false, not_false_eq_true, T, e, ii, is, Option.isSome_none, Option.isSome_some, Bool.false_eq_true, show ¬ (1 : Int32) = 0 by decide]
            rw [s3, st]
            simp only [r314_55, r314_56, r314_59, r314_60, r314_61, r314_64, r314_67, r314_68, r314_71, r314_72, r314_74, r314_75, r314_78, r314_79, r314_82, r314_83, r314_84, r314_87, mx_isr_ref, mx_isr_null, mx_wt_nil, mx_wt_1, mx_wt_2, mx_wt_3, Option.bind_some, Option.toList_some, Option.toList_none, List.cons_append, List.nil_append, mx_nl_int, mx_nl_ref, mx_nl_null, mx_nl_none, mx_nb0, mx_nb1, mx_fb0, mx_fb1, mx_cat_int, mx_cat_ref, if_true, if_false, not_true_eq_false, not_false_eq_true, T1, fi]
          rw [s2]
          cases z5 : mgA l0 r with
          | none =>
            simp only [z5]
            exact ⟨h2, rfl, m2, f2, fun q => absurd q (by decide)⟩
          | some l2 =>
            simp only [z5]
            exact ⟨h2, rfl, m2, f2, fun _ => D2 l2 z5⟩
end
