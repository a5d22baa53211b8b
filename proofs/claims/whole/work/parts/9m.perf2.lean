section
variable {d : Nat} {h : mx_H} {ts : List tk}
def Ppf (a k : Nat) : Bool := P79 a k || Pcz a k
theorem tkpf : tkP Ppf := ⟨rfl, fun _ => ⟨rfl, rfl, rfl, rfl, rfl⟩⟩
theorem pf79 : ∀ a k, Ppf a k = false → P79 a k = false := fun a k e => by unfold Ppf at e; simp at e; exact e.1
theorem pfcz : ∀ a k, Ppf a k = false → Pcz a k = false := fun a k e => by unfold Ppf at e; simp at e; exact e.2
theorem rc_it {h h' : mx_H} {p : prs} {l : List itm} (R : rcP h 8 p) (e : ∀ i, i < 659 → mi h' 77 i = mi h 77 i) (W : wIt8 h' l) : rcP h' 8 (sIt p l) := by
  refine ⟨fun o ho => ?_, W.2.2.2⟩
  by_cases q : o = 19
  · subst q
    exact W.2.1
  · rw [e _ (by omega), pe_it (by omega)]
    exact R.1 o ho
theorem dI_rc {p : prs} (R : rcP h 8 p) (W : wfP p) (z : ∀ k, k < 5 → mi h 99 k = 0) : dI h (mrk (pit p)) := by
  refine ⟨by rw [mrk_len]; exact W.2.2.1, by rw [mrk_len]; exact R.1 19 (by decide), fun x hx => ?_, fun k hk => ?_, fun k hk => ?_⟩
  · obtain ⟨y, hy, rfl⟩ := List.mem_map.1 hx
    exact W.2.2.2.1 y hy
  · rw [mrk_len] at hk
    rw [xG_mrk]
    exact R.2 k hk
  · rw [z k hk, xG_mrk]; rfl
theorem bz_chs {way : Nat} {g : prs → Option Nat → Bool} {p : prs} (C : ∀ j, j < (pit p).length → mi h 98 j = if bz way g p j = true then 1 else 0) : cS h (chs (fun p i => if way < 9 then true else g p i) p) := by
  intro k hk
  unfold chs at hk ⊢
  rw [List.length_map, List.length_range] at hk
  rw [C k hk, List.getD_eq_getElem?_getD, List.getElem?_map, List.getElem?_range hk]
  rfl
theorem mlR_e (c v : Nat) (l : List itm) : (mlR ts c v l).1 = 0 ∨ (mlR ts c v l).1 = -401 ∨ (mlR ts c v l).1 = -413 := by
  unfold mlR
  split
  · exact Or.inl rfl
  · split
    · exact Or.inr (Or.inl rfl)
    · split
      · exact Or.inr (Or.inr rfl)
      · exact Or.inl rfl
theorem chR_e (c part v : Nat) (bs : List Bool) (l : List itm) : (chR ts c part v bs l).1 = 0 ∨ (chR ts c part v bs l).1 = -401 ∨ (chR ts c part v bs l).1 = -402 ∨ (chR ts c part v bs l).1 = -403 := by
  unfold chR
  split
  · exact Or.inr (Or.inr (Or.inl rfl))
  · split
    · exact Or.inl rfl
    · split
      · exact Or.inr (Or.inr (Or.inr rfl))
      · split
        · exact Or.inl rfl
        · exact Or.inr (Or.inl rfl)
theorem aPl_e (c way v : Nat) (p : prs) : (aPl ts c way v p).1 = 0 ∨ (aPl ts c way v p).1 = -401 ∨ (aPl ts c way v p).1 = -402 := by
  unfold aPl
  repeat' split
  all_goals first | exact Or.inl rfl | exact Or.inr (Or.inl rfl) | exact Or.inr (Or.inr rfl)
theorem aPl_it (c way v : Nat) (p : prs) : pit (aPl ts c way v p).2 = pit p := by
  unfold aPl
  repeat' split
  all_goals rfl
/-- from the answer of the three on -/
theorem rm_pfE {a b c e f : Option Value} {ec : Int} (hf : mx_nl f = true) (he : ec = 0 ∨ ec = -401 ∨ ec = -402 ∨ ec = -403 ∨ ec = -413) {p : prs} {l : List itf} {x : Int32} {h0 h1 : mx_H} (T1 : mr_T h1) (R : rcP h0 8 p) (fr : ∀ i, i < 659 → mi h1 77 i = mi h0 77 i) (D : ec = 0 → dI h1 l) :
    ∃ h', mx_G (d + 2) 302 140 [some (.ref 76), a, b, c, e, f, some (.int x), none, none] [.int (Int32.ofInt ec)] h1 = some (some (.int (Int32.ofInt (fnR p (ec, l)).1)), h') ∧ mf P79 h1 h' ∧ ((fnR p (ec, l)).1 = 0 → rcP h' 8 (fnR p (ec, l)).2) := by
  by_cases z : ec = 0
  · subst z
    obtain ⟨h', r, m, f', W⟩ := rm_keep (d := d) (D rfl) T1 (a := a) (b := b) (c := c) (e := e) (f := f) (g := 0)
    refine ⟨h', ?_, m, ?_⟩
    · have s1 : mx_G (d + 2) 302 140 [some (.ref 76), a, b, c, e, f, some (.int x), none, none] [.int (Int32.ofInt 0)] h1 = mx_G (d + 2) 302 150 [some (.ref 76), a, b, c, e, f, some (.int 0), none, none] [] h1 := by
        rw [show Int32.ofInt 0 = 0 from rfl]
        simp only [r302_140, r302_142, r302_144, mx_isr_ref, mx_isr_null, mx_wt_nil, mx_wt_1, mx_wt_2, mx_wt_3, Option.bind_some, Option.toList_some, Option.toList_none, List.cons_append, List.nil_append, mx_nl_int, mx_nl_ref, mx_nl_null, mx_nl_none, mx_nb0, mx_nb1, mx_fb0, mx_fb1, mx_cat_int, mx_cat_ref, if_true, if_false, not_true_eq_false, not_false_eq_true, hf, show ¬ (0 : Int32) < 0 by decide, show (0 : Int32) ≤ 0 by decide]
      rw [s1, r]
      show _ = some (some (Value.int (Int32.ofInt (fin p l).1)), h')
      unfold fin
      cases twn (kp l) <;> rfl
    · show (fin p l).1 = 0 → rcP h' 8 (fin p l).2
      unfold fin
      cases twn (kp l) with
      | true => intro q; exact absurd (show (-401 : Int) = 0 from q) (by decide)
      | false => intro _; exact rc_it R (fun i hi => (f' i hi).trans (fr i hi)) W
  · have e0 : fnR p (ec, l) = (ec, p) := by unfold fnR; rw [if_neg z]
    rw [e0]
    refine ⟨h1, ?_, mf_rfl T1, fun q => absurd q z⟩
    have n1 : ¬ (0 : Int32) ≤ Int32.ofInt ec := by rcases he with q | q | q | q | q <;> first | exact absurd q z | (rw [q]; decide)
    simp only [r302_140, r302_142, r302_144, r302_147, r302_149, mx_isr_ref, mx_isr_null, mx_wt_nil, mx_wt_1, mx_wt_2, mx_wt_3, Option.bind_some, Option.toList_some, Option.toList_none, List.cons_append, List.nil_append, mx_nl_int, mx_nl_ref, mx_nl_null, mx_nl_none, mx_nb0, mx_nb1, mx_fb0, mx_fb1, mx_cat_int, mx_cat_ref, if_true, if_false, not_true_eq_false, not_false_eq_true, hf, n1]
theorem rm_perform (S : rm_TK h ts) (K : tkOK ts) {p : prs} (R : rcP h 8 p) (W : wfP p) (b1 : p.1 < 2 ^ 20) (b2 : p.2.1 < 2 ^ 20) {c way low v : Nat} {q : cdP} (hc : c < 128) (w1 : 1 ≤ way) (w11 : way ≤ 11) {lo hi : Int32} (hV : 9 ≤ way → lo = nI low ∧ hi = nI (low + q.1.length) ∧ rowR h ts low q.1 ∧ cdV (hd ts) itn true q) (hv : c ≠ 45 → vOk ts v) (hv' : c ≠ 45 → v < 2 ^ 30) :
    ∃ h', mx_G (d + 7) 302 0 [some (.ref 76), some (.int (nI c)), some (.int (nI way)), some (.int lo), some (.int hi), some (.int (nI v)), none, none, none] [] h = some (some (.int (Int32.ofInt (aTg ts c way q.2 v p).1)), h') ∧ mf Ppf h h' ∧ ((aTg ts c way q.2 v p).1 = 0 → rcP h' 8 (aTg ts c way q.2 v p).2) := by
  have T := S.1.1
  have h4 := W.2.2.1
  obtain ⟨h1, r1, m1, g7, g9⟩ := rm_rs0 (d := d + 7) (a := some (.int (nI c))) (b := some (.int (nI way))) (c := some (.int lo)) (e := some (.int hi)) (f := some (.int (nI v))) (l7 := none) (l8 := none) rfl 5 0 h rfl T
  have T1 := m1.1
  have R1 : rcP h1 8 p := ⟨fun o ho => (g7 _).trans (R.1 o ho), fun k hk j hj => (g7 _).trans (R.2 k hk j hj)⟩
  have S1 := TK_mf S m1 tk79
  have z1 : ∀ k, k < 5 → mi h1 99 k = 0 := fun k hk => by rw [g9, if_pos ⟨Nat.zero_le _, hk⟩]
  have s1 : mx_G (d + 7) 302 0 [some (.ref 76), some (.int (nI c)), some (.int (nI way)), some (.int lo), some (.int hi), some (.int (nI v)), none, none, none] [] h = mx_G (d + 7) 302 26 [some (.ref 76), some (.int (nI c)), some (.int (nI way)), some (.int lo), some (.int hi), some (.int (nI v)), some (.int (nI 0)), none, none] [] h1 := by
    have s0 : mx_G (d + 7) 302 0 [some (.ref 76), some (.int (nI c)), some (.int (nI way)), some (.int lo), some (.int hi), some (.int (nI v)), none, none, none] [] h = mx_G (d + 7) 302 3 [some (.ref 76), some (.int (nI c)), some (.int (nI way)), some (.int lo), some (.int hi), some (.int (nI v)), some (.int (nI 0)), none, none] [] h := by
      simp only [r302_0, r302_1, mx_isr_ref, mx_isr_null, mx_wt_nil, mx_wt_1, mx_wt_2, mx_wt_3, Option.bind_some, Option.toList_some, Option.toList_none, List.cons_append, List.nil_append, mx_nl_int, mx_nl_ref, mx_nl_null, mx_nl_none, mx_nb0, mx_nb1, mx_fb0, mx_fb1, mx_cat_int, mx_cat_ref, if_true, if_false, not_true_eq_false, not_false_eq_true]
      rfl
    rw [s0, r1]
    simp only [r302_23, r302_24, mx_isr_ref, mx_isr_null, mx_wt_nil, mx_wt_1, mx_wt_2, mx_wt_3, Option.bind_some, Option.toList_some, Option.toList_none, List.cons_append, List.nil_append, mx_nl_int, mx_nl_ref, mx_nl_null, mx_nl_none, mx_nb0, mx_nb1, mx_fb0, mx_fb1, mx_cat_int, mx_cat_ref, if_true, if_false, not_true_eq_false, not_false_eq_true]
    rfl
  rw [s1]
  have f19 := rm_f (d := d + 6) T1 (s := 8) (o := 19) (by decide)
  rw [show mi h1 77 (80 * 8 + 19) = nI (pit p).length from R1.1 19 (by decide), show nI 8 = 8 from rfl, show nI 19 = 19 from rfl] at f19
  by_cases w6 : way ≤ 6
  · have nw : nI way ≤ 6 := nI_le (b := 6) w6 (by decide)
    have s2 : mx_G (d + 7) 302 26 [some (.ref 76), some (.int (nI c)), some (.int (nI way)), some (.int lo), some (.int hi), some (.int (nI v)), some (.int (nI 0)), none, none] [] h1 = mx_G (d + 7) 302 83 [some (.ref 76), some (.int (nI c)), some (.int (nI way)), some (.int lo), some (.int hi), some (.int (nI v)), some (.int (nI 0)), none, none] [] h1 := by
      by_cases y : nI (pit p).length ≤ nI 0
      · simp only [r302_26, r302_28, r302_29, r302_31, r302_33, r302_36, r302_39, r302_40, r302_42, mx_isr_ref, mx_isr_null, mx_wt_nil, mx_wt_1, mx_wt_2, mx_wt_3, Option.bind_some, Option.toList_some, Option.toList_none, List.cons_append, List.nil_append, mx_nl_int, mx_nl_ref, mx_nl_null, mx_nl_none, mx_nb0, mx_nb1, mx_fb0, mx_fb1, mx_cat_int, mx_cat_ref, if_true, if_false, not_true_eq_false, not_false_eq_true, T1, f19, y]
      · simp only [r302_26, r302_28, r302_29, r302_31, r302_33, r302_36, r302_39, r302_40, r302_42, mx_isr_ref, mx_isr_null, mx_wt_nil, mx_wt_1, mx_wt_2, mx_wt_3, Option.bind_some, Option.toList_some, Option.toList_none, List.cons_append, List.nil_append, mx_nl_int, mx_nl_ref, mx_nl_null, mx_nl_none, mx_nb0, mx_nb1, mx_fb0, mx_fb1, mx_cat_int, mx_cat_ref, if_true, if_false, not_true_eq_false, not_false_eq_true, T1, f19, y, nw]
    rw [s2]
    by_cases e6 : way = 6
    · subst e6
      have ea : aTg ts c 6 q.2 v p = fnR p (mlR ts c v (pit p)) := by rw [← aMl_R]; rfl
      rw [ea]
      obtain ⟨h2, r2, m2, f2, D2⟩ := rm_doMail (d := d) S1 K (dI_rc R1 W z1) hc hv
      have M := mf_trans m1 m2
      obtain ⟨h', r, m, G⟩ := rm_pfE (d := d + 5) (a := some (.int (nI c))) (b := some (.int (nI 6))) (c := some (.int lo)) (e := some (.int hi)) (f := some (.int (nI v))) (x := nI 0) rfl (by rcases mlR_e (ts := ts) c v (pit p) with y | y | y <;> simp only [y, true_or, or_true]) M.1 R1 f2 D2
      refine ⟨h', ?_, mf_mono pf79 (mf_trans M m), G⟩
      rw [← r]
      simp only [r302_83, r302_84, r302_86, r302_89, r302_90, r302_91, r302_92, r302_94, r302_97, r302_100, r302_101, r302_103, r302_106, r302_107, r302_108, r302_110, r302_113, mx_isr_ref, mx_isr_null, mx_wt_nil, mx_wt_1, mx_wt_2, mx_wt_3, Option.bind_some, Option.toList_some, Option.toList_none, List.cons_append, List.nil_append, mx_nl_int, mx_nl_ref, mx_nl_null, mx_nl_none, mx_nb0, mx_nb1, mx_fb0, mx_fb1, mx_cat_int, mx_cat_ref, if_true, if_false, not_true_eq_false, not_false_eq_true, T1, M.1, r2, show ¬ nI 6 < 6 by decide, show nI 6 = 6 by decide, show ¬ (6 : Int32) < 6 by decide, show (6 : Int32) ≤ 6 by decide]
    · have ea : aTg ts c way q.2 v p = aPl ts c way v p := by unfold aTg; rw [if_pos (by omega)]
      rw [ea]
      have l6 : ¬ (6 : Int32) ≤ nI way := nI_ge (b := 6) (by omega) (by decide)
      obtain ⟨h2, r2, m2, R2⟩ := rm_doPlain (d := d + 3) S1 K R1 W hc w1 (by omega) hv'
      have M := mf_trans m1 (mf_mono w79 m2)
      have W2 := (aPl_wf K c way v W).1
      have D2 := dI_rc R2 W2 fun k hk => (m2.2.1 99 k rfl).trans (z1 k hk)
      obtain ⟨h', r, m, G⟩ := rm_pfE (d := d + 5) (a := some (.int (nI c))) (b := some (.int (nI way))) (c := some (.int lo)) (e := some (.int hi)) (f := some (.int (nI v))) (x := nI 0) (ec := (aPl ts c way v p).1) rfl (by rcases aPl_e (ts := ts) c way v p with y | y | y <;> simp only [y, true_or, or_true]) M.1 R2 (fun _ _ => rfl) fun _ => D2
      have e2 : fnR (aPl ts c way v p).2 ((aPl ts c way v p).1, mrk (pit (aPl ts c way v p).2)) = aPl ts c way v p := by
        unfold fnR fin
        rw [kp_mrk, W2.2.2.2.2]
        by_cases y : (aPl ts c way v p).1 = 0
        · simp only [y, if_true, Bool.false_eq_true, if_false]
          rw [← y]
          rfl
        · simp only [if_neg y]
      rw [e2] at r G
      refine ⟨h', ?_, mf_mono pf79 (mf_trans M m), G⟩
      rw [← r]
      simp only [r302_83, r302_84, r302_86, r302_89, r302_90, r302_91, r302_92, r302_94, r302_97, mx_isr_ref, mx_isr_null, mx_wt_nil, mx_wt_1, mx_wt_2, mx_wt_3, Option.bind_some, Option.toList_some, Option.toList_none, List.cons_append, List.nil_append, mx_nl_int, mx_nl_ref, mx_nl_null, mx_nl_none, mx_nb0, mx_nb1, mx_fb0, mx_fb1, mx_cat_int, mx_cat_ref, if_true, if_false, not_true_eq_false, not_false_eq_true, T1, M.1, r2, l6]
  · obtain ⟨h2, x, r2, m2, C⟩ := rm_chz (d := d) S1 K R1 W b1 b2 (way := way) (low := low) (q := q) (by omega) w11 (lo := lo) (hi := hi) (c := nI c) (v := nI v) (fun y => by
      obtain ⟨a, b, V, cv⟩ := hV y
      exact ⟨a, b, ⟨V.1, fun j hj => ⟨stpR_keep (V.2 j hj).1 (m1.2.1 _ _ rfl) (m1.2.1 _ _ rfl) (m1.2.2 _ _ (Or.inr rfl) rfl) (m1.2.1 _ _ rfl) (m1.2.1 _ _ rfl), (V.2 j hj).2⟩⟩, cv⟩) (pit p).length 0 h1 (Nat.zero_add _) (mf_rfl T1) fun j hj => absurd hj (Nat.not_lt_zero _)
    rw [r2]
    have T2 := m2.1
    have R2 := rc_cz R1 m2
    have C2 := bz_chs C
    have D2 := dI_rc R2 W fun k hk => (m2.2.1 99 k rfl).trans (z1 k hk)
    have l6 : (6 : Int32) ≤ nI way := nI_le (a := 6) (by omega) (by omega)
    have n6 : ¬ nI way = 6 := fun y => by have := (nI_eq (b := 6) (by omega) (by decide)).mp y; omega
    generalize epr : (if way < 9 then way - 6 else way - 9) = part
    have hp : part < 3 := by rw [← epr]; split <;> omega
    have ea : aTg ts c way q.2 v p = aCh ts c part v (fun p i => if way < 9 then true else q.2 p i) p := by
      unfold aTg
      rw [if_neg (by omega), if_neg (by omega), ← epr]
      by_cases y : way < 9
      · simp only [if_pos y]
      · simp only [if_neg y]
    rw [ea, aCh_R hp W hv]
    generalize ebs : chs (fun p i => if way < 9 then true else q.2 p i) p = bs at *
    have hb : bs.length = (pit p).length := by rw [← ebs]; unfold chs; rw [List.length_map, List.length_range]
    obtain ⟨h3, r3, m3, f3, D3⟩ := rm_doChosen (d := d) (TK_mf S1 m2 tkcz) K D2 hb C2 hc hp hv hv'
    have M : mf Ppf h h3 := mf_trans (mf_mono pf79 m1) (mf_trans (mf_mono pfcz m2) (mf_mono pf79 m3))
    obtain ⟨h', r, m, G⟩ := rm_pfE (d := d + 5) (a := some (.int (nI c))) (b := some (.int (nI way))) (c := some (.int lo)) (e := some (.int hi)) (f := some (.int (nI v))) (x := x) rfl (by rcases chR_e (ts := ts) c part v bs (pit p) with y | y | y | y <;> simp only [y, true_or, or_true]) M.1 R2 f3 D3
    refine ⟨h', ?_, mf_trans M (mf_mono pf79 m), G⟩
    rw [← r]
    by_cases y : way < 9
    · have y9 : ¬ (9 : Int32) ≤ nI way := nI_ge (b := 9) y (by decide)
      have es : nI way - 6 = nI part := by
        rw [← epr, if_pos y]
        rcases (show way = 7 ∨ way = 8 by omega) with w | w <;> rw [w] <;> decide
      simp only [r302_83, r302_84, r302_86, r302_89, r302_90, r302_91, r302_92, r302_94, r302_97, r302_100, r302_101, r302_103, r302_106, r302_107, r302_108, r302_110, r302_113, r302_116, r302_117, r302_118, r302_119, r302_121, r302_124, r302_125, r302_127, r302_128, r302_131, r302_132, r302_134, r302_135, r302_137, mx_isr_ref, mx_isr_null, mx_wt_nil, mx_wt_1, mx_wt_2, mx_wt_3, Option.bind_some, Option.toList_some, Option.toList_none, List.cons_append, List.nil_append, mx_nl_int, mx_nl_ref, mx_nl_null, mx_nl_none, mx_nb0, mx_nb1, mx_fb0, mx_fb1, mx_cat_int, mx_cat_ref, if_true, if_false, not_true_eq_false, not_false_eq_true, T2, M.1, r3, l6, n6, y9, es]
    · have y9 : (9 : Int32) ≤ nI way := nI_le (a := 9) (by omega) (by omega)
      have es : nI way - 9 = nI part := by
        rw [← epr, if_neg y]
        rcases (show way = 9 ∨ way = 10 ∨ way = 11 by omega) with w | w | w <;> rw [w] <;> decide
      simp only [r302_83, r302_84, r302_86, r302_89, r302_90, r302_91, r302_92, r302_94, r302_97, r302_100, r302_101, r302_103, r302_106, r302_107, r302_108, r302_110, r302_113, r302_116, r302_117, r302_118, r302_119, r302_121, r302_124, r302_125, r302_127, r302_128, r302_131, r302_132, r302_134, r302_135, r302_137, mx_isr_ref, mx_isr_null, mx_wt_nil, mx_wt_1, mx_wt_2, mx_wt_3, Option.bind_some, Option.toList_some, Option.toList_none, List.cons_append, List.nil_append, mx_nl_int, mx_nl_ref, mx_nl_null, mx_nl_none, mx_nb0, mx_nb1, mx_fb0, mx_fb1, mx_cat_int, mx_cat_ref, if_true, if_false, not_true_eq_false, not_false_eq_true, T2, M.1, r3, l6, n6, y9, es]
end
