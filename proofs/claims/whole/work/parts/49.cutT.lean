section
variable {d : Nat}
/-- one token more: where it ends, and what it is -/
theorem rm_tok {h : mx_H} {bs : List Nat} {p w : Nat} {ts : List tk} {v2 v3 : Option Value} (B : rm_buf h bs) (hp : p < bs.length) (h32 : bs.getD p 0 ≠ 32) (S : rm_ts h w ts) (hw : mi h 76 10 = nI w) (hwp : w ≤ p) (htp : ts.length ≤ p) :
    ∃ (h' : mx_H) (P v2' v3' : Int32), mx_G (d + 3) 240 24 [some (.ref 76), some (.int (nI p)), v2, v3] [] h = mx_G (d + 3) 240 12 [some (.ref 76), some (.int P), some (.int v2'), some (.int v3')] [] h' ∧ rm_buf h' bs ∧ rm_fr h h' ∧
      (((lx_one (bs.getD p 0) (bs.drop (p + 1))).1.1 = 4 ∧ P = -1 ∧ mi h' 76 4 = nI (ts.length + 1)) ∨
       ((lx_one (bs.getD p 0) (bs.drop (p + 1))).1.1 ≠ 4 ∧ ∃ p' w', P = nI p' ∧ p < p' ∧ p' ≤ bs.length ∧ bs.drop p' = (lx_one (bs.getD p 0) (bs.drop (p + 1))).2 ∧ mi h' 76 10 = nI w' ∧ w' ≤ p' ∧ rm_ts h' w' (ts ++ [(lx_one (bs.getD p 0) (bs.drop (p + 1))).1]))) := by
  have hT := B.1
  have hb := B.2.1
  have ht := S.1
  have htn : ts.length < 130 := by omega
  have hc := rm_buf_lt B p
  have hdp : bs.drop p = bs.getD p 0 :: bs.drop (p + 1) := by
    rw [List.drop_eq_getElem_cons hp, List.getD_eq_getElem?_getD, List.getElem?_eq_getElem hp]
    rfl
  have hd1 : bs.getD (p + 1) 0 = (bs.drop (p + 1)).getD 0 0 := by rw [show p + 1 = (p + 1) + 0 by omega, getD_drop]
  -- the heap when the kind is known
  generalize hK : lx_kd (bs.getD p 0) (lx_isn bs p) = K
  generalize hh1 : mx_up (mx_up h 79 ts.length (.int K)) 82 ts.length (.long (lN (bs.getD p 0))) = h1
  have first : mx_G (d + 3) 240 24 [some (.ref 76), some (.int (nI p)), v2, v3] [] h = mx_G (d + 3) 240 124 [some (.ref 76), some (.int (nI p)), some (.int (nI (bs.getD p 0))), some (.int (if lx_isn bs p = true then 1 else 0))] [] h1 := by
    rw [← hh1, ← hK, rm_cutN (d := d + 2) B hp h32, rm_cutK (d := d + 1) hT hc ht htn]
  have T79 : mr_T (mx_up h 79 ts.length (.int K)) := mr_T_up hT (by decide) _
  have B1 : rm_buf h1 bs := by rw [← hh1]; exact rm_buf_upJ (rm_buf_up B _ (by decide) (by decide)) _ (by decide)
  have F1 : rm_fr h h1 := by rw [← hh1]; exact rm_fr_trans (rm_fr_up (Or.inl rfl)) rm_fr_upJ
  have o1 : ∀ a k, a ≠ 79 → a ≠ 82 → mi h1 a k = mi h a k := fun a k n1 n2 => by
    rw [← hh1, mi_upJ _ _ _ _ _ _ n2, mi_up, if_neg (fun z => n1 z.1)]
  have o2 : ∀ k, k ≠ ts.length → mi h1 79 k = mi h 79 k ∧ ml h1 82 k = ml h 82 k := fun k n1 => by
    rw [← hh1]
    refine ⟨by rw [mi_upJ _ _ _ _ _ _ (by decide), mi_up, if_neg (fun z => n1 z.2.1)], by rw [ml_up, if_neg (fun z => n1 z.2.1), ml_upI _ _ _ _ _ _ (by decide)]⟩
  have o3 : mi h1 79 ts.length = K := by
    rw [← hh1, mi_upJ _ _ _ _ _ _ (by decide), mi_up, if_pos ⟨rfl, rfl, by rw [mr_ln hT mr_ty_79, mr_n_79]; exact htn⟩]
  have o4 : ml h1 82 ts.length = lN (bs.getD p 0) := by
    rw [← hh1, ml_up, if_pos ⟨rfl, rfl, by rw [mr_ln T79 mr_ty_82, mr_n_82]; exact htn⟩]
  have t1 : mi h1 76 4 = nI ts.length := by rw [o1 _ _ (by decide) (by decide)]; exact ht
  have w1 : mi h1 76 10 = nI w := by rw [o1 _ _ (by decide) (by decide)]; exact hw
  have l82 : ts.length < mx_ln h1 82 := by rw [mr_ln B1.1 mr_ty_82, mr_n_82]; exact htn
  have n1 : ¬ (1 : Int32) = 0 := by decide
  -- how it ends, whatever was done to the token's own places
  have last : ∀ (h2 : mx_H) (q : tk) (P : Int32) (p' w' : Nat), rm_buf h2 bs → rm_fr h h2 → mi h2 76 4 = nI ts.length → mi h2 76 10 = nI w' → w ≤ w' → w' ≤ p' → p < p' → p' ≤ bs.length → P = nI p' → (∀ t, t < ts.length → rm_tk h2 w' t (ts.getD t (0, []))) → rm_tk h2 w' ts.length q → q.1 ≠ 4 → bs.drop p' = (lx_one (bs.getD p 0) (bs.drop (p + 1))).2 → (lx_one (bs.getD p 0) (bs.drop (p + 1))).1 = q →
      (mx_G (d + 3) 240 124 [some (.ref 76), some (.int (nI p)), some (.int (nI (bs.getD p 0))), some (.int (if lx_isn bs p = true then 1 else 0))] [] h1 = mx_G (d + 3) 240 179 [some (.ref 76), some (.int (nI p)), some (.int (nI (bs.getD p 0))), some (.int (if lx_isn bs p = true then 1 else 0))] [.int P] h2) →
      ∃ (h' : mx_H) (P v2' v3' : Int32), mx_G (d + 3) 240 24 [some (.ref 76), some (.int (nI p)), v2, v3] [] h = mx_G (d + 3) 240 12 [some (.ref 76), some (.int P), some (.int v2'), some (.int v3')] [] h' ∧ rm_buf h' bs ∧ rm_fr h h' ∧
      (((lx_one (bs.getD p 0) (bs.drop (p + 1))).1.1 = 4 ∧ P = -1 ∧ mi h' 76 4 = nI (ts.length + 1)) ∨
       ((lx_one (bs.getD p 0) (bs.drop (p + 1))).1.1 ≠ 4 ∧ ∃ p' w', P = nI p' ∧ p < p' ∧ p' ≤ bs.length ∧ bs.drop p' = (lx_one (bs.getD p 0) (bs.drop (p + 1))).2 ∧ mi h' 76 10 = nI w' ∧ w' ≤ p' ∧ rm_ts h' w' (ts ++ [(lx_one (bs.getD p 0) (bs.drop (p + 1))).1]))) := by
    intro h2 q P p' w' B2 F2 t2 w2 hww hwp' hpp hpl hP hold hnew hq4 hdrop hone hrun
    refine ⟨mx_up h2 76 4 (.int (nI (ts.length + 1))), P, _, _, by rw [first, hrun, rm_cutE B2.1 t2], rm_buf_f B2 _ (by decide) (by decide), rm_fr_trans F2 (rm_fr_up (by simp)), Or.inr ⟨by rw [hone]; exact hq4, p', w', hP, hpp, hpl, hdrop, ?_, hwp', ?_, ?_⟩⟩
    · rw [mi_up, if_neg (fun z => absurd z.2.1 (by decide))]
      exact w2
    · rw [mi_up, if_pos ⟨rfl, rfl, by rw [B2.1.2.1]; decide⟩]
      simp
    · intro t hlt
      have kp : ∀ q, rm_tk h2 w' t q → rm_tk (mx_up h2 76 4 (.int (nI (ts.length + 1)))) w' t q := fun q k => rm_tk_keep k (by rw [mi_up, if_neg (fun z => absurd z.1 (by decide))]) (by rw [mi_up, if_neg (fun z => absurd z.1 (by decide))]) (by rw [mi_up, if_neg (fun z => absurd z.1 (by decide))]) (by rw [ml_upI _ _ _ _ _ _ (by decide)]) (fun j _ => by rw [mi_up, if_neg (fun z => absurd z.1 (by decide))]) (Nat.le_refl _)
      simp only [List.length_append, List.length_singleton] at hlt
      by_cases hl : t < ts.length
      · rw [List.getD_eq_getElem?_getD, List.getElem?_append_left hl, ← List.getD_eq_getElem?_getD]
        exact kp _ (hold t hl)
      · have e : t = ts.length := by omega
        subst e
        rw [List.getD_eq_getElem?_getD, List.getElem?_append_right (Nat.le_refl _), Nat.sub_self, hone]
        exact kp _ hnew
  have bad : ∀ (h2 : mx_H), rm_buf h2 bs → rm_fr h h2 → mi h2 76 4 = nI ts.length → (lx_one (bs.getD p 0) (bs.drop (p + 1))).1.1 = 4 →
      (mx_G (d + 3) 240 124 [some (.ref 76), some (.int (nI p)), some (.int (nI (bs.getD p 0))), some (.int (if lx_isn bs p = true then 1 else 0))] [] h1 = mx_G (d + 3) 240 179 [some (.ref 76), some (.int (nI p)), some (.int (nI (bs.getD p 0))), some (.int (if lx_isn bs p = true then 1 else 0))] [.int (-1)] h2) →
      ∃ (h' : mx_H) (P v2' v3' : Int32), mx_G (d + 3) 240 24 [some (.ref 76), some (.int (nI p)), v2, v3] [] h = mx_G (d + 3) 240 12 [some (.ref 76), some (.int P), some (.int v2'), some (.int v3')] [] h' ∧ rm_buf h' bs ∧ rm_fr h h' ∧
      (((lx_one (bs.getD p 0) (bs.drop (p + 1))).1.1 = 4 ∧ P = -1 ∧ mi h' 76 4 = nI (ts.length + 1)) ∨
       ((lx_one (bs.getD p 0) (bs.drop (p + 1))).1.1 ≠ 4 ∧ ∃ p' w', P = nI p' ∧ p < p' ∧ p' ≤ bs.length ∧ bs.drop p' = (lx_one (bs.getD p 0) (bs.drop (p + 1))).2 ∧ mi h' 76 10 = nI w' ∧ w' ≤ p' ∧ rm_ts h' w' (ts ++ [(lx_one (bs.getD p 0) (bs.drop (p + 1))).1]))) := by
    intro h2 B2 F2 t2 h4 hrun
    refine ⟨mx_up h2 76 4 (.int (nI (ts.length + 1))), -1, _, _, by rw [first, hrun, rm_cutE B2.1 t2], rm_buf_f B2 _ (by decide) (by decide), rm_fr_trans F2 (rm_fr_up (by simp)), Or.inl ⟨h4, rfl, ?_⟩⟩
    rw [mi_up, if_pos ⟨rfl, rfl, by rw [B2.1.2.1]; decide⟩]
  by_cases hL : isLet (bs.getD p 0) = true
  · -- a word
    have ho : lx_one (bs.getD p 0) (bs.drop (p + 1)) = ((1, ((bs.drop p).takeWhile isLet).map sml), (bs.drop p).dropWhile isLet) := by
      unfold lx_one
      rw [if_pos hL, ← hdp]
    have hwd := rm_word (d := d) B1 (p := p) (by omega) t1 htn
    have hlen : ((bs.drop p).takeWhile isLet).length ≤ bs.length - p := by
      have := (List.takeWhile_sublist isLet (l := bs.drop p)).length_le
      simpa using this
    have hpos : 0 < ((bs.drop p).takeWhile isLet).length := by
      rw [hdp, List.takeWhile_cons, hL]
      simp
    have hK1 : K = 1 := by rw [← hK]; unfold lx_kd; rw [if_pos hL]
    refine last (mx_up h1 82 ts.length (.long (w27 (((bs.drop p).takeWhile isLet).map sml)))) (1, ((bs.drop p).takeWhile isLet).map sml) _ (p + ((bs.drop p).takeWhile isLet).length) w (rm_buf_upJ B1 _ (by decide)) (rm_fr_trans F1 rm_fr_upJ) (by rw [mi_upJ _ _ _ _ _ _ (by decide)]; exact t1) (by rw [mi_upJ _ _ _ _ _ _ (by decide)]; exact w1) (Nat.le_refl _) (by omega) (by omega) (by omega) rfl ?_ ?_ (show (1 : Nat) ≠ 4 by decide) ?_ (by rw [ho]) ?_
    · intro t hlt
      refine rm_tk_keep (S.2 t hlt) ?_ ?_ ?_ ?_ ?_ (Nat.le_refl _)
      · rw [mi_upJ _ _ _ _ _ _ (by decide)]; exact (o2 t (by omega)).1
      · rw [mi_upJ _ _ _ _ _ _ (by decide)]; exact o1 _ _ (by decide) (by decide)
      · rw [mi_upJ _ _ _ _ _ _ (by decide)]; exact o1 _ _ (by decide) (by decide)
      · rw [ml_up, if_neg (fun z => by omega)]; exact (o2 t (by omega)).2
      · intro j _
        rw [mi_upJ _ _ _ _ _ _ (by decide)]; exact o1 _ _ (by decide) (by decide)
    · refine Or.inl ⟨rfl, ?_, ?_⟩
      · rw [mi_upJ _ _ _ _ _ _ (by decide), o3, hK1]
      · rw [ml_up, if_pos ⟨rfl, rfl, l82⟩]
    · rw [ho, takeWhile_drop, List.drop_drop]
    · simp only [r240_124, r240_125, r240_128, r240_131, r240_132, r240_133, r240_136, r240_139, r240_140, r240_143, r240_144, r240_145, r240_148, r240_151, r240_152, r240_154, r240_157, r240_158, r240_159, r240_162, r240_165, r240_166, r240_169, r240_172, r240_173, r240_174, r240_175, r240_178, mx_isr_ref, mx_isr_null, mx_wt_nil, mx_wt_1, mx_wt_2, mx_wt_3, Option.bind_some, Option.toList_some, Option.toList_none, List.cons_append, List.nil_append, mx_nl_int, mx_nl_ref, mx_nl_null, mx_nl_none, mx_nb0, mx_nb1, mx_cat_int, mx_cat_ref, if_true, if_false, not_true_eq_false, not_false_eq_true, B1.1, rm_isLetter hc, hL, n1, hwd]
  · have hL' : isLet (bs.getD p 0) = false := by simpa using hL
    by_cases hN : lx_isn bs p = true
    · -- a number
      have hK1 : K = 2 := by rw [← hK]; unfold lx_kd; rw [if_neg hL, if_pos hN]
      have hcase : isDig (bs.getD p 0) = true ∨ bs.getD p 0 = 45 ∧ isDig (bs.getD (p + 1) 0) = true := by
        unfold lx_isn at hN
        simpa only [Bool.or_eq_true, Bool.and_eq_true, decide_eq_true_eq] using hN
      have hp1 : bs.getD p 0 = 45 → p + 1 < bs.length := by
        intro h45
        rcases hcase with hh | hh
        · rw [h45] at hh
          exact absurd hh (by decide)
        · by_cases hl : p + 1 < bs.length
          · exact hl
          · have := hh.2
            rw [List.getD_eq_getElem?_getD, List.getElem?_eq_none (by omega)] at this
            exact absurd this (by decide)
      have hnm := rm_number (d := d + 1) B1 t1 htn hp (hcase.imp id (fun z => ⟨z.1, hp1 z.1⟩))
      have fin : ∀ (l : List Nat) (p' : Nat), p < p' → p' ≤ bs.length → lx_one (bs.getD p 0) (bs.drop (p + 1)) = ((2, l), bs.drop p') → mx_G (d + 2) 246 0 [some (.ref 76), some (.int (nI p)), none, none, none, none, none] [] h1 = some (some (.int (nI p')), mx_up h1 82 ts.length (.long (nval l))) →
          ∃ (h' : mx_H) (P v2' v3' : Int32), mx_G (d + 3) 240 24 [some (.ref 76), some (.int (nI p)), v2, v3] [] h = mx_G (d + 3) 240 12 [some (.ref 76), some (.int P), some (.int v2'), some (.int v3')] [] h' ∧ rm_buf h' bs ∧ rm_fr h h' ∧
          (((lx_one (bs.getD p 0) (bs.drop (p + 1))).1.1 = 4 ∧ P = -1 ∧ mi h' 76 4 = nI (ts.length + 1)) ∨
           ((lx_one (bs.getD p 0) (bs.drop (p + 1))).1.1 ≠ 4 ∧ ∃ p' w', P = nI p' ∧ p < p' ∧ p' ≤ bs.length ∧ bs.drop p' = (lx_one (bs.getD p 0) (bs.drop (p + 1))).2 ∧ mi h' 76 10 = nI w' ∧ w' ≤ p' ∧ rm_ts h' w' (ts ++ [(lx_one (bs.getD p 0) (bs.drop (p + 1))).1]))) := by
        intro l p' hpp hpl ho hrun
        refine last (mx_up h1 82 ts.length (.long (nval l))) (2, l) _ p' w (rm_buf_upJ B1 _ (by decide)) (rm_fr_trans F1 rm_fr_upJ) (by rw [mi_upJ _ _ _ _ _ _ (by decide)]; exact t1) (by rw [mi_upJ _ _ _ _ _ _ (by decide)]; exact w1) (Nat.le_refl _) (by omega) hpp hpl rfl ?_ ?_ (show (2 : Nat) ≠ 4 by decide) (by rw [ho]) (by rw [ho]) ?_
        · intro t hlt
          refine rm_tk_keep (S.2 t hlt) ?_ ?_ ?_ ?_ ?_ (Nat.le_refl _)
          · rw [mi_upJ _ _ _ _ _ _ (by decide)]; exact (o2 t (by omega)).1
          · rw [mi_upJ _ _ _ _ _ _ (by decide)]; exact o1 _ _ (by decide) (by decide)
          · rw [mi_upJ _ _ _ _ _ _ (by decide)]; exact o1 _ _ (by decide) (by decide)
          · rw [ml_up, if_neg (fun z => by omega)]; exact (o2 t (by omega)).2
          · intro j _
            rw [mi_upJ _ _ _ _ _ _ (by decide)]; exact o1 _ _ (by decide) (by decide)
        · refine Or.inr (Or.inl ⟨rfl, ?_, ?_⟩)
          · rw [mi_upJ _ _ _ _ _ _ (by decide), o3, hK1]
          · rw [ml_up, if_pos ⟨rfl, rfl, l82⟩]
        · simp only [r240_124, r240_125, r240_128, r240_131, r240_132, r240_133, r240_136, r240_139, r240_140, r240_143, r240_144, r240_145, r240_148, r240_151, r240_152, r240_154, r240_157, r240_158, r240_159, r240_162, r240_165, r240_166, r240_169, r240_172, r240_173, r240_174, r240_175, r240_178, mx_isr_ref, mx_isr_null, mx_wt_nil, mx_wt_1, mx_wt_2, mx_wt_3, Option.bind_some, Option.toList_some, Option.toList_none, List.cons_append, List.nil_append, mx_nl_int, mx_nl_ref, mx_nl_null, mx_nl_none, mx_nb0, mx_nb1, mx_cat_int, mx_cat_ref, if_true, if_false, not_true_eq_false, not_false_eq_true, B1.1, rm_isLetter hc, hL', Bool.false_eq_true, hN, n1, hrun]
      by_cases h45 : bs.getD p 0 = 45
      · rw [if_pos h45] at hnm
        have hdd : isDig ((bs.drop (p + 1)).getD 0 0) = true := by
          rw [← hd1]
          rcases hcase with hh | hh
          · rw [h45] at hh
            exact absurd hh (by decide)
          · exact hh.2
        have hlen : (lx_num (bs.drop (p + 1))).length ≤ bs.length - (p + 1) := by
          rcases lx_num_len (bs.drop (p + 1)) with z | z
          · simpa using z
          · rw [z] at hdd
            exact absurd hdd (by decide)
        have hl1 := hp1 h45
        refine fin (45 :: lx_num (bs.drop (p + 1))) (p + 1 + (lx_num (bs.drop (p + 1))).length) (by omega) (by omega) ?_ hnm
        unfold lx_one
        rw [if_neg (by rw [hL']; decide), if_neg (by rw [h45]; decide), if_pos ⟨h45, hdd⟩, List.drop_drop]
      · rw [if_neg h45] at hnm
        have hdd : isDig (bs.getD p 0) = true := hcase.elim id (fun z => absurd z.1 h45)
        have hpos : 0 < (lx_num (bs.drop p)).length := lx_num_pos (by rw [hdp]; exact hdd)
        have hlen : (lx_num (bs.drop p)).length ≤ bs.length - p := by
          rcases lx_num_len (bs.drop p) with z | z
          · simpa using z
          · rw [hdp] at z
            cases z
        refine fin (lx_num (bs.drop p)) (p + (lx_num (bs.drop p)).length) (by omega) (by omega) ?_ hnm
        unfold lx_one
        rw [if_neg (by rw [hL']; decide), if_pos hdd, ← hdp, List.drop_drop]
    · have hN' : lx_isn bs p = false := by simpa using hN
      have hnd : isDig (bs.getD p 0) = false ∧ ¬ (bs.getD p 0 = 45 ∧ isDig ((bs.drop (p + 1)).getD 0 0) = true) := by
        unfold lx_isn at hN'
        rw [hd1] at hN'
        rw [Bool.or_eq_false_iff] at hN'
        refine ⟨hN'.1, fun z => ?_⟩
        rw [z.2, decide_eq_true z.1] at hN'
        exact absurd hN'.2 (by decide)
      by_cases h34 : bs.getD p 0 = 34
      · -- a string
        have hK1 : K = 3 := by rw [← hK]; unfold lx_kd; rw [if_neg hL, if_neg hN, if_pos h34]
        have e34 : (nI (bs.getD p 0) = 34) = True := eq_true (by rw [h34]; rfl)
        obtain ⟨s1, s2⟩ := rm_string (d := d + 1) B1 t1 htn hp w1 hwp
        cases hs : lx_str (bs.drop (p + 1)) with
        | none =>
          obtain ⟨t, j1, j2⟩ := s2 hs
          refine bad (rm_txt t w (mx_up h1 80 ts.length (.int (nI w)))) (rm_txt_buf _ _ _ (rm_buf_up B1 _ (by decide) (by decide))) (rm_fr_trans F1 (rm_fr_trans (rm_fr_up (by simp)) (rm_fr_txt _ _ _))) ?_ ?_ ?_
          · rw [rm_txt_mi _ _ _ _ _ (by decide) (by decide), mi_up, if_neg (fun z => absurd z.1 (by decide))]
            exact t1
          · unfold lx_one
            rw [if_neg (by rw [hL']; decide), if_neg (by rw [hnd.1]; decide), if_neg hnd.2, if_pos h34, hs]
          · simp only [r240_124, r240_125, r240_128, r240_131, r240_132, r240_133, r240_136, r240_139, r240_140, r240_143, r240_144, r240_145, r240_148, r240_151, r240_152, r240_154, r240_157, r240_158, r240_159, r240_162, r240_165, r240_166, r240_169, r240_172, r240_173, r240_174, r240_175, r240_178, mx_isr_ref, mx_isr_null, mx_wt_nil, mx_wt_1, mx_wt_2, mx_wt_3, Option.bind_some, Option.toList_some, Option.toList_none, List.cons_append, List.nil_append, mx_nl_int, mx_nl_ref, mx_nl_null, mx_nl_none, mx_nb0, mx_nb1, mx_cat_int, mx_cat_ref, if_true, if_false, not_true_eq_false, not_false_eq_true, B1.1, rm_isLetter hc, hL', Bool.false_eq_true, hN', e34, j2]
        | some q =>
          obtain ⟨t, r⟩ := q
          obtain ⟨j1, j2, j3⟩ := s1 t r hs
          have ho : lx_one (bs.getD p 0) (bs.drop (p + 1)) = ((3, t), r) := by
            unfold lx_one
            rw [if_neg (by rw [hL']; decide), if_neg (by rw [hnd.1]; decide), if_neg hnd.2, if_pos h34, hs]
          have B80 : rm_buf (mx_up h1 80 ts.length (.int (nI w))) bs := rm_buf_up B1 _ (by decide) (by decide)
          have Bt := rm_txt_buf t w _ B80
          have w80 : mi (mx_up h1 80 ts.length (.int (nI w))) 76 10 = nI w := by rw [mi_up, if_neg (fun z => absurd z.1 (by decide))]; exact w1
          have hsuf : bs.drop (bs.length - r.length) = r := by
            have key : ∀ (l t r : List Nat), lx_str l = some (t, r) → ∃ k, l.drop k = r ∧ k ≤ l.length := by
              intro l
              induction hn : l.length using Nat.strongRecOn generalizing l with
              | _ n ihn =>
                intro t r he
                subst hn
                match l, he with
                | [], he => simp [lx_str] at he
                | [c], he =>
                  simp only [lx_str] at he
                  split at he
                  · cases he
                    exact ⟨1, rfl, by simp⟩
                  · cases he
                | c :: e :: l', he =>
                  rw [lx_str] at he
                  split at he
                  · cases he
                    exact ⟨1, rfl, by simp⟩
                  · split at he
                    · cases he
                    · split at he
                      · split at he
                        · obtain ⟨⟨t0, r0⟩, hq0, hq1⟩ := Option.map_eq_some_iff.mp he
                          cases hq1
                          obtain ⟨k, hk, hk2⟩ := ihn l'.length (by simp; omega) l' rfl t0 r0 hq0
                          exact ⟨k + 2, by simpa using hk, by simp; omega⟩
                        · cases he
                      · obtain ⟨⟨t0, r0⟩, hq0, hq1⟩ := Option.map_eq_some_iff.mp he
                        cases hq1
                        obtain ⟨k, hk, hk2⟩ := ihn (e :: l').length (by simp) (e :: l') rfl t0 r0 hq0
                        exact ⟨k + 1, by simpa using hk, by simp at hk2 ⊢; omega⟩
            obtain ⟨k, hk, hk2⟩ := key _ _ _ hs
            rw [List.drop_drop] at hk
            have hl := congrArg List.length hk
            simp at hl hk2
            rw [← hk]
            congr 1
            rw [List.length_drop]
            omega
          refine last (mx_up (rm_txt t w (mx_up h1 80 ts.length (.int (nI w)))) 81 ts.length (.int (nI t.length))) (3, t) _ (bs.length - r.length) (w + t.length) (rm_buf_up Bt _ (by decide) (by decide)) (rm_fr_trans F1 (rm_fr_trans (rm_fr_trans (rm_fr_up (by simp)) (rm_fr_txt _ _ _)) (rm_fr_up (by simp)))) ?_ ?_ (by omega) (by omega) (by omega) (by omega) rfl ?_ ?_ (show (3 : Nat) ≠ 4 by decide) (by rw [ho]; exact hsuf) (by rw [ho]) ?_
          · rw [mi_up, if_neg (fun z => absurd z.1 (by decide)), rm_txt_mi _ _ _ _ _ (by decide) (by decide), mi_up, if_neg (fun z => absurd z.1 (by decide))]
            exact t1
          · rw [mi_up, if_neg (fun z => absurd z.1 (by decide)), rm_txt_w _ _ _ B80.1 w80]
          · intro t' hlt
            refine rm_tk_keep (S.2 t' hlt) ?_ ?_ ?_ ?_ ?_ (by omega)
            · rw [mi_up, if_neg (fun z => absurd z.1 (by decide)), rm_txt_mi _ _ _ _ _ (by decide) (fun z => absurd z.1 (by decide)), mi_up, if_neg (fun z => absurd z.1 (by decide))]
              exact (o2 t' (by omega)).1
            · rw [mi_up, if_neg (fun z => absurd z.1 (by decide)), rm_txt_mi _ _ _ _ _ (by decide) (fun z => absurd z.1 (by decide)), mi_up, if_neg (fun z => by omega)]
              exact o1 _ _ (by decide) (by decide)
            · rw [mi_up, if_neg (fun z => by omega), rm_txt_mi _ _ _ _ _ (by decide) (fun z => absurd z.1 (by decide)), mi_up, if_neg (fun z => absurd z.1 (by decide))]
              exact o1 _ _ (by decide) (by decide)
            · rw [ml_upI _ _ _ _ _ _ (by decide), rm_txt_ml _ _ _ _ _ (by decide) (by decide), ml_upI _ _ _ _ _ _ (by decide)]
              exact (o2 t' (by omega)).2
            · intro j hj
              rw [mi_up, if_neg (fun z => absurd z.1 (by decide)), rm_txt_old _ _ _ _ hj, mi_up, if_neg (fun z => absurd z.1 (by decide))]
              exact o1 _ _ (by decide) (by decide)
          · refine Or.inr (Or.inr (Or.inl ⟨rfl, ?_, w, Nat.le_refl _, ?_, ?_, fun j hj => ?_⟩))
            · rw [mi_up, if_neg (fun z => absurd z.1 (by decide)), rm_txt_mi _ _ _ _ _ (by decide) (fun z => absurd z.1 (by decide)), mi_up, if_neg (fun z => absurd z.1 (by decide)), o3, hK1]
            · rw [mi_up, if_neg (fun z => absurd z.1 (by decide)), rm_txt_mi _ _ _ _ _ (by decide) (fun z => absurd z.1 (by decide)), mi_up, if_pos ⟨rfl, rfl, by rw [mr_ln B1.1 mr_ty_80, mr_n_80]; exact htn⟩]
            · rw [mi_up, if_pos ⟨rfl, rfl, by rw [mr_ln Bt.1 mr_ty_81, mr_n_81]; exact htn⟩]
            · rw [mi_up, if_neg (fun z => absurd z.1 (by decide))]
              exact rm_txt_new _ _ _ _ B80.1 (by omega) hj
          · simp only [r240_124, r240_125, r240_128, r240_131, r240_132, r240_133, r240_136, r240_139, r240_140, r240_143, r240_144, r240_145, r240_148, r240_151, r240_152, r240_154, r240_157, r240_158, r240_159, r240_162, r240_165, r240_166, r240_169, r240_172, r240_173, r240_174, r240_175, r240_178, mx_isr_ref, mx_isr_null, mx_wt_nil, mx_wt_1, mx_wt_2, mx_wt_3, Option.bind_some, Option.toList_some, Option.toList_none, List.cons_append, List.nil_append, mx_nl_int, mx_nl_ref, mx_nl_null, mx_nl_none, mx_nb0, mx_nb1, mx_cat_int, mx_cat_ref, if_true, if_false, not_true_eq_false, not_false_eq_true, B1.1, rm_isLetter hc, hL', Bool.false_eq_true, hN', e34, j3]
      · have hK1 : K = 4 := by rw [← hK]; unfold lx_kd; rw [if_neg hL, if_neg hN, if_neg h34]
        have e34 : ¬ nI (bs.getD p 0) = 34 := fun z => h34 ((nI_eq (b := 34) (by omega) (by decide)).mp z)
        by_cases hsg : isSig (bs.getD p 0) = true
        · -- a sign
          have ho : lx_one (bs.getD p 0) (bs.drop (p + 1)) = ((bs.getD p 0, []), bs.drop (p + 1)) := by
            unfold lx_one
            rw [if_neg (by rw [hL']; decide), if_neg (by rw [hnd.1]; decide), if_neg hnd.2, if_neg h34, if_pos hsg]
          have h10 : 10 ≤ bs.getD p 0 := by
            have key : ∀ c, c < 128 → isSig c = true → 10 ≤ c := by decide +kernel
            exact key _ hc hsg
          refine last h1 (bs.getD p 0, []) (nI (p + 1)) (p + 1) w B1 F1 t1 w1 (Nat.le_refl _) (by omega) (by omega) (by omega) rfl ?_ (Or.inr (Or.inr (Or.inr ⟨h10, hc, by rw [o3, hK1], o4⟩))) (by show bs.getD p 0 ≠ 4; omega) (by rw [ho]) (by rw [ho]) ?_
          · intro t hlt
            exact rm_tk_keep (S.2 t hlt) (o2 t (by omega)).1 (o1 _ _ (by decide) (by decide)) (o1 _ _ (by decide) (by decide)) (o2 t (by omega)).2 (fun j _ => o1 _ _ (by decide) (by decide)) (Nat.le_refl _)
          · simp only [r240_124, r240_125, r240_128, r240_131, r240_132, r240_133, r240_136, r240_139, r240_140, r240_143, r240_144, r240_145, r240_148, r240_151, r240_152, r240_154, r240_157, r240_158, r240_159, r240_162, r240_165, r240_166, r240_169, r240_172, r240_173, r240_174, r240_175, r240_178, mx_isr_ref, mx_isr_null, mx_wt_nil, mx_wt_1, mx_wt_2, mx_wt_3, Option.bind_some, Option.toList_some, Option.toList_none, List.cons_append, List.nil_append, mx_nl_int, mx_nl_ref, mx_nl_null, mx_nl_none, mx_nb0, mx_nb1, mx_cat_int, mx_cat_ref, if_true, if_false, not_true_eq_false, not_false_eq_true, B1.1, rm_isLetter hc, hL', Bool.false_eq_true, hN', e34, rm_isSign hc, hsg, n1, nI_1]
        · have hsg' : isSig (bs.getD p 0) = false := by simpa using hsg
          refine bad h1 B1 F1 t1 ?_ ?_
          · unfold lx_one
            rw [if_neg (by rw [hL']; decide), if_neg (by rw [hnd.1]; decide), if_neg hnd.2, if_neg h34, if_neg (by rw [hsg']; decide)]
          · simp only [r240_124, r240_125, r240_128, r240_131, r240_132, r240_133, r240_136, r240_139, r240_140, r240_143, r240_144, r240_145, r240_148, r240_151, r240_152, r240_154, r240_157, r240_158, r240_159, r240_162, r240_165, r240_166, r240_169, r240_172, r240_173, r240_174, r240_175, r240_178, mx_isr_ref, mx_isr_null, mx_wt_nil, mx_wt_1, mx_wt_2, mx_wt_3, Option.bind_some, Option.toList_some, Option.toList_none, List.cons_append, List.nil_append, mx_nl_int, mx_nl_ref, mx_nl_null, mx_nl_none, mx_nb0, mx_nb1, mx_cat_int, mx_cat_ref, if_true, if_false, not_true_eq_false, not_false_eq_true, B1.1, rm_isLetter hc, hL', Bool.false_eq_true, hN', e34, rm_isSign hc, hsg']
end
