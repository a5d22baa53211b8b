/-! insertFound, turnPage. -/
theorem ins_td {α : Type} (x : α) : ∀ (l : List α) (k : Nat), k ≤ l.length → l.insertIdx k x = l.take k ++ x :: l.drop k := by
  intro l
  induction l with
  | nil =>
    intro k hk
    have : k = 0 := by simpa using hk
    subst this
    rfl
  | cons a l ih =>
    intro k hk
    cases k with
    | zero => rfl
    | succ k => rw [List.insertIdx_succ_cons, ih k (by simpa using hk)]; rfl
def inK (lt : prs → prs → Bool) (x : prs) (F : List prs) : Nat → Nat
  | 0 => 0
  | k + 1 => if lt x (pAt' F k) = true then inK lt x F k else k + 1
theorem inK_le (lt : prs → prs → Bool) (x : prs) (F : List prs) : ∀ k, inK lt x F k ≤ k := by
  intro k
  induction k with
  | zero => exact Nat.le_refl _
  | succ k ih => rw [inK]; split <;> omega
theorem inK_R (lt : prs → prs → Bool) (x : prs) (F : List prs) : ∀ k, k ≤ F.length → (insR lt x (F.take k).reverse).reverse ++ F.drop k = F.insertIdx (inK lt x F k) x := by
  intro k
  induction k with
  | zero => intro _; rfl
  | succ k ih =>
    intro hk
    have hk' : k < F.length := hk
    have e1 : F.take (k + 1) = F.take k ++ [pAt' F k] := by
      rw [List.take_add_one]
      unfold pAt'
      simp [List.getD_eq_getElem?_getD, hk']
    rw [e1, List.reverse_append, List.reverse_singleton, List.singleton_append, insR, inK]
    by_cases c : lt x (pAt' F k) = true
    · rw [if_pos c, if_pos c, List.reverse_cons, List.append_assoc, List.singleton_append, ← drop_pAt hk']
      exact ih (by omega)
    · rw [if_neg c, if_neg c, ins_td x F (k + 1) hk, e1]
      simp
theorem ins_srt (lt : prs → prs → Bool) (x : prs) (F : List prs) : insR lt x F.reverse = (F.insertIdx (inK lt x F F.length) x).reverse := by
  have := inK_R lt x F F.length (Nat.le_refl _)
  rw [List.drop_length, List.append_nil, List.take_length] at this
  rw [← this, List.reverse_reverse]
theorem pAt_ins {F : List prs} {x : prs} {i k : Nat} (hi : i ≤ F.length) : pAt' (F.insertIdx i x) k = if k < i then pAt' F k else if k = i then x else pAt' F (k - 1) := by
  unfold pAt'
  rw [List.getD_eq_getElem?_getD, List.getElem?_insertIdx]
  by_cases c1 : k < i
  · rw [if_pos c1, if_pos c1, List.getD_eq_getElem?_getD]
  · rw [if_neg c1, if_neg c1]
    by_cases c2 : k = i
    · rw [if_pos c2, if_pos c2, if_pos (by omega)]
      rfl
    · rw [if_neg c2, if_neg c2, List.getD_eq_getElem?_getD]
/-- the found ones -/
def FS (M : List Nat) (h : mx_H) (A4 cp : Nat) (fs : List Nat) (R : List prs) : Prop := AL h 72 A4 cp fs ∧ fs.length = R.length ∧ ∀ k, k < R.length → PP M h (fs.getD k 0) (pAt' R k) ∧ fz M (fs.getD k 0) ∧ 102 ≤ fs.getD k 0
theorem PP.lt {M : List Nat} {h : mx_H} {p : Nat} {q : prs} (C : PP M h p q) : p < h.length := by obtain ⟨l, ⟨_, _, _, _, _, _, e1, _⟩, _⟩ := C; exact ce_l e1
theorem PP.tag {M : List Nat} {h : mx_H} {p : Nat} {q : prs} (C : PP M h p q) : mx_tag h p = some (.inl 7) := by obtain ⟨l, C, _⟩ := C; exact (PC_f C).1
theorem FS.ex {M M' : List Nat} {h h' : mx_H} {A4 cp : Nat} {fs : List Nat} {R : List prs} (F : FS M h A4 cp fs R) (x : Ex M h M' h') (h72 : h'[72]? = h[72]?) (hA : h'[A4]? = h[A4]?) : FS M' h' A4 cp fs R := by
  obtain ⟨L, l1, P⟩ := F
  refine ⟨AL_cells L h72 hA, l1, fun k hk => ?_⟩
  obtain ⟨p1, p2, p3⟩ := P k hk
  exact ⟨p1.ex x (x.2 _ p1.lt p2).1, (x.2 _ p1.lt p2).2, p3⟩
theorem FS.fd {M : List Nat} {h : mx_H} {A4 cp : Nat} {fs : List Nat} {R : List prs} (F : FS M h A4 cp fs R) (h8 : R.length ≤ 8) : fdS h A4 := by
  obtain ⟨L, l1, P⟩ := F
  refine ⟨cp, fs, L, fun e he => ?_, by omega⟩
  obtain ⟨j, hj, ej⟩ := gd_mem he
  obtain ⟨p1, p2, p3⟩ := P j (by omega)
  rw [ej] at p1 p3
  exact ⟨Or.inl p1.tag, p3⟩
theorem FS.elt {M : List Nat} {h : mx_H} {A4 cp : Nat} {fs : List Nat} {R : List prs} (F : FS M h A4 cp fs R) : ∀ e ∈ fs, elt h e := by
  obtain ⟨L, l1, P⟩ := F
  intro e he
  obtain ⟨j, hj, ej⟩ := gd_mem he
  obtain ⟨p1, p2, p3⟩ := P j (by omega)
  rw [ej] at p1
  exact Or.inl p1.tag
/-- named, and with small numbers -/
def oks (q : prs) : Prop := pnm q ≠ [] ∧ q.1 < 2 ^ 20 ∧ q.2.1 < 2 ^ 20
theorem PP.mp {M : List Nat} {h : mx_H} {p : Nat} {q : prs} (C : PP M h p q) (o : oks q) : ∃ l A cp es, MPs M h p l A cp es q .null none := by
  obtain ⟨l, C, A, cp, es, L, I, -⟩ := C
  exact ⟨l, A, cp, es, C, L, I, Or.inl ⟨rfl, rfl⟩, o.1, o.2.1, o.2.2⟩
section
variable {d : Nat} {h : mx_H} {M : List Nat} {A4 cp p : Nat} {fs : List Nat} {R : List prs} {q : prs}
theorem jq_insL (t63 : mx_tag h 63 = some (.inl 0)) (l63 : mx_ln h 63 = 7) (e2 : mx_el h 63 2 = .ref 72) (F : FS M h A4 cp fs R) (hR8 : R.length ≤ 8) (Q : PP M h p q) (hq : oks q) (hR : ∀ k, k < R.length → oks (pAt' R k) ∧ (pAt' R k).1 < q.1) {ky : Nat} (hky : ky < 5) (dn : Bool) : ∀ k, k ≤ R.length → mx_G (d + 7) 202 9 [some (.ref 63), some (.ref p), some (.int (nI (kyA ky))), some (.int (if dn = true then 1 else 0)), some (.int (nI k))] [] h = mx_G (d + 7) 202 43 [some (.ref 63), some (.ref p), some (.int (nI (kyA ky))), some (.int (if dn = true then 1 else 0)), some (.int (nI (inK (bef ky dn) q R k)))] [] h := by
  intro k
  induction k with
  | zero =>
    intro _
    simp only [g202_9, g202_11, mx_isr_ref, mx_isr_null, mx_wt_nil, mx_wt_1, mx_wt_2, mx_wt_3, Option.bind_some, Option.toList_some, Option.toList_none, List.cons_append, List.nil_append, mx_nl_int, mx_nl_ref, mx_nl_null, mx_nl_none, mx_nb0, mx_nb1, mx_fb0, mx_fb1, mx_cat_int, mx_cat_ref, if_true, if_false, not_true_eq_false, not_false_eq_true, mx_wt_4, mx_w4_0, mx_w9_0, mx_w9_1, mx_kn_int, mx_kn_ref, mx_kn_null, Nat.reduceLT, ofn, n10, nI_0, show (0 : Int32) ≤ 0 by decide]
    rfl
  | succ k ih =>
    intro hk
    obtain ⟨L, l1, P⟩ := F
    have q0 : ¬ nI (k + 1) ≤ 0 := nI_nle (by omega) (by omega)
    have G := jl_get (d := d + 4) L (show k < fs.length by omega)
    obtain ⟨p1, p2, p3⟩ := P k (by omega)
    obtain ⟨l, A, c1, es, m1⟩ := Q.mp hq
    obtain ⟨l', A', c1', es', m2⟩ := p1.mp (hR k (by omega)).1
    have B := js_before (d := d + 1) m1 m2 hky dn (hR k (by omega)).2
    rw [inK, g202_9]
    by_cases c : bef ky dn q (pAt' R k) = true
    · rw [if_pos c] at B ⊢
      simp only [g202_11, g202_14, g202_15, g202_16, g202_19, g202_21, g202_22, g202_23, g202_26n, g202_26, g202_29, g202_30, g202_31, g202_34, g202_37, g202_40, mx_isr_ref, mx_isr_null, mx_wt_nil, mx_wt_1, mx_wt_2, mx_wt_3, Option.bind_some, Option.toList_some, Option.toList_none, List.cons_append, List.nil_append, mx_nl_int, mx_nl_ref, mx_nl_null, mx_nl_none, mx_nb0, mx_nb1, mx_fb0, mx_fb1, mx_cat_int, mx_cat_ref, if_true, if_false, not_true_eq_false, not_false_eq_true, mx_wt_4, mx_w4_0, mx_w9_0, mx_w9_1, mx_kn_int, mx_kn_ref, mx_kn_null, Nat.reduceLT, ofn, n10, q0, t63, l63, e2, nI_pred, (AL_f L).1, G, p1.tag, B, nI_prd2, show ¬ (1 : Int32) = 0 by decide]
      exact ih (by omega)
    · rw [if_neg c] at B ⊢
      simp only [g202_11, g202_14, g202_15, g202_16, g202_19, g202_21, g202_22, g202_23, g202_26n, g202_26, g202_29, g202_30, g202_31, g202_34, mx_isr_ref, mx_isr_null, mx_wt_nil, mx_wt_1, mx_wt_2, mx_wt_3, Option.bind_some, Option.toList_some, Option.toList_none, List.cons_append, List.nil_append, mx_nl_int, mx_nl_ref, mx_nl_null, mx_nl_none, mx_nb0, mx_nb1, mx_fb0, mx_fb1, mx_cat_int, mx_cat_ref, if_true, if_false, not_true_eq_false, not_false_eq_true, mx_wt_4, mx_w4_0, mx_w9_0, mx_w9_1, mx_kn_int, mx_kn_ref, mx_kn_null, Nat.reduceLT, ofn, n10, q0, t63, l63, e2, nI_pred, (AL_f L).1, G, p1.tag, B]
theorem jq_ins (t63 : mx_tag h 63 = some (.inl 0)) (l63 : mx_ln h 63 = 7) (e2 : mx_el h 63 2 = .ref 72) (F : FS M h A4 cp fs R) (hR8 : R.length ≤ 8) (Q : PP M h p q) (hq : oks q) (hR : ∀ k, k < R.length → oks (pAt' R k) ∧ (pAt' R k).1 < q.1) {ky : Nat} (hky : ky < 5) (dn : Bool) :
    ∃ (h' : mx_H) (A' cp' : Nat), mx_G (d + 7) 202 0 [some (.ref 63), some (.ref p), some (.int (nI (kyA ky))), some (.int (if dn = true then 1 else 0)), none] [] h = some (none, h') ∧ AL h' 72 A' cp' (fs.insertIdx (inK (bef ky dn) q R R.length) p) ∧ Fr (fA 72 A4) h h' ∧ (A' = A4 ∨ h.length ≤ A') ∧ 63 ≤ A' ∧ mw h' + 6 * cp ≤ mw h + 6 * cp' := by
  have Lp := jq_insL (d := d) t63 l63 e2 F hR8 Q hq hR hky dn R.length (Nat.le_refl _)
  have hE := F.elt
  obtain ⟨L, l1, P⟩ := F
  have hk := inK_le (bef ky dn) q R R.length
  obtain ⟨h', A', cp', a1, a2⟩ := jl_insert (d := d) L (by omega) hE (k := inK (bef ky dn) q R R.length) (by omega) (show elt h p from Or.inl Q.tag)
  refine ⟨h', A', cp', ?_, a2⟩
  have sz := jl_size (d := d + 6) L
  rw [l1] at sz
  simp only [g202_0, g202_1, g202_4, g202_7, mx_isr_ref, mx_isr_null, mx_wt_nil, mx_wt_1, mx_wt_2, mx_wt_3, Option.bind_some, Option.toList_some, Option.toList_none, List.cons_append, List.nil_append, mx_nl_int, mx_nl_ref, mx_nl_null, mx_nl_none, mx_nb0, mx_nb1, mx_fb0, mx_fb1, mx_cat_int, mx_cat_ref, if_true, if_false, not_true_eq_false, not_false_eq_true, mx_wt_4, mx_w4_0, mx_w9_0, mx_w9_1, mx_kn_int, mx_kn_ref, mx_kn_null, Nat.reduceLT, ofn, n10, t63, l63, e2, (AL_f L).1, sz]
  rw [Lp]
  simp only [g202_43, g202_44, g202_47, g202_49, g202_50, g202_53, mx_isr_ref, mx_isr_null, mx_wt_nil, mx_wt_1, mx_wt_2, mx_wt_3, Option.bind_some, Option.toList_some, Option.toList_none, List.cons_append, List.nil_append, mx_nl_int, mx_nl_ref, mx_nl_null, mx_nl_none, mx_nb0, mx_nb1, mx_fb0, mx_fb1, mx_cat_int, mx_cat_ref, if_true, if_false, not_true_eq_false, not_false_eq_true, mx_wt_4, mx_w4_0, mx_w9_0, mx_w9_1, mx_kn_int, mx_kn_ref, mx_kn_null, Nat.reduceLT, ofn, n10, t63, l63, e2, (AL_f L).1, a1]
/-- the page's ids -/
theorem jq_turnL {st : Nat} {cn : Int32} {x1 : Int32} {last : Nat} (hR8 : R.length ≤ 8) (hst : st < 2 ^ 31 - 1) (hb : ∀ k, k < R.length → (pAt' R k).1 < 2 ^ 20) {pg : List Nat} (hpg : pg = ((R.drop st).take cn.toInt.toNat).map fun p => p.1) (hA4 : A4 = 2 ∨ 102 ≤ A4) : ∀ n j (h : mx_H) (l : List Nat), n + j = pg.length → FS M h A4 cp fs R →
    h[63]? = some (.inl 0, [.ref 64, .ref 71, .ref 72, .ref 73, .ref 74, .int (nI j), .int (nI last)]) → h[73]? = some (.inr .int, nvs l) → l.length = 8 → l.take j = pg.take j →
    ∃ (h' : mx_H) (l' : List Nat), mx_G (d + 3) 208 13 [some (.ref 63), some (.int x1), some (.int cn), some (.int (nI (st + j)))] [] h = some (none, h') ∧ h'[63]? = some (.inl 0, [.ref 64, .ref 71, .ref 72, .ref 73, .ref 74, .int (nI pg.length), .int (nI last)]) ∧ h'[73]? = some (.inr .int, nvs l') ∧ l'.length = 8 ∧ l'.take pg.length = pg ∧ Fr [63, 73] h h' ∧ mw h' = mw h := by
  have hpl : pg.length = min cn.toInt.toNat (R.length - st) := by rw [hpg]; simp
  intro n
  induction n with
  | zero =>
    intro j h l hj F e63 e73 hl ht
    have hj : j = pg.length := by omega
    subst hj
    obtain ⟨L, l1, P⟩ := F
    have sz := jl_size (d := d + 2) L
    rw [l1] at sz
    have t63 := ce_t e63
    have l63 : mx_ln h 63 = 7 := by rw [ce_n e63]; rfl
    have e2 : mx_el h 63 2 = .ref 72 := by rw [ce_e e63]; rfl
    have e5 : mx_el h 63 5 = .int (nI pg.length) := by rw [ce_e e63]; rfl
    refine ⟨h, l, ?_, e63, e73, hl, by rw [ht, List.take_length], Fr.rfl _ _, rfl⟩
    by_cases c : R.length ≤ st + pg.length
    · simp only [g208_13, g208_14, g208_15, g208_18, g208_21, g208_74, mx_isr_ref, mx_isr_null, mx_wt_nil, mx_wt_1, mx_wt_2, mx_wt_3, Option.bind_some, Option.toList_some, Option.toList_none, List.cons_append, List.nil_append, mx_nl_int, mx_nl_ref, mx_nl_null, mx_nl_none, mx_nb0, mx_nb1, mx_fb0, mx_fb1, mx_cat_int, mx_cat_ref, if_true, if_false, not_true_eq_false, not_false_eq_true, mx_wt_4, mx_w4_0, mx_w9_0, mx_w9_1, mx_kn_int, mx_kn_ref, mx_kn_null, Nat.reduceLT, ofn, n10, t63, l63, e2, (AL_f L).1, sz, nI_leI (show R.length < 2 ^ 31 by omega) (show st + pg.length < 2 ^ 31 by omega), c]
    · have hc : cn ≤ nI pg.length := by
        rw [Int32.le_iff_toInt_le, nI_toInt (by omega)]
        omega
      simp only [g208_13, g208_14, g208_15, g208_18, g208_21, g208_24, g208_25, g208_28, g208_29, g208_74, mx_isr_ref, mx_isr_null, mx_wt_nil, mx_wt_1, mx_wt_2, mx_wt_3, Option.bind_some, Option.toList_some, Option.toList_none, List.cons_append, List.nil_append, mx_nl_int, mx_nl_ref, mx_nl_null, mx_nl_none, mx_nb0, mx_nb1, mx_fb0, mx_fb1, mx_cat_int, mx_cat_ref, if_true, if_false, not_true_eq_false, not_false_eq_true, mx_wt_4, mx_w4_0, mx_w9_0, mx_w9_1, mx_kn_int, mx_kn_ref, mx_kn_null, Nat.reduceLT, ofn, n10, t63, l63, e2, e5, (AL_f L).1, sz, nI_leI (show R.length < 2 ^ 31 by omega) (show st + pg.length < 2 ^ 31 by omega), c, hc]
  | succ n ih =>
    intro j h l hj F e63 e73 hl ht
    have F0 := F
    obtain ⟨L, l1, P⟩ := F
    have sz := jl_size (d := d + 2) L
    rw [l1] at sz
    have t63 := ce_t e63
    have l63 : mx_ln h 63 = 7 := by rw [ce_n e63]; rfl
    have e2 : mx_el h 63 2 = .ref 72 := by rw [ce_e e63]; rfl
    have e3 : mx_el h 63 3 = .ref 73 := by rw [ce_e e63]; rfl
    have e5 : mx_el h 63 5 = .int (nI j) := by rw [ce_e e63]; rfl
    have t73 := ce_t e73
    have l73 : mx_ln h 73 = 8 := by rw [ce_n e73, bs_len, hl]
    have c1 : ¬ nI R.length ≤ nI (st + j) := nI_ge (by omega) (by omega)
    have c2 : ¬ cn ≤ nI j := by
      rw [Int32.le_iff_toInt_le, nI_toInt (by omega)]
      omega
    have G := jl_get (d := d) L (show st + j < fs.length by omega)
    obtain ⟨p1, p2, p3⟩ := P (st + j) (by omega)
    have tp := p1.tag
    obtain ⟨l', C, FL'⟩ := id p1
    obtain ⟨-, lp, -, i, v, nn, ff, aa, oo, w0, -, -, -, -, -, V1, -⟩ := PC_f C
    obtain ⟨s3', b3', f3', ti, li, i0, i1, -⟩ := VC_f V1.vc
    rw [oI_nat] at i1
    have hnO : mt_nO ≤ 73 := by decide
    have hnO3 : mt_nO ≤ 63 := by decide
    generalize hg : mx_up (mx_up h 73 j (.int (nI (pAt' R (st + j)).1))) 63 5 (.int (nI (j + 1))) = g
    have Fg : Fr [63, 73] h g := by
      rw [← hg]
      exact (Fr.up (by simp)).trans (Fr.up (F := [63, 73]) (by simp)) (fun a ha => Or.inl ha)
    have Eg : Ex M h M g := Fg.ex (fun a ha z => by
      simp only [List.mem_cons, List.not_mem_nil, or_false] at ha
      exact z.1 (by omega)) (fun a ha => Or.inl ha)
    have g63 : g[63]? = some (.inl 0, [.ref 64, .ref 71, .ref 72, .ref 73, .ref 74, .int (nI (j + 1)), .int (nI last)]) := by
      rw [← hg, c_up (by rw [c_upn (by decide)]; exact e63)]
      rfl
    have g73 : g[73]? = some (.inr .int, nvs (l.set j (pAt' R (st + j)).1)) := by
      rw [← hg, c_upn (by decide), c_up e73, bs_set]
    have hpj : pg.getD j 0 = (pAt' R (st + j)).1 := by
      rw [hpg, List.getD_eq_getElem?_getD, List.getElem?_map, List.getElem?_take, if_pos (by omega), List.getElem?_drop]
      unfold pAt'
      rw [List.getD_eq_getElem?_getD, List.getElem?_eq_getElem (show st + j < R.length by omega)]
      rfl
    have ht' : (l.set j (pAt' R (st + j)).1).take (j + 1) = pg.take (j + 1) := by
      rw [List.take_add_one, List.take_add_one, List.take_set_of_le (Nat.le_refl _), ht, ← hpj]
      congr 1
      simp [List.getD_eq_getElem?_getD, show j < l.length by omega, show j < pg.length by omega]
    obtain ⟨h', l'', i1', i2', i3', i4', i5', i6', i7'⟩ := ih (j + 1) g _ (by omega) (F0.ex Eg (Fg.2 72 (by have := ce_l e73; omega) (by simp)) (Fg.2 A4 (ce_l L.2.1) (by simp; omega))) g63 g73 (by rw [List.length_set]; exact hl) ht'
    refine ⟨h', l'', ?_, i2', i3', i4', i5', Fg.trans i6' (fun a ha => Or.inl ha), by rw [i7', ← hg, mw_up, mw_up]⟩
    rw [g208_13]
    have u1 : mx_el (mx_up h 73 j (.int (nI (pAt' R (st + j)).1))) 63 5 = .int (nI j) := by
      rw [mx_el_up, if_neg (fun z => absurd z.1 (by decide))]
      exact e5
    simp only [g208_14, g208_15, g208_18, g208_21, g208_24, g208_25, g208_28, g208_29, g208_32, g208_33, g208_36, g208_37, g208_40, g208_41, g208_44, g208_45, g208_48n, g208_48, g208_51, g208_54, g208_57, g208_58, g208_59, g208_60, g208_63, g208_64, g208_65, g208_68, g208_71, mx_isr_ref, mx_isr_null, mx_wt_nil, mx_wt_1, mx_wt_2, mx_wt_3, Option.bind_some, Option.toList_some, Option.toList_none, List.cons_append, List.nil_append, mx_nl_int, mx_nl_ref, mx_nl_null, mx_nl_none, mx_nb0, mx_nb1, mx_fb0, mx_fb1, mx_cat_int, mx_cat_ref, if_true, if_false, not_true_eq_false, not_false_eq_true, mx_wt_4, mx_w4_0, mx_w9_0, mx_w9_1, mx_kn_int, mx_kn_ref, mx_kn_null, Nat.reduceLT, ofn, n10, t63, l63, e2, e3, e5, (AL_f L).1, sz, c1, c2, G, tp, lp, w0, ti, li, i1, t73, l73, hnO, hnO3, nI_pos' (show j < 2 ^ 31 by omega), nI_clamp (show j < 2 ^ 31 by omega), show j < 8 by omega, mx_tag_up, mx_ln_up, u1, nI_1, hg]
    rw [Nat.add_assoc]
    exact i1'
end
