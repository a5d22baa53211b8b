/-! Person.set, accepts, from. -/
theorem pP_len {rc : Nat → Option Nat} {ts : List tk} {o : Bool} : ∀ f k q, pP rc ts o f k = some q → q.1.length ≤ f := by
  intro f
  induction f with
  | zero => intro k q h; cases h
  | succ f ih =>
    intro k q h
    obtain ⟨-, e, -, z | ⟨-, -, q', z1, z2⟩⟩ := pP_inv h
    · rw [z.2]; simp
    · have := ih _ _ z1
      rw [z2]
      simp
      exact this
theorem kd_len (ts : List tk) (t : Nat) : (kd ts t).length ≤ 120 := by
  unfold kd
  split
  · cases h : pP (pE ts 3) ts true 120 (t + 1) with
    | none => simp
    | some q => exact pP_len _ _ _ h
  · split
    · cases h : pP (pE ts 3) ts false 120 (t + 1) with
      | none => simp
      | some q => exact pP_len _ _ _ h
    · simp
theorem nb0 : nb 0 := ⟨by decide, by decide⟩
def NB (ts : List tk) : Prop := ∀ t, sc ts t = 1 → nb (tv ts t)
section
variable {d : Nat} {h : mx_H} {M : List Nat} {p l : Nat} {q : prs}
theorem jp_setA (hp63 : 63 ≤ p) (hpM : p ∈ M) (C : PC M h p l q) {a : Value} {x : Option Int} (O : OV M h a (agO x)) : mx_G d 147 0 [some (.ref p), some (.int 3), some a] [] h = some (none, mx_up h p 4 a) ∧ PC M (mx_up h p 4 a) p l (sAg q x) := by
  have hn : mt_nO ≤ p := by rw [show mt_nO = 63 by decide]; exact hp63
  have tp := (PC_f C).1
  have E := Ex.up1 (h := h) (k := 4) (v := a) hpM
  obtain ⟨i, v, n, f, a0, o, e1, e2, e3, e4, e5, e6, e7⟩ := C
  refine ⟨?_, ⟨i, v, n, f, a, o, by rw [c_up e1]; rfl, e2.ex E, e3.ex E, e4.ex E, e5.ex E, O.ex E, e7.ex E⟩⟩
  simp only [g147_0, g147_1, g147_2, g147_5, g147_6, g147_6n, g147_9, g147_10, g147_11, g147_14, g147_15, g147_18, g147_19, g147_20, g147_23, g147_26, g147_29, g147_32, g147_35, g147_36, g147_37, g147_40, g147_41, g147_42, g147_45, g147_48, g147_49, g147_50, g147_53, g147_54, g147_55, g147_58, mx_isr_ref, mx_isr_null, mx_wt_nil, mx_wt_1, mx_wt_2, mx_wt_3, Option.bind_some, Option.toList_some, Option.toList_none, List.cons_append, List.nil_append, mx_nl_int, mx_nl_ref, mx_nl_null, mx_nl_none, mx_nb0, mx_nb1, mx_fb0, mx_fb1, mx_cat_int, mx_cat_ref, if_true, if_false, not_true_eq_false, not_false_eq_true, mx_wt_4, mx_w4_0, mx_w9_0, mx_w9_1, mx_kn_int, mx_kn_ref, mx_kn_null, Nat.reduceLT, ofn, n10, show ¬ (3 : Int32) = 2 by decide, O.isr, tp, hn]
theorem jp_setO (hp63 : 63 ≤ p) (hpM : p ∈ M) (C : PC M h p l q) {a : Value} {x : Option Bool} (O : OV M h a (vB x)) : mx_G d 147 0 [some (.ref p), some (.int 4), some a] [] h = some (none, mx_up h p 5 a) ∧ PC M (mx_up h p 5 a) p l (sOn q x) := by
  have hn : mt_nO ≤ p := by rw [show mt_nO = 63 by decide]; exact hp63
  have tp := (PC_f C).1
  have E := Ex.up1 (h := h) (k := 5) (v := a) hpM
  obtain ⟨i, v, n, f, a0, o, e1, e2, e3, e4, e5, e6, e7⟩ := C
  refine ⟨?_, ⟨i, v, n, f, a0, a, by rw [c_up e1]; rfl, e2.ex E, e3.ex E, e4.ex E, e5.ex E, e6.ex E, O.ex E⟩⟩
  simp only [g147_0, g147_1, g147_2, g147_5, g147_6, g147_6n, g147_9, g147_10, g147_11, g147_14, g147_15, g147_18, g147_19, g147_20, g147_23, g147_26, g147_29, g147_32, g147_35, g147_36, g147_37, g147_40, g147_41, g147_42, g147_45, g147_48, g147_49, g147_50, g147_53, g147_54, g147_55, g147_58, mx_isr_ref, mx_isr_null, mx_wt_nil, mx_wt_1, mx_wt_2, mx_wt_3, Option.bind_some, Option.toList_some, Option.toList_none, List.cons_append, List.nil_append, mx_nl_int, mx_nl_ref, mx_nl_null, mx_nl_none, mx_nb0, mx_nb1, mx_fb0, mx_fb1, mx_cat_int, mx_cat_ref, if_true, if_false, not_true_eq_false, not_false_eq_true, mx_wt_4, mx_w4_0, mx_w9_0, mx_w9_1, mx_kn_int, mx_kn_ref, mx_kn_null, Nat.reduceLT, ofn, n10, show ¬ (4 : Int32) = 2 by decide, show ¬ (4 : Int32) = 3 by decide, O.isr, tp, hn]
theorem jp_setN (K : KK h) (hl : 102 ≤ h.length) (rM : RB M h) (hp63 : 63 ≤ p) (hpM : p ∈ M) (C : PC M h p l q) {w : Nat} {cs : List Nat} (hcs : cs ≠ []) (W : VP M h w (2, 0, cs)) : ∃ h', mx_G (d + 6) 147 0 [some (.ref p), some (.int 2), some (.ref w)] [] h = some (none, h') ∧ PC M h' p l (sNm q cs) ∧ Fr [p] h h' ∧ mw h' ≤ mw h + 56 + 2 * cs.length := by
  have hn : mt_nO ≤ p := by rw [show mt_nO = 63 by decide]; exact hp63
  have tp := (PC_f C).1
  have hpl : p < h.length := (rM p hpM).2
  have E1 := Ex.up1 (h := h) (k := 2) (v := .ref w) hpM
  generalize hg1 : mx_up h p 2 (.ref w) = g1 at E1
  have F1 : Fr [p] h g1 := by rw [← hg1]; exact Fr.up (by simp)
  have l1 : g1.length = h.length := by rw [← hg1, mx_len_up]
  generalize hg2 : g1 ++ [((.inl 4 : Nat ⊕ FieldType), [Value.int 0, .int 0, .null, .null])] = g2
  have F2 : Fr [] g1 g2 := by rw [← hg2]; exact Fr.app _ _ _
  have l2 : g2.length = g1.length + 1 := by rw [← hg2]; simp
  have e2v : g2[g1.length]? = some (.inl 4, [.int 0, .int 0, .null, .null]) := by rw [← hg2, c_app]
  have E2 : Ex M g1 M g2 := Ex.fresh F2 (fun a ha => Or.inl ha)
  have W2 := (W.ex E1).ex E2
  obtain ⟨sw, cw, fw_, ⟨bw, fb1, fb2, Sw⟩⟩ := W2
  have K2 := (K.fr F1 (by simpa using hp63)).fr F2 (by simp)
  obtain ⟨g3, s3, b3, f1, f2, f3, f4, f5, f6⟩ := jf_foldAll (d := d) K2.1 (by omega) Sw
  have l3 := f5.1
  have e3v := f5.at e2v (by simp)
  obtain ⟨n1, n2, n3⟩ := jv_new g1.length (by omega) e3v (.int 2) (.int 0) (.ref s3) .null
  have J := jv_117 (d := d + 4) (h := g3) (v := g1.length) (by omega) (ce_t e3v) s3
  generalize hg4 : mx_up (mx_up (mx_up (mx_up g3 g1.length 0 (.int 2)) g1.length 1 (.int 0)) g1.length 2 (.ref s3)) g1.length 3 .null = g4 at *
  have l4 := n2.1
  have E3 : Ex M g2 M g3 := Ex.fresh f5 (fun a ha => Or.inl ha)
  have F14 : Fr [] g1 g4 := (F2.trans f5 (fun a ha => absurd ha (by simp))).trans n2 (fun a ha => by rw [List.mem_singleton] at ha; exact Or.inr (by omega))
  have E4 : Ex M g1 M g4 := Ex.fresh F14 (fun a ha => Or.inl ha)
  have E5 := Ex.up1 (h := g4) (k := 3) (v := .ref g1.length) hpM
  have E := (E1.trans E4).trans E5
  obtain ⟨i, v, n, f, a, o, c1, c2, c3, c4, c5, c6, c7⟩ := C
  have cp1 : g1[p]? = some (.inl 7, [.ref i, .ref v, .ref w, f, a, o, .ref l]) := by rw [← hg1, c_up c1]; rfl
  have cp4 := F14.at cp1 (by simp)
  have fzN : ∀ x, h.length ≤ x → fz M x := fun x hx => ⟨by omega, fun z => by have := (rM x z).2; omega⟩
  have fzB : fz M b3 := by
    rcases f4 with z | z
    · rw [z]; exact ⟨by omega, fun y => by have := (rM 12 y).1; omega⟩
    · exact fzN _ (by omega)
  have S4 : sB g4 s3 b3 (cs.map sml) := by
    obtain ⟨⟨z2, z3, q1⟩, q2, q3⟩ := f2
    have bl := ce_l q2
    exact ⟨⟨z2, z3, n2.at q1 (by rw [List.mem_singleton]; omega)⟩, n2.at q2 (by rw [List.mem_singleton]; omega), q3⟩
  refine ⟨mx_up g4 p 3 (.ref g1.length), ?_, ⟨i, v, .ref w, .ref g1.length, a, o, by rw [c_up cp4]; rfl, c2.ex E, c3.ex E, ?_, ?_, c6.ex E, c7.ex E⟩, ?_, ?_⟩
  · have tw : mx_tag g2 w = some (.inl 4) := ce_t cw
    have lw : mx_ln g2 w = 4 := by rw [ce_n cw]; rfl
    have w2 : mx_el g2 w 2 = .ref sw := by rw [ce_e cw]; rfl
    simp only [g147_0, g147_1, g147_2, g147_5, g147_6, g147_6n, g147_9, g147_10, g147_11, g147_14, g147_15, g147_18, g147_19, g147_20, g147_23, g147_26, g147_29, g147_32, g147_35, g147_36, g147_37, g147_40, g147_41, g147_42, g147_45, g147_48, g147_49, g147_50, g147_53, g147_54, g147_55, g147_58, mx_isr_ref, mx_isr_null, mx_wt_nil, mx_wt_1, mx_wt_2, mx_wt_3, Option.bind_some, Option.toList_some, Option.toList_none, List.cons_append, List.nil_append, mx_nl_int, mx_nl_ref, mx_nl_null, mx_nl_none, mx_nb0, mx_nb1, mx_fb0, mx_fb1, mx_cat_int, mx_cat_ref, if_true, if_false, not_true_eq_false, not_false_eq_true, mx_wt_4, mx_w4_0, mx_w9_0, mx_w9_1, mx_kn_int, mx_kn_ref, mx_kn_null, Nat.reduceLT, ofn, n10, show ¬ (¬ (2 : Int32) = 2) by decide, tp, hn, hg1, hg2, tw, lw, w2, f1, ce_t e3v, J, ce_t cp4]
  · show OV M _ _ (nmO cs)
    unfold nmO
    rw [if_neg hcs]
    exact ⟨w, rfl, W.ex E, nb0⟩
  · show OV M _ _ (nmO (cs.map sml))
    unfold nmO
    rw [if_neg (by simpa using hcs)]
    refine (show OV M g4 (.ref g1.length) (some (2, 0, cs.map sml)) from ⟨g1.length, rfl, ⟨s3, n1, fzN _ (by omega), b3, fzN _ (by omega), fzB, S4⟩, nb0⟩).ex E5
  · exact ((F1.trans F14 (fun a ha => absurd ha (by simp))).trans (Fr.up (F := [p]) (by simp)) (fun a ha => Or.inl ha))
  · rw [mw_up, n3]
    have := mw_app g1 ((.inl 4 : Nat ⊕ FieldType), [Value.int 0, .int 0, .null, .null])
    rw [hg2] at this
    simp only [List.length_cons, List.length_nil] at this
    have m1 : mw g1 = mw h := by rw [← hg1, mw_up]
    have f6' : mw g3 ≤ mw g2 + 40 + 2 * cs.length := f6
    omega
/-- what a member says of a person -/
def fS1 (ts : List tk) (m : Nat) (p : prs) : Option prs :=
  if nmf ts m = w_id ∨ nmf ts m = w_version then some p
  else if nmf ts m = w_name then (if ftx ts (m + 2) = true then some (sNm p (tx ts (m + 2))) else none)
  else if nmf ts m = w_age then (if sc ts (m + 2) = 1 then some (sAg p (some (tv ts (m + 2)))) else none)
  else if nmf ts m = w_on then (if sc ts (m + 2) = 3 then some (sOn p (some (tb ts (m + 2)))) else none)
  else if nmf ts m = w_mail then (iA ts (m + 2)).bind fun x => if x.length ≤ 4 ∧ twn x = false ∧ trs x < 2 then some (sIt p x) else none
  else none
theorem fS_cons (ts : List tk) (m : Nat) (l : List Nat) (p : prs) : fS ts (m :: l) p = (fS1 ts m p).bind (fS ts l) := by
  rw [fS]
  unfold fS1
  split
  · rfl
  · split
    · split <;> rfl
    · split
      · split <;> rfl
      · split
        · split <;> rfl
        · split
          · cases iA ts (m + 2) with
            | none => rfl
            | some x =>
              simp only [Option.bind_some]
              split <;> rfl
          · rfl
theorem aPi_of (w : List Nat) : (w = w_id → aPi w = 0) ∧ (w = w_version → aPi w = 1) ∧ (w = w_name → aPi w = 2) ∧ (w = w_age → aPi w = 3) ∧ (w = w_on → aPi w = 4) ∧ (w = w_mail → aPi w = 5) ∧ (w ≠ w_id → w ≠ w_version → w ≠ w_name → w ≠ w_age → w ≠ w_on → w ≠ w_mail → aPi w = -1) := by
  refine ⟨?_, ?_, ?_, ?_, ?_, ?_, ?_⟩
  · rintro rfl; decide
  · rintro rfl; decide
  · rintro rfl; decide
  · rintro rfl; decide
  · rintro rfl; decide
  · rintro rfl; decide
  · intro h1 h2 h3 h4 h5 h6
    unfold aPi aPn
    rw [if_neg h1, if_neg h2, if_neg h3, if_neg h4, if_neg h5, if_neg h6]
    rfl
theorem jp_acc {ts : List tk} {n m w : Nat} (N : NB ts) (K : KK h) (hl : 102 ≤ h.length) (rM : RB M h) (hp63 : 63 ≤ p) (hpM : p ∈ M) (C : PP M h p q) (V : cVl ts n M h w (m + 2)) :
    (∀ q', fS1 ts m q = some q' → ∃ h', mx_G (d + 11) 123 0 [some (.ref p), some (.int (aPi (nmf ts m))), some (.ref w)] [] h = some (some (.int 1), h') ∧ PP M h' p q' ∧ Fr [p] h h' ∧ mw h' ≤ mw h + 10100) ∧
    (fS1 ts m q = none → ∃ h', mx_G (d + 11) 123 0 [some (.ref p), some (.int (aPi (nmf ts m))), some (.ref w)] [] h = some (some (.int 0), h') ∧ Fr [p] h h' ∧ mw h' ≤ mw h + 10100) := by
  obtain ⟨l, C, L⟩ := C
  obtain ⟨num, VC1, hk5⟩ := cVl_vc V
  obtain ⟨s0, b0, f0, tv_, lv, v0, v1, v2, v3, hf0, S0⟩ := VC_f VC1
  obtain ⟨a0, a1, a2, a3, a4, a5, a6⟩ := aPi_of (nmf ts m)
  have tp := (PC_f C).1
  have RO := fun k => ja_ro (d := d + 10) (h := h) (k := k)
  unfold fS1
  by_cases c0 : nmf ts m = w_id ∨ nmf ts m = w_version
  · rw [if_pos c0]
    refine ⟨fun q' hq => ?_, fun z => (by cases z)⟩
    cases hq
    refine ⟨h, ?_, ⟨l, C, L⟩, Fr.rfl _ _, by omega⟩
    have hR : aPi (nmf ts m) = 0 ∨ aPi (nmf ts m) = 1 := c0.elim (fun z => Or.inl (a0 z)) (fun z => Or.inr (a1 z))
    have R := RO (aPi (nmf ts m))
    rw [if_pos hR] at R
    simp only [g123_0, g123_1, g123_4, g123_7, g123_8, mx_isr_ref, mx_isr_null, mx_wt_nil, mx_wt_1, mx_wt_2, mx_wt_3, Option.bind_some, Option.toList_some, Option.toList_none, List.cons_append, List.nil_append, mx_nl_int, mx_nl_ref, mx_nl_null, mx_nl_none, mx_nb0, mx_nb1, mx_fb0, mx_fb1, mx_cat_int, mx_cat_ref, if_true, if_false, not_true_eq_false, not_false_eq_true, mx_wt_4, mx_w4_0, mx_w9_0, mx_w9_1, mx_kn_int, mx_kn_ref, mx_kn_null, Nat.reduceLT, ofn, n10, R]
  · rw [if_neg c0]
    have n0 : nmf ts m ≠ w_id := fun z => c0 (Or.inl z)
    have n1 : nmf ts m ≠ w_version := fun z => c0 (Or.inr z)
    by_cases c2 : nmf ts m = w_name
    · rw [if_pos c2, a2 c2]
      have R := RO 2
      rw [if_neg (by decide)] at R
      have Fi := ja_fits (d := d + 8) K VC1 hk5 (at_ := 2) (by decide)
      rw [show nI 2 = 2 from rfl, show kdA 2 = 2 from rfl] at Fi
      have key := vk_2 V
      by_cases cf : ftx ts (m + 2) = true
      · rw [if_pos (key.mpr cf)] at Fi
        rw [if_pos cf]
        have hft := of_decide_eq_true (show decide (sc ts (m + 2) = 2 ∧ 1 ≤ (tx ts (m + 2)).length ∧ (tx ts (m + 2)).length ≤ 12) = true from cf)
        have O := cVl_ov V (fun z => by omega) (by omega)
        have hpk : pk ts (m + 2) = (2, 0, tx ts (m + 2)) := by unfold pk; rw [hft.1]; rfl
        rw [hpk] at O
        obtain ⟨w', ew, W, -⟩ := O
        cases ew
        obtain ⟨h', z1, z2, z3, z4⟩ := jp_setN (d := d + 4) K hl rM hp63 hpM C (cs := tx ts (m + 2)) (fun z => by rw [z] at hft; simp at hft) W
        refine ⟨fun q' hq => ?_, fun z => (by cases z)⟩
        cases hq
        have E : Ex M h M h' := z3.ex (fun a ha y => by rw [List.mem_singleton] at ha; exact y.2 (ha ▸ hpM)) (fun a ha => Or.inl ha)
        refine ⟨h', ?_, ⟨l, z2, L.ex E⟩, z3, by omega⟩
        simp only [g123_0, g123_1, g123_4, g123_7, g123_8, g123_9, g123_10, g123_11, g123_14, g123_15, g123_18, g123_19, g123_22, g123_23, g123_24, g123_27, g123_30, g123_33, g123_34, g123_37, g123_38, g123_39, g123_40, g123_41, g123_44, g123_47, g123_48, g123_49, g123_50, g123_51, g123_52, g123_55, g123_56, mx_isr_ref, mx_isr_null, mx_wt_nil, mx_wt_1, mx_wt_2, mx_wt_3, Option.bind_some, Option.toList_some, Option.toList_none, List.cons_append, List.nil_append, mx_nl_int, mx_nl_ref, mx_nl_null, mx_nl_none, mx_nb0, mx_nb1, mx_fb0, mx_fb1, mx_cat_int, mx_cat_ref, if_true, if_false, not_true_eq_false, not_false_eq_true, mx_wt_4, mx_w4_0, mx_w9_0, mx_w9_1, mx_kn_int, mx_kn_ref, mx_kn_null, Nat.reduceLT, ofn, n10, R, show ¬ (2 : Int32) = 5 by decide, Fi, tp, z1]
      · rw [if_neg (fun z => cf (key.mp z))] at Fi
        rw [if_neg cf]
        refine ⟨fun q' hq => (by cases hq), fun _ => ⟨h, ?_, Fr.rfl _ _, by omega⟩⟩
        simp only [g123_0, g123_1, g123_4, g123_7, g123_8, g123_9, g123_10, g123_11, g123_14, g123_15, g123_18, g123_19, g123_22, g123_23, g123_24, g123_27, g123_30, g123_33, g123_34, g123_37, g123_38, g123_39, g123_40, g123_41, g123_44, g123_47, g123_48, g123_49, g123_50, g123_51, g123_52, g123_55, g123_56, mx_isr_ref, mx_isr_null, mx_wt_nil, mx_wt_1, mx_wt_2, mx_wt_3, Option.bind_some, Option.toList_some, Option.toList_none, List.cons_append, List.nil_append, mx_nl_int, mx_nl_ref, mx_nl_null, mx_nl_none, mx_nb0, mx_nb1, mx_fb0, mx_fb1, mx_cat_int, mx_cat_ref, if_true, if_false, not_true_eq_false, not_false_eq_true, mx_wt_4, mx_w4_0, mx_w9_0, mx_w9_1, mx_kn_int, mx_kn_ref, mx_kn_null, Nat.reduceLT, ofn, n10, R, show ¬ (2 : Int32) = 5 by decide, Fi]
    · rw [if_neg c2]
      by_cases c3 : nmf ts m = w_age
      · rw [if_pos c3, a3 c3]
        have R := RO 3
        rw [if_neg (by decide)] at R
        have Fi := ja_fits (d := d + 8) K VC1 hk5 (at_ := 3) (by decide)
        rw [show nI 3 = 3 from rfl, show kdA 3 = 1 from rfl] at Fi
        have key := vk_1 V
        by_cases cf : sc ts (m + 2) = 1
        · rw [if_pos (key.mpr cf)] at Fi
          rw [if_pos cf]
          have O := cVl_ov V (N _) (by omega)
          have hpk : pk ts (m + 2) = (1, tv ts (m + 2), []) := by unfold pk; rw [if_pos cf]
          rw [hpk] at O
          obtain ⟨z1, z2⟩ := jp_setA (d := d + 10) hp63 hpM C (x := some (tv ts (m + 2))) O
          refine ⟨fun q' hq => ?_, fun z => (by cases z)⟩
          cases hq
          have E := Ex.up1 (h := h) (k := 4) (v := .ref w) hpM
          refine ⟨_, ?_, ⟨l, z2, L.ex E⟩, Fr.up (by simp), by rw [mw_up]; omega⟩
          simp only [g123_0, g123_1, g123_4, g123_7, g123_8, g123_9, g123_10, g123_11, g123_14, g123_15, g123_18, g123_19, g123_22, g123_23, g123_24, g123_27, g123_30, g123_33, g123_34, g123_37, g123_38, g123_39, g123_40, g123_41, g123_44, g123_47, g123_48, g123_49, g123_50, g123_51, g123_52, g123_55, g123_56, mx_isr_ref, mx_isr_null, mx_wt_nil, mx_wt_1, mx_wt_2, mx_wt_3, Option.bind_some, Option.toList_some, Option.toList_none, List.cons_append, List.nil_append, mx_nl_int, mx_nl_ref, mx_nl_null, mx_nl_none, mx_nb0, mx_nb1, mx_fb0, mx_fb1, mx_cat_int, mx_cat_ref, if_true, if_false, not_true_eq_false, not_false_eq_true, mx_wt_4, mx_w4_0, mx_w9_0, mx_w9_1, mx_kn_int, mx_kn_ref, mx_kn_null, Nat.reduceLT, ofn, n10, R, show ¬ (3 : Int32) = 5 by decide, Fi, tp, z1]
        · rw [if_neg (fun z => cf (key.mp z))] at Fi
          rw [if_neg cf]
          refine ⟨fun q' hq => (by cases hq), fun _ => ⟨h, ?_, Fr.rfl _ _, by omega⟩⟩
          simp only [g123_0, g123_1, g123_4, g123_7, g123_8, g123_9, g123_10, g123_11, g123_14, g123_15, g123_18, g123_19, g123_22, g123_23, g123_24, g123_27, g123_30, g123_33, g123_34, g123_37, g123_38, g123_39, g123_40, g123_41, g123_44, g123_47, g123_48, g123_49, g123_50, g123_51, g123_52, g123_55, g123_56, mx_isr_ref, mx_isr_null, mx_wt_nil, mx_wt_1, mx_wt_2, mx_wt_3, Option.bind_some, Option.toList_some, Option.toList_none, List.cons_append, List.nil_append, mx_nl_int, mx_nl_ref, mx_nl_null, mx_nl_none, mx_nb0, mx_nb1, mx_fb0, mx_fb1, mx_cat_int, mx_cat_ref, if_true, if_false, not_true_eq_false, not_false_eq_true, mx_wt_4, mx_w4_0, mx_w9_0, mx_w9_1, mx_kn_int, mx_kn_ref, mx_kn_null, Nat.reduceLT, ofn, n10, R, show ¬ (3 : Int32) = 5 by decide, Fi]
      · rw [if_neg c3]
        by_cases c4 : nmf ts m = w_on
        · rw [if_pos c4, a4 c4]
          have R := RO 4
          rw [if_neg (by decide)] at R
          have Fi := ja_fits (d := d + 8) K VC1 hk5 (at_ := 4) (by decide)
          rw [show nI 4 = 4 from rfl, show kdA 4 = 0 from rfl] at Fi
          have key := vk_0 V
          by_cases cf : sc ts (m + 2) = 3
          · rw [if_pos (key.mpr cf)] at Fi
            rw [if_pos cf]
            have O := cVl_ov V (N _) (by omega)
            have hpk : pk ts (m + 2) = (0, if tb ts (m + 2) = true then 1 else 0, []) := by unfold pk; rw [cf]; rfl
            rw [hpk] at O
            obtain ⟨z1, z2⟩ := jp_setO (d := d + 10) hp63 hpM C (x := some (tb ts (m + 2))) O
            refine ⟨fun q' hq => ?_, fun z => (by cases z)⟩
            cases hq
            have E := Ex.up1 (h := h) (k := 5) (v := .ref w) hpM
            refine ⟨_, ?_, ⟨l, z2, L.ex E⟩, Fr.up (by simp), by rw [mw_up]; omega⟩
            simp only [g123_0, g123_1, g123_4, g123_7, g123_8, g123_9, g123_10, g123_11, g123_14, g123_15, g123_18, g123_19, g123_22, g123_23, g123_24, g123_27, g123_30, g123_33, g123_34, g123_37, g123_38, g123_39, g123_40, g123_41, g123_44, g123_47, g123_48, g123_49, g123_50, g123_51, g123_52, g123_55, g123_56, mx_isr_ref, mx_isr_null, mx_wt_nil, mx_wt_1, mx_wt_2, mx_wt_3, Option.bind_some, Option.toList_some, Option.toList_none, List.cons_append, List.nil_append, mx_nl_int, mx_nl_ref, mx_nl_null, mx_nl_none, mx_nb0, mx_nb1, mx_fb0, mx_fb1, mx_cat_int, mx_cat_ref, if_true, if_false, not_true_eq_false, not_false_eq_true, mx_wt_4, mx_w4_0, mx_w9_0, mx_w9_1, mx_kn_int, mx_kn_ref, mx_kn_null, Nat.reduceLT, ofn, n10, R, show ¬ (4 : Int32) = 5 by decide, Fi, tp, z1]
          · rw [if_neg (fun z => cf (key.mp z))] at Fi
            rw [if_neg cf]
            refine ⟨fun q' hq => (by cases hq), fun _ => ⟨h, ?_, Fr.rfl _ _, by omega⟩⟩
            simp only [g123_0, g123_1, g123_4, g123_7, g123_8, g123_9, g123_10, g123_11, g123_14, g123_15, g123_18, g123_19, g123_22, g123_23, g123_24, g123_27, g123_30, g123_33, g123_34, g123_37, g123_38, g123_39, g123_40, g123_41, g123_44, g123_47, g123_48, g123_49, g123_50, g123_51, g123_52, g123_55, g123_56, mx_isr_ref, mx_isr_null, mx_wt_nil, mx_wt_1, mx_wt_2, mx_wt_3, Option.bind_some, Option.toList_some, Option.toList_none, List.cons_append, List.nil_append, mx_nl_int, mx_nl_ref, mx_nl_null, mx_nl_none, mx_nb0, mx_nb1, mx_fb0, mx_fb1, mx_cat_int, mx_cat_ref, if_true, if_false, not_true_eq_false, not_false_eq_true, mx_wt_4, mx_w4_0, mx_w9_0, mx_w9_1, mx_kn_int, mx_kn_ref, mx_kn_null, Nat.reduceLT, ofn, n10, R, show ¬ (4 : Int32) = 5 by decide, Fi]
        · rw [if_neg c4]
          by_cases c5 : nmf ts m = w_mail
          · rw [if_pos c5, a5 c5]
            have R := RO 5
            rw [if_neg (by decide)] at R
            unfold iA
            by_cases cA : tI ts (m + 2) 91 = true
            · rw [if_pos cA]
              have c123 : ¬ tI ts (m + 2) 123 = true := by
                intro z
                rw [tI_eq] at z cA
                omega
              have hvk : vkd ts (m + 2) = 4 := by unfold vkd; rw [if_neg c123, if_pos cA]
              rw [hvk, show nI 4 = 4 from rfl] at v0
              have hB : iB ts (m + 2) = iL ts (kd ts (m + 2)) := by unfold iB; rw [if_pos cA]
              obtain ⟨j1, j2⟩ := ji_whole (d := d + 1) K hl rM V (Nat.le_trans (kd_len _ _) (by decide))
              rw [hB] at j1 j2
              cases hq : iL ts (kd ts (m + 2)) with
              | none =>
                obtain ⟨h1, y1, y2, y3⟩ := j2 hq
                have tp1 : mx_tag h1 p = some (.inl 7) := by
                  obtain ⟨i, v, n, f, a, o, e1, -⟩ := C
                  exact ce_t (y2.at e1 (by simp))
                have k137 : mx_G (d + 10) 137 0 [some (.ref p), some .null, none, none] [] h1 = some (some (.int 0), h1) := by
                  simp only [g137_0, g137_1, g137_1n, g137_4, g137_5, g137_8, g137_9, g137_12, g137_13, mx_isr_ref, mx_isr_null, mx_wt_nil, mx_wt_1, mx_wt_2, mx_wt_3, Option.bind_some, Option.toList_some, Option.toList_none, List.cons_append, List.nil_append, mx_nl_int, mx_nl_ref, mx_nl_null, mx_nl_none, mx_nb0, mx_nb1, mx_fb0, mx_fb1, mx_cat_int, mx_cat_ref, if_true, if_false, not_true_eq_false, not_false_eq_true, mx_wt_4, mx_w4_0, mx_w9_0, mx_w9_1, mx_kn_int, mx_kn_ref, mx_kn_null, Nat.reduceLT, ofn, n10]
                refine ⟨fun q' hq' => (by cases hq'), fun _ => ⟨h1, ?_, y2.mono (by simp), by omega⟩⟩
                simp only [g123_0, g123_1, g123_4, g123_7, g123_8, g123_9, g123_10, g123_11, g123_14, g123_15, g123_18, g123_19, g123_22, g123_23, g123_24, g123_27, g123_30, g123_33, g123_34, g123_37, g123_38, g123_39, g123_40, g123_41, g123_44, g123_47, g123_48, g123_49, g123_50, g123_51, g123_52, g123_55, g123_56, mx_isr_ref, mx_isr_null, mx_wt_nil, mx_wt_1, mx_wt_2, mx_wt_3, Option.bind_some, Option.toList_some, Option.toList_none, List.cons_append, List.nil_append, mx_nl_int, mx_nl_ref, mx_nl_null, mx_nl_none, mx_nb0, mx_nb1, mx_fb0, mx_fb1, mx_cat_int, mx_cat_ref, if_true, if_false, not_true_eq_false, not_false_eq_true, mx_wt_4, mx_w4_0, mx_w9_0, mx_w9_1, mx_kn_int, mx_kn_ref, mx_kn_null, Nat.reduceLT, ofn, n10, R, tv_, lv, v0, y1, tp1, k137]
              | some x =>
                obtain ⟨h1, A, cp, es, y1, y2, y3, y4, y5, y6, y7⟩ := j1 x hq
                have E1 : Ex M h M h1 := Ex.fresh y4 (fun a ha => Or.inl ha)
                have C1 : PC M h1 p l q := by
                  obtain ⟨i, v, n, f, a, o, e1, e2⟩ := C
                  exact PC.ex ⟨i, v, n, f, a, o, e1, e2⟩ E1 (y4.2 p (ce_l e1) (by simp))
                have I1 : ITs M h1 es x := y3.ex (Ex.sub h1 (fun a ha => List.mem_append.mpr (Or.inr ha))) (fun _ _ => rfl)
                have tp1 := (PC_f C1).1
                obtain ⟨h2, z1, z2, z3, z4⟩ := jp_mail (d := d + 3) hp63 hpM C1 y2 I1
                simp only [Option.bind_some]
                by_cases cc : x.length ≤ 4 ∧ twn x = false ∧ trs x < 2
                · rw [if_pos cc] at z1 ⊢
                  refine ⟨fun q' hq' => ?_, fun z => (by cases z)⟩
                  cases hq'
                  obtain ⟨C2, hh2⟩ := z2 cc.1
                  have E2 : Ex M h1 M h2 := z3.ex (fun a ha y => by rw [List.mem_singleton] at ha; exact y.2 (ha ▸ hpM)) (fun a ha => Or.inl ha)
                  have fzN : ∀ a, h.length ≤ a → fz M a := fun a ha => ⟨by omega, fun z => by have := (rM a z).2; omega⟩
                  have FL1 : FL M h1 h.length x := ⟨A, cp, es, y2, I1, fzN _ (Nat.le_refl _), y5.elim (fun z => by rw [z]; exact ⟨by omega, fun y => by have := (rM 2 y).1; omega⟩) (fun z => fzN _ z), fun e he => fzN _ (y6 e he)⟩
                  refine ⟨h2, ?_, ⟨h.length, C2, FL1.ex E2⟩, (y4.mono (by simp)).trans z3 (fun a ha => Or.inl ha), by omega⟩
                  simp only [g123_0, g123_1, g123_4, g123_7, g123_8, g123_9, g123_10, g123_11, g123_14, g123_15, g123_18, g123_19, g123_22, g123_23, g123_24, g123_27, g123_30, g123_33, g123_34, g123_37, g123_38, g123_39, g123_40, g123_41, g123_44, g123_47, g123_48, g123_49, g123_50, g123_51, g123_52, g123_55, g123_56, mx_isr_ref, mx_isr_null, mx_wt_nil, mx_wt_1, mx_wt_2, mx_wt_3, Option.bind_some, Option.toList_some, Option.toList_none, List.cons_append, List.nil_append, mx_nl_int, mx_nl_ref, mx_nl_null, mx_nl_none, mx_nb0, mx_nb1, mx_fb0, mx_fb1, mx_cat_int, mx_cat_ref, if_true, if_false, not_true_eq_false, not_false_eq_true, mx_wt_4, mx_w4_0, mx_w9_0, mx_w9_1, mx_kn_int, mx_kn_ref, mx_kn_null, Nat.reduceLT, ofn, n10, R, tv_, lv, v0, y1, tp1, z1]
                · rw [if_neg cc] at z1 ⊢
                  refine ⟨fun q' hq' => (by cases hq'), fun _ => ⟨h2, ?_, (y4.mono (by simp)).trans z3 (fun a ha => Or.inl ha), by omega⟩⟩
                  simp only [g123_0, g123_1, g123_4, g123_7, g123_8, g123_9, g123_10, g123_11, g123_14, g123_15, g123_18, g123_19, g123_22, g123_23, g123_24, g123_27, g123_30, g123_33, g123_34, g123_37, g123_38, g123_39, g123_40, g123_41, g123_44, g123_47, g123_48, g123_49, g123_50, g123_51, g123_52, g123_55, g123_56, mx_isr_ref, mx_isr_null, mx_wt_nil, mx_wt_1, mx_wt_2, mx_wt_3, Option.bind_some, Option.toList_some, Option.toList_none, List.cons_append, List.nil_append, mx_nl_int, mx_nl_ref, mx_nl_null, mx_nl_none, mx_nb0, mx_nb1, mx_fb0, mx_fb1, mx_cat_int, mx_cat_ref, if_true, if_false, not_true_eq_false, not_false_eq_true, mx_wt_4, mx_w4_0, mx_w9_0, mx_w9_1, mx_kn_int, mx_kn_ref, mx_kn_null, Nat.reduceLT, ofn, n10, R, tv_, lv, v0, y1, tp1, z1]
            · rw [if_neg cA]
              have hvk : ¬ vkd ts (m + 2) = 4 := by
                unfold vkd
                split
                · decide
                · unfold pk
                  split
                  · show ¬ 1 = 4; decide
                  · split
                    · show ¬ 2 = 4; decide
                    · show ¬ 0 = 4; decide
              have q4 : ¬ nI (vkd ts (m + 2)) = 4 := fun z => hvk ((nI_eq (b := 4) (by omega) (by decide)).mp z)
              refine ⟨fun q' hq' => (by cases hq'), fun _ => ⟨h, ?_, Fr.rfl _ _, by omega⟩⟩
              simp only [g123_0, g123_1, g123_4, g123_7, g123_8, g123_9, g123_10, g123_11, g123_14, g123_15, g123_18, g123_19, g123_22, g123_23, g123_24, g123_27, g123_30, g123_33, g123_34, g123_37, g123_38, g123_39, g123_40, g123_41, g123_44, g123_47, g123_48, g123_49, g123_50, g123_51, g123_52, g123_55, g123_56, mx_isr_ref, mx_isr_null, mx_wt_nil, mx_wt_1, mx_wt_2, mx_wt_3, Option.bind_some, Option.toList_some, Option.toList_none, List.cons_append, List.nil_append, mx_nl_int, mx_nl_ref, mx_nl_null, mx_nl_none, mx_nb0, mx_nb1, mx_fb0, mx_fb1, mx_cat_int, mx_cat_ref, if_true, if_false, not_true_eq_false, not_false_eq_true, mx_wt_4, mx_w4_0, mx_w9_0, mx_w9_1, mx_kn_int, mx_kn_ref, mx_kn_null, Nat.reduceLT, ofn, n10, R, tv_, lv, v0, q4]
          · rw [if_neg c5, a6 n0 n1 c2 c3 c4 c5]
            have R := RO (-1)
            rw [if_neg (by decide)] at R
            have Fi := ja_fitsN (d := d + 8) VC1 hk5
            refine ⟨fun q' hq' => (by cases hq'), fun _ => ⟨h, ?_, Fr.rfl _ _, by omega⟩⟩
            simp only [g123_0, g123_1, g123_4, g123_7, g123_8, g123_9, g123_10, g123_11, g123_14, g123_15, g123_18, g123_19, g123_22, g123_23, g123_24, g123_27, g123_30, g123_33, g123_34, g123_37, g123_38, g123_39, g123_40, g123_41, g123_44, g123_47, g123_48, g123_49, g123_50, g123_51, g123_52, g123_55, g123_56, mx_isr_ref, mx_isr_null, mx_wt_nil, mx_wt_1, mx_wt_2, mx_wt_3, Option.bind_some, Option.toList_some, Option.toList_none, List.cons_append, List.nil_append, mx_nl_int, mx_nl_ref, mx_nl_null, mx_nl_none, mx_nb0, mx_nb1, mx_fb0, mx_fb1, mx_cat_int, mx_cat_ref, if_true, if_false, not_true_eq_false, not_false_eq_true, mx_wt_4, mx_w4_0, mx_w9_0, mx_w9_1, mx_kn_int, mx_kn_ref, mx_kn_null, Nat.reduceLT, ofn, n10, R, show ¬ (-1 : Int32) = 5 by decide, Fi]
end
