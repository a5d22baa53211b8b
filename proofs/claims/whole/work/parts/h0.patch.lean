/-! patch of the class is s_patch. -/
theorem rTg_len {ts : List tk} {c k : Nat} {b : (Nat × cdP) × Nat} (h : rTg ts c k = some b) : k ≤ b.2 ∧ (b.1.1 ≠ 0 → k + 1 ≤ b.2) := by
  unfold rTg at h
  split at h
  · cases h
    exact ⟨Nat.le_refl _, fun z => absurd rfl z⟩
  · split at h
    · split at h
      · cases h
      · cases h
        exact ⟨Nat.le_succ _, fun _ => Nat.le_refl _⟩
    · obtain ⟨y, hy, h⟩ := Option.bind_eq_some_iff.mp h
      have ly : k + 1 ≤ y.2 := by
        split at hy
        · obtain ⟨z, hz, hy⟩ := Option.bind_eq_some_iff.mp hy
          have g1 := cO_bd _ _ _ _ hz
          split at hy
          · cases hy
            show k + 1 ≤ z.2 + 1
            omega
          · cases hy
        · cases hy
          exact Nat.le_refl _
      split at h
      · cases h
        exact ⟨by omega, fun _ => ly⟩
      · split at h
        · cases h
          exact ⟨by show k ≤ y.2 + 2; omega, fun _ => by show k + 1 ≤ y.2 + 2; omega⟩
        · split at h
          · cases h
            exact ⟨by show k ≤ y.2 + 2; omega, fun _ => by show k + 1 ≤ y.2 + 2; omega⟩
          · cases h
theorem rOp_cost {ts : List tk} {k : Nat} {q : opr × Nat} (h : rOp ts k = some q) : opC ts q.1 ≤ 2550 * (q.2 - k) ∧ k < q.2 := by
  unfold rOp at h
  split at h
  · cases h
  · obtain ⟨b, hb, h⟩ := Option.bind_eq_some_iff.mp h
    obtain ⟨l1, l2⟩ := rTg_len hb
    split at h
    · rename_i c45
      cases h
      refine ⟨?_, by show k < b.2; omega⟩
      show (if (tA ts k).1 = 45 then 100 else _) ≤ 2550 * (b.2 - k)
      rw [if_pos c45]
      omega
    · rename_i c45
      split at h
      · cases h
      · obtain ⟨e, he, h⟩ := Option.map_eq_some_iff.mp h
        rw [← h]
        have hE := pV_pE 3 _ _ (by decide) he
        have be := pE_bd _ _ _ hE
        refine ⟨?_, by show k < e; omega⟩
        show (if (tA ts k).1 = 45 then 100 else if b.1.1 = 0 then (if tI ts (b.2 + 1) 123 = true then 10200 * (kd ts (b.2 + 1)).length else 0) + 100 else 10200) ≤ 2550 * (e - k)
        rw [if_neg c45]
        split
        · split
          · rename_i h123
            have := kd_four h123 hE
            omega
          · omega
        · rename_i w0
          have := l2 w0
          omega
theorem rOps_cost {ts : List tk} : ∀ f k l, rOps ts f k = some l → (l.map (opC ts)).sum ≤ 2550 * (ts.length - k) := by
  intro f
  induction f with
  | zero => intro k l h; cases h
  | succ f ih =>
    intro k l h
    rw [rOps] at h
    obtain ⟨q, hq, h⟩ := Option.bind_eq_some_iff.mp h
    obtain ⟨c1, c2⟩ := rOp_cost hq
    split at h
    · rename_i e
      cases h
      rw [← e]
      simpa using c1
    · split at h
      · rename_i h10
        obtain ⟨l', hl, el⟩ := Option.map_eq_some_iff.mp h
        have := ih _ _ hl
        have := tI_ltN (by decide) h10
        rw [← el, List.map_cons, List.sum_cons]
        omega
      · cases h
theorem tkOK_lx {bt : List Nat} (b128 : ∀ y ∈ bt, y < 128) (b120 : bt.length ≤ 120) (g : lx_good (lx bt.length bt) = true) : tkOK (lx bt.length bt) := by
  refine ⟨Nat.le_trans (lx_le _ _) b120, fun q hq => ⟨lx_ok _ bt b128 q hq ?_, lx_okN _ bt q hq⟩⟩
  have := List.all_eq_true.1 g q hq
  exact of_decide_eq_true this
section
variable {d : Nat} {h : mx_H} {x x2 A3 A4 : Nat} {bt : List Nat} {s : sto}
theorem jq_readAll (C : cSt h x x2 A3 A4 bt s) : ∃ (h' : mx_H) (x' : Nat), cSt (mx_up h' 64 5 (.int 0)) x' x2 A3 A4 [] s ∧ Fr [64, 65, 66, 67, 68, 69, x] h (mx_up h' 64 5 (.int 0)) ∧ (x' = x ∨ h.length ≤ x') ∧ mw h' ≤ mw h + 104 * bt.length + 3053 ∧ mx_tag h' 64 = some (.inl 1) ∧ pS h' s ∧ (∀ d', mx_G d' 118 0 [some (.ref 64)] [] h' = some (none, mx_up h' 64 5 (.int 0))) ∧
    (∀ l, rOps (lx bt.length bt) 120 0 = some l → ∃ v : Nat, mx_G (d + 30) 157 0 [some (.ref 64), none, none, none, none] [] h = some (some (.ref v), h') ∧ OPs (x' :: mR x2 A3 A4) (mx_up h' 64 5 (.int 0)) (lx bt.length bt) (.ref v) l) ∧
    (rOps (lx bt.length bt) 120 0 = none → mx_G (d + 30) 157 0 [some (.ref 64), none, none, none, none] [] h = some (some .null, h')) := by
  obtain ⟨r1, r2⟩ := cSt_R C
  have C0 := C
  obtain ⟨K, hl, hp, hb, hpl, hf, hg, hw, hm⟩ := C
  obtain ⟨b128, b120⟩ := bufS_lt hb
  obtain ⟨h1, cp, a1, T1, F1, W1⟩ := jq_split (d := d + 21) K hl hb
  have t64 : mx_tag h 64 = some (.inl 1) := by
    obtain ⟨ls, ks, ss, es, t, c, n, us, BB, -⟩ := hb
    exact ce_t BB.1
  have l1 := F1.1
  have N := NB_lx bt.length bt
  have hend : ∀ e, e ≤ (lx bt.length bt).length → (tI (lx bt.length bt) e 0 = true ↔ e = (lx bt.length bt).length) := fun e he => tI_end b128 he
  generalize hts : lx bt.length bt = ts at *
  have hp1 : pS h1 s := F1.at hp (by simp)
  have hWt : ∀ e, Wt ts e ≤ 104 * bt.length := fun e => by rw [← hts]; exact Wt_end _ _ _
  have hW0 : Wt ts 0 = 0 := rfl
  obtain ⟨Y1, Y2⟩ := jr_allL (d := d + 1) (ts := ts) (R := mR x2 A3 A4) N hend (h0 := h1) (x0 := x) (cp0 := cp) (c0 := 0) (by omega) (r1.le l1) 120 0 h1 x cp 0 .null .null [] none (by omega) T1 (K.fr F1 (by simp)) (PX.rfl ..) (Or.inl ⟨rfl, rfl, rfl⟩)
  rw [nI_0] at Y1 Y2
  have fin : ∀ (h2 : mx_H) (x' cp' e : Nat), BT h2 x' cp' ts e → PXd ts h1 x cp 0 h2 x' cp' e 53 → cSt (mx_up h2 64 5 (.int 0)) x' x2 A3 A4 [] s ∧ Fr [64, 65, 66, 67, 68, 69, x] h (mx_up h2 64 5 (.int 0)) ∧ (x' = x ∨ h.length ≤ x') ∧ mw h2 ≤ mw h + 104 * bt.length + 3053 ∧ mx_tag h2 64 = some (.inl 1) ∧ pS h2 s ∧ (∀ d', mx_G d' 118 0 [some (.ref 64)] [] h2 = some (none, mx_up h2 64 5 (.int 0))) := by
    intro h2 x' cp' e T2 P2
    obtain ⟨-, B2⟩ := jt_clearB (d := 0) T2
    have FF : Fr [64, 65, 66, 67, 68, 69, x] h (mx_up h2 64 5 (.int 0)) := ((F1.mono (F' := [64, 65, 66, 67, 68, 69, x]) (fun a ha => by simp only [List.mem_cons, List.not_mem_nil, or_false] at ha ⊢; omega)).trans P2.1 (fun a ha => Or.inl (by simp only [List.mem_cons, List.not_mem_nil, or_false] at ha ⊢; omega))).trans (Fr.up (F := [64]) (by simp)) (fun a ha => Or.inl (by simp only [List.mem_cons, List.not_mem_nil, or_false] at ha ⊢; omega))
    have hx' : x' = x ∨ h.length ≤ x' := P2.2.1.elim Or.inl (fun z => Or.inr (by omega))
    refine ⟨cSt_read C0 FF hx' B2, FF, hx', ?_, T2.kind.1, P2.1.at hp1 (by have := T1.xlt.2.2.1; simp; omega), fun d' => (jt_clearB (d := d') T2).1⟩
    have := P2.2.2.2
    have := hWt e
    have := T2.xlt.2.2.2.2.2.2
    omega
  cases ho : rOps ts 120 0 with
  | none =>
    obtain ⟨h2, x', cp', k', g1, T2, P2⟩ := Y2 ho
    obtain ⟨c1, c2, c3, c4, c5, c6, c7⟩ := fin h2 x' cp' k' T2 P2
    refine ⟨h2, x', c1, c2, c3, c4, c5, c6, c7, fun l hl => (by cases hl), fun _ => ?_⟩
    simp only [g157_0, g157_1, g157_4, g157_5, g157_6, g157_7, g157_8, g157_9, mx_isr_ref, mx_isr_null, mx_wt_nil, mx_wt_1, mx_wt_2, mx_wt_3, Option.bind_some, Option.toList_some, Option.toList_none, List.cons_append, List.nil_append, mx_nl_int, mx_nl_ref, mx_nl_null, mx_nl_none, mx_nb0, mx_nb1, mx_fb0, mx_fb1, mx_cat_int, mx_cat_ref, if_true, if_false, not_true_eq_false, not_false_eq_true, mx_wt_4, mx_w4_0, mx_w9_0, mx_w9_1, mx_kn_int, mx_kn_ref, mx_kn_null, Nat.reduceLT, ofn, n10, t64, a1]
    exact g1
  | some l =>
    obtain ⟨h2, x', cp', v, g1, T2, S, P2⟩ := Y1 l ho
    obtain ⟨c1, c2, c3, c4, c5, c6, c7⟩ := fin h2 x' cp' _ T2 (P2.d 53)
    refine ⟨h2, x', c1, c2, c3, c4, c5, c6, c7, fun l' hl => ?_, fun z => (by cases z)⟩
    cases hl
    refine ⟨v, ?_, OPs.ex (Ex.fr64 (Fr.up (by simp))) _ _ S⟩
    simp only [g157_0, g157_1, g157_4, g157_5, g157_6, g157_7, g157_8, g157_9, mx_isr_ref, mx_isr_null, mx_wt_nil, mx_wt_1, mx_wt_2, mx_wt_3, Option.bind_some, Option.toList_some, Option.toList_none, List.cons_append, List.nil_append, mx_nl_int, mx_nl_ref, mx_nl_null, mx_nl_none, mx_nb0, mx_nb1, mx_fb0, mx_fb1, mx_cat_int, mx_cat_ref, if_true, if_false, not_true_eq_false, not_false_eq_true, mx_wt_4, mx_w4_0, mx_w9_0, mx_w9_1, mx_kn_int, mx_kn_ref, mx_kn_null, Nat.reduceLT, ofn, n10, t64, a1]
    exact g1
theorem jq_patch (C : cSt h x x2 A3 A4 bt s) (hid : ∀ p ∈ s.1, p.1 < 2 ^ 20) (hvr : ∀ p ∈ s.1, p.2.1 + 1 < 2 ^ 20) (hnd : (ids s.1).Nodup) (hwf : ∀ p ∈ s.1, wfP p) (id ver : Int32) :
    ∃ (h' : mx_H) (x' : Nat), mx_G (d + 31) 156 0 [some (.ref 63), some (.int id), some (.int ver), none, none, none, none, none, none] [] h = some (some (.int (Int32.ofInt (s_patch (lx bt.length bt) (lx_good (lx bt.length bt)) s id.toInt ver.toInt).1)), h') ∧ cSt h' x' x2 A3 A4 [] (s_patch (lx bt.length bt) (lx_good (lx bt.length bt)) s id.toInt ver.toInt).2 ∧ mdl h h' ∧ mw h' ≤ mw h + 2700 * bt.length + 10000 := by
  obtain ⟨hA, x', C1, F1, hx', W1, t64, hpA, CL, R1, R2⟩ := jq_readAll (d := d) C
  obtain ⟨b128, b120⟩ := bufS_lt C.2.2.2.1
  have x70 : x = 70 ∨ 102 ≤ x := by obtain ⟨_, _, _, _, _, _, _, _, _, _, _, _, _, z⟩ := C.2.2.2.1; exact z
  have m1 : mdl h (mx_up hA 64 5 (.int 0)) := F1.mdl C.2.1 (fun a ha => by simp only [List.mem_cons, List.not_mem_nil, or_false] at ha; omega)
  have W1' : mw (mx_up hA 64 5 (.int 0)) ≤ mw h + 104 * bt.length + 3053 := by rw [mw_up]; exact W1
  have N := NB_lx bt.length bt
  have hgood : ∀ l, rOps (lx bt.length bt) 120 0 = some l → lx_good (lx bt.length bt) = true := fun l hl => gdA_good (gdA_Ops _ _ _ hl)
  have hTK := tkOK_lx b128 b120
  have hlen := lx_le bt.length bt
  have CLd := CL (d + 30)
  generalize hts : lx bt.length bt = ts at *
  generalize hh1 : mx_up hA 64 5 (.int 0) = h1 at *
  have vr' : ∀ p ∈ s.1, p.2.1 < 2 ^ 20 := fun p hp => by have := hvr p hp; omega
  obtain ⟨s1, s2, s3, s4, -⟩ := pS_f C.2.2.1
  obtain ⟨a1, a2, a3, a4, -⟩ := pS_f hpA
  obtain ⟨u1, u2, u3, u4, -⟩ := pS_f C1.2.2.1
  have eo : (if lx_good ts = true then rOps ts 120 0 else none : Option (List opr)) = rOps ts 120 0 := by
    cases ho : rOps ts 120 0 with
    | none => split <;> rfl
    | some l => rw [if_pos (hgood l ho)]
  unfold s_patch s_chk
  rw [eo]
  -- what was read
  obtain ⟨fv, rd, hfv⟩ : ∃ fv : Value, mx_G (d + 30) 157 0 [some (.ref 64), none, none, none, none] [] h = some (some fv, hA) ∧ mx_isr fv = true := by
    cases ho : rOps ts 120 0 with
    | none => exact ⟨_, R2 ho, rfl⟩
    | some l => obtain ⟨v, g, -⟩ := R1 l ho; exact ⟨_, g, rfl⟩
  rcases jq_place (d := d + 27) C1.2.2.1 C1.2.2.2.2.1 hid id with ⟨k, hk, g, e, -, -⟩ | ⟨e, g⟩
  · rw [e]
    have RF := jq_ref (d := d + 27) C1.2.2.1 C1.2.2.2.2.1 vr' hk ver
    simp only
    by_cases c : ver.toInt ≠ 0 ∧ ver.toInt ≠ ((pAt' s.1 k).2.1 : Int)
    · rw [if_pos c] at RF ⊢
      refine ⟨h1, x', ?_, C1, m1, by omega⟩
      simp only [g156_0, g156_1, g156_4, g156_7, g156_8, g156_9, g156_12, g156_15, g156_16, g156_17, g156_20, g156_22, g156_23, g156_25, g156_26, g156_29, g156_31, g156_33, g156_36, g156_38, mx_isr_ref, mx_isr_null, mx_wt_nil, mx_wt_1, mx_wt_2, mx_wt_3, Option.bind_some, Option.toList_some, Option.toList_none, List.cons_append, List.nil_append, mx_nl_int, mx_nl_ref, mx_nl_null, mx_nl_none, mx_nb0, mx_nb1, mx_fb0, mx_fb1, mx_cat_int, mx_cat_ref, if_true, if_false, not_true_eq_false, not_false_eq_true, mx_wt_4, mx_w4_0, mx_w9_0, mx_w9_1, mx_kn_int, mx_kn_ref, mx_kn_null, Nat.reduceLT, ofn, n10, s1, s2, s3, rd, hfv, a1, a2, a3, t64, CLd, u1, g, RF, nl_isr hfv, show ¬ (-412 : Int32) = 0 by decide]
      rfl
    · rw [if_neg c] at RF ⊢
      simp only
      have head : ∀ X, mx_G (d + 31) 156 39 [some (.ref 63), some (.int id), some (.int ver), some fv, some (.int (nI k)), some (.int 0), none, none, none] [] h1 = X → mx_G (d + 31) 156 0 [some (.ref 63), some (.int id), some (.int ver), none, none, none, none, none, none] [] h = X := by
        intro X hX
        simp only [g156_0, g156_1, g156_4, g156_7, g156_8, g156_9, g156_12, g156_15, g156_16, g156_17, g156_20, g156_22, g156_23, g156_25, g156_26, g156_29, g156_31, g156_33, mx_isr_ref, mx_isr_null, mx_wt_nil, mx_wt_1, mx_wt_2, mx_wt_3, Option.bind_some, Option.toList_some, Option.toList_none, List.cons_append, List.nil_append, mx_nl_int, mx_nl_ref, mx_nl_null, mx_nl_none, mx_nb0, mx_nb1, mx_fb0, mx_fb1, mx_cat_int, mx_cat_ref, if_true, if_false, not_true_eq_false, not_false_eq_true, mx_wt_4, mx_w4_0, mx_w9_0, mx_w9_1, mx_kn_int, mx_kn_ref, mx_kn_null, Nat.reduceLT, ofn, n10, s1, s2, s3, rd, hfv, a1, a2, a3, t64, CLd, u1, g, RF, nl_isr hfv]
        exact hX
      cases ho : rOps ts 120 0 with
      | none =>
        have := R2 ho
        rw [rd] at this
        cases this
        refine ⟨h1, x', head _ ?_, C1, m1, by omega⟩
        simp only [g156_39, g156_40, g156_40n, g156_40n, g156_43, g156_46, mx_isr_ref, mx_isr_null, mx_wt_nil, mx_wt_1, mx_wt_2, mx_wt_3, Option.bind_some, Option.toList_some, Option.toList_none, List.cons_append, List.nil_append, mx_nl_int, mx_nl_ref, mx_nl_null, mx_nl_none, mx_nb0, mx_nb1, mx_fb0, mx_fb1, mx_cat_int, mx_cat_ref, if_true, if_false, not_true_eq_false, not_false_eq_true, mx_wt_4, mx_w4_0, mx_w9_0, mx_w9_1, mx_kn_int, mx_kn_ref, mx_kn_null, Nat.reduceLT, ofn, n10]
        rfl
      | some l =>
        obtain ⟨v, g2, S⟩ := R1 l ho
        rw [rd] at g2
        cases g2
        have K := hTK (hgood l ho)
        have hcost := rOps_cost _ _ _ ho
        obtain ⟨r1, r2⟩ := cSt_R C1
        obtain ⟨cpL, es, L, hle, h8, P⟩ := C1.2.2.2.2.1
        obtain ⟨PQ, fq⟩ := P k hk
        have hq : okP (pAt' s.1 k) := ⟨hwf _ (pAt_mem hk), hid _ (pAt_mem hk), vr' _ (pAt_mem hk)⟩
        have G := jl_get (d := d + 28) L (show k < es.length by omega)
        obtain ⟨h3, ll, A, cp, es', k1, D3, F3, E3, w3⟩ := jo_copy (d := d + 22) C1.1 C1.2.1 r2 hq PQ fq
        have S3 := OPs.ex E3 _ _ S
        have fr0 : ∀ g : mx_H, FrN h1.length h1 g → Fr [] h1 g := fun g z => ⟨z.1, fun a ha _ => z.2 a ha⟩
        have LL := jo_opsL (d := d + 3) (id := id) (ver := ver) (pl := nI k) (rf := 0) (first := .ref v) K N l (.ref v) h3 A cp es' _ _ none D3 hq S3
        have body : ∀ X, mx_G (d + 31) 156 67 [some (.ref 63), some (.int id), some (.int ver), some (.ref v), some (.int (nI k)), some (.int 0), some (.ref h1.length), some (.ref v), none] [] h3 = X → mx_G (d + 31) 156 0 [some (.ref 63), some (.int id), some (.int ver), none, none, none, none, none, none] [] h = X := by
          intro X hX
          refine head _ ?_
          simp only [g156_39, g156_40, g156_40n, g156_43, g156_46, g156_47, g156_48, g156_51, g156_53, g156_56n, g156_56, g156_59, g156_62, g156_64, g156_65, mx_isr_ref, mx_isr_null, mx_wt_nil, mx_wt_1, mx_wt_2, mx_wt_3, Option.bind_some, Option.toList_some, Option.toList_none, List.cons_append, List.nil_append, mx_nl_int, mx_nl_ref, mx_nl_null, mx_nl_none, mx_nb0, mx_nb1, mx_fb0, mx_fb1, mx_cat_int, mx_cat_ref, if_true, if_false, not_true_eq_false, not_false_eq_true, mx_wt_4, mx_w4_0, mx_w9_0, mx_w9_1, mx_kn_int, mx_kn_ref, mx_kn_null, Nat.reduceLT, ofn, n10, u1, u2, u4, (AL_f L).1, G, PQ.tag, k1]
          exact hX
        have hcp := D3.2.1.2.2.2.1
        show ∃ h' x', _ = some (some (Value.int (Int32.ofInt (if (aOps ts l (pAt' s.1 k)).1 = 0 then s_set s (pAt' s.1 k) (aOps ts l (pAt' s.1 k)).2 else ((aOps ts l (pAt' s.1 k)).1, s)).1)), h') ∧ cSt h' x' x2 A3 A4 [] (if (aOps ts l (pAt' s.1 k)).1 = 0 then s_set s (pAt' s.1 k) (aOps ts l (pAt' s.1 k)).2 else ((aOps ts l (pAt' s.1 k)).1, s)).2 ∧ _
        rcases LL with ⟨i0, h4, i1, i2, i3⟩ | ⟨i0, iq, iid, h4, A', cp', es4, b4, l8, i1, D4, S4, w4⟩
        · rw [if_neg i0]
          have F4 := fr0 h4 (F3.trans i2)
          refine ⟨h4, x', body _ i1, cSt_new C1 F4, m1.trans (F4.mdl C1.2.1 (by simp)), by omega⟩
        · rw [if_pos i0]
          have F4 := fr0 h4 (F3.trans S4.1)
          have C4 := cSt_new C1 F4
          have hl1 := C1.2.1
          generalize hqq : (aOps ts l (pAt' s.1 k)).2 = q' at *
          have hpl := D4.pl
          have hD := D4.2.2.2.2.1
          have hne := fun e (he : e ∈ es4) => D4.ne he
          have sub : ∀ a ∈ h1.length :: x' :: mR x2 A3 A4, a ∈ dM h1.length ll A' es4 (x' :: mR x2 A3 A4) := by
            intro a ha
            rcases List.mem_cons.mp ha with z | z
            · rw [z]; exact dM_p
            · exact dM_R z
          have fzp : ∀ a, h1.length ≤ a → a ≠ h1.length → fz (h1.length :: x' :: mR x2 A3 A4) a := fun a h1' h2' => ⟨by omega, fun z => by
            rcases List.mem_cons.mp z with y | y
            · exact h2' y
            · have := (r2 a y).2; omega⟩
          have Q4 : PP (h1.length :: x' :: mR x2 A3 A4) h4 h1.length q' := by
            have I := D4.2.2.1.its
            rw [mrk_1] at I
            refine ⟨ll, D4.1.ex (Ex.sub h4 sub) rfl, A', cp', es4, D4.2.1, I.ex (Ex.sub h4 sub) (fun _ _ => rfl), fzp ll hD.2.2.1 (Ne.symm hpl.1), ?_, fun e he => fzp e (hne e he).2.2.2.2.2 (hne e he).1⟩
            rcases hD.2.2.2.1 with z | z
            · rw [z]
              exact ⟨by decide, fun y => by
                rcases List.mem_cons.mp y with w | w
                · omega
                · have := (r2 2 w).1; omega⟩
            · exact fzp A' z (Ne.symm hpl.2.1)
          have fpN : fz (x' :: mR x2 A3 A4) h1.length := ⟨by omega, fun z => by have := (r2 _ z).2; omega⟩
          have E14 : Ex (x' :: mR x2 A3 A4) h1 (h1.length :: x' :: mR x2 A3 A4) h4 := Ex.fresh F4 (fun a ha => by
            rcases List.mem_cons.mp ha with z | z
            · exact Or.inr (by omega)
            · exact Or.inl z)
          have P4 : plS (h1.length :: x' :: mR x2 A3 A4) h4 A3 s.1 := C1.2.2.2.2.1.ex E14 (F4.2 71 (by omega) (by simp)) (F4.2 A3 (ce_l L.2.1) (by simp))
          obtain ⟨h5, j1, j2, j3, j4⟩ := jq_settle (d := d + 22) C4 hid hvr hnd hk iid (by omega) fpN P4 Q4
          obtain ⟨v1, -⟩ := pS_f C4.2.2.1
          have hcp' := D4.2.1.2.2.2.1
          refine ⟨h5, x', body _ ?_, j2, (m1.trans (F4.mdl hl1 (by simp))).trans j3, by omega⟩
          rw [i1]
          simp only [g156_99, g156_100, g156_102, g156_104, g156_107, mx_isr_ref, mx_isr_null, mx_wt_nil, mx_wt_1, mx_wt_2, mx_wt_3, Option.bind_some, Option.toList_some, Option.toList_none, List.cons_append, List.nil_append, mx_nl_int, mx_nl_ref, mx_nl_null, mx_nl_none, mx_nb0, mx_nb1, mx_fb0, mx_fb1, mx_cat_int, mx_cat_ref, if_true, if_false, not_true_eq_false, not_false_eq_true, mx_wt_4, mx_w4_0, mx_w9_0, mx_w9_1, mx_kn_int, mx_kn_ref, mx_kn_null, Nat.reduceLT, ofn, n10, v1, Q4.tag, j1]
  · rw [e]
    refine ⟨h1, x', ?_, C1, m1, by omega⟩
    simp only [g156_0, g156_1, g156_4, g156_7, g156_8, g156_9, g156_12, g156_15, g156_16, g156_17, g156_20, g156_22, g156_23, g156_25, g156_26, g156_29, g156_31, g156_33, g156_36, g156_38, mx_isr_ref, mx_isr_null, mx_wt_nil, mx_wt_1, mx_wt_2, mx_wt_3, Option.bind_some, Option.toList_some, Option.toList_none, List.cons_append, List.nil_append, mx_nl_int, mx_nl_ref, mx_nl_null, mx_nl_none, mx_nb0, mx_nb1, mx_fb0, mx_fb1, mx_cat_int, mx_cat_ref, if_true, if_false, not_true_eq_false, not_false_eq_true, mx_wt_4, mx_w4_0, mx_w9_0, mx_w9_1, mx_kn_int, mx_kn_ref, mx_kn_null, Nat.reduceLT, ofn, n10, s1, s2, s3, rd, hfv, a1, a2, a3, t64, CLd, u1, g, jq_refN, nl_isr hfv, show ¬ (-404 : Int32) = 0 by decide]
    rfl
end
