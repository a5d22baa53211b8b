/-! takeObject. -/
section
variable {d : Nat} {h : mx_H} {x x2 A3 A4 : Nat} {bt : List Nat} {s : sto}
theorem jq_split (K : KK h) (hl : 102 ≤ h.length) (B : bufS h x bt) : ∃ h1 cp, mx_G (d + 8) 17 0 [some (.ref 64), none] [] h = some (none, h1) ∧ BT h1 x cp (lx bt.length bt) 0 ∧ Fr [64, 65, 66, 67, 68] h h1 ∧ mw h1 = mw h := by
  obtain ⟨ls, ks, ss, es, t, c, n, us, BB, hb, S, hn, hA, hx⟩ := B
  have hu := BB.2.2.2.2.2.2.2.2.2.1
  have hls := BB.2.2.2.2.2.1
  have hA' : ∀ k, k < bt.length → ls.getD k 0 = 10 ∨ 32 ≤ ls.getD k 0 := by
    intro k hk
    have : ls.getD k 0 = bt.getD k 0 := by
      rw [List.getD_eq_getElem?_getD, List.getD_eq_getElem?_getD, ← hb, List.getElem?_take, if_pos (by simpa using hk)]
    rw [this]
    have hm : bt.getD k 0 ∈ bt := by rw [List.getD_eq_getElem?_getD, List.getElem?_eq_getElem hk]; exact List.getElem_mem hk
    rcases hA _ hm with z | z
    · exact Or.inl z
    · exact Or.inr z.1
  obtain ⟨h1, ls', ks', ss', es', a1, a2, a3, a4, a5, a6, a7⟩ := jc_split (d := d) K.1 BB hA'
  rw [hb] at a2 a3 a4 a5
  have hxn := SB_BF BB S
  have hb128 : ∀ y ∈ bt, y < 128 := fun y hy => by rcases hA y hy with z | z <;> omega
  refine ⟨h1, us.length, a1, ⟨ls', bt.length, ks', ss', es', n, us, a2, a3, a4, a5, Nat.zero_le _, SB_fr S a6 (by simp) (by simp; omega), rfl, hx, fun i => ?_, K.1.fr a6 (by simp), Nat.le_trans hl a6.1, hn⟩, a6, a7⟩
  by_cases hi : i < (lx bt.length bt).length
  · exact ⟨(lx_kinds _ _ hb128 _ (tA_mem hi)).1, fun z => lx_okN _ _ _ (tA_mem hi) z⟩
  · rw [tA_big (by omega)]
    exact ⟨by decide, fun z => (by cases z)⟩
theorem jt_clearB {cp c : Nat} {ts : List tk} (T : BT h x cp ts c) : mx_G d 118 0 [some (.ref 64)] [] h = some (none, mx_up h 64 5 (.int 0)) ∧ bufS (mx_up h 64 5 (.int 0)) x [] := by
  obtain ⟨h', a1, a2, a3, a4⟩ := jt_clear (d := d) T
  subst a4
  refine ⟨a1, ?_⟩
  obtain ⟨ls, u, ks, ss, es, n, us, B, R, k0, l1, l2, S, cu, hx, hk, K, hl, hn⟩ := T
  have hxn := SB_BF B S
  obtain ⟨b4, b5, b6, b7, b8, l5, l6, l7, l8, hu, ha⟩ := B
  refine ⟨ls, ks, ss, es, ts.length, c, n, us, ⟨by rw [c_up b4]; rfl, by rw [c_upn (by decide)]; exact b5, by rw [c_upn (by decide)]; exact b6, by rw [c_upn (by decide)]; exact b7, by rw [c_upn (by decide)]; exact b8, l5, l6, l7, l8, Nat.zero_le _, ha⟩, rfl, SB_fr S (F := [64]) (Fr.up (by simp)) (by simp) (by simp; omega), hn, fun b hb => (by cases hb), hx⟩
/-- the mark is at the end just behind the last token -/
theorem tI_end {l : List Nat} (hl : ∀ y ∈ l, y < 128) {n e : Nat} (he : e ≤ (lx n l).length) : tI (lx n l) e 0 = true ↔ e = (lx n l).length := by
  constructor
  · intro z
    by_cases hlt : e < (lx n l).length
    · have := (lx_kinds _ _ hl _ (tA_mem hlt)).2
      rw [tI_eq] at z
      exact absurd z this
    · omega
  · intro z
    rw [tI_eq, tA_big (by omega)]
theorem bufS_lt (B : bufS h x bt) : (∀ y ∈ bt, y < 128) ∧ bt.length ≤ 120 := by
  obtain ⟨ls, ks, ss, es, t, c, n, us, BB, hb, S, hn, hA, hx⟩ := B
  exact ⟨fun y hy => by rcases hA y hy with z | z <;> omega, BB.2.2.2.2.2.2.2.2.2.1⟩
theorem Wt_end (bt : List Nat) (n e : Nat) : Wt (lx n bt) e ≤ 104 * bt.length := by
  have h1 : Wt (lx n bt) e ≤ Wt (lx n bt) (max e (lx n bt).length) := Wt_mono (by omega)
  have h2 : Wt (lx n bt) (max e (lx n bt).length) = ((lx n bt).map fun q => 100 + 4 * q.2.length).sum := by
    unfold Wt
    rw [List.take_of_length_le (by omega)]
  have := lx_W n bt
  omega
/-- what the reading leaves -/
theorem jq_take (C : cSt h x x2 A3 A4 bt s) : ∃ (h' : mx_H) (x' : Nat), cSt h' x' x2 A3 A4 [] s ∧ Fr [64, 65, 66, 67, 68, 69, x] h h' ∧ (x' = x ∨ h.length ≤ x') ∧ mw h' ≤ mw h + 104 * bt.length + 3000 ∧
    ((lx_good (lx bt.length bt) && oB (lx bt.length bt)) = true → ∃ v : Nat, mx_G (d + 20) 16 0 [some (.ref 63), none, none] [] h = some (some (.ref v), h') ∧ cVl (lx bt.length bt) 3 (x' :: mR x2 A3 A4) h' v 0) ∧
    ((lx_good (lx bt.length bt) && oB (lx bt.length bt)) = false → mx_G (d + 20) 16 0 [some (.ref 63), none, none] [] h = some (some .null, h')) := by
  obtain ⟨r1, r2⟩ := cSt_R C
  have C0 := C
  obtain ⟨K, hl, hp, hb, hpl, hf, hg, hw, hm⟩ := C
  obtain ⟨b128, b120⟩ := bufS_lt hb
  obtain ⟨h1, cp, a1, T1, F1, W1⟩ := jq_split (d := d + 11) K hl hb
  have t64 : mx_tag h 64 = some (.inl 1) := by
    obtain ⟨ls, ks, ss, es, t, c, n, us, BB, -⟩ := hb
    exact ce_t BB.1
  have l1 := F1.1
  generalize hts : lx bt.length bt = ts at *
  obtain ⟨rd1, rd2⟩ := rd_3 (d := d) (ts := ts) h1 x cp 0 (mR x2 A3 A4) T1 (r1.le l1)
  rw [show nI (3 - 3) = 0 from rfl] at rd1 rd2
  obtain ⟨s1, s2, s3, -⟩ := pS_f hp
  have hp1 : pS h1 s := F1.at hp (by simp)
  obtain ⟨u1, u2, u3, -⟩ := pS_f hp1
  have hWt : ∀ e, Wt ts e ≤ 104 * bt.length := fun e => by rw [← hts]; exact Wt_end _ _ _
  have hW0 : Wt ts 0 = 0 := rfl
  -- the end, whatever was read
  have fin : ∀ (h2 : mx_H) (x' cp' e k : Nat), BT h2 x' cp' ts e → PX ts h1 x cp 0 h2 x' cp' e k → cSt (mx_up h2 64 5 (.int 0)) x' x2 A3 A4 [] s ∧ Fr [64, 65, 66, 67, 68, 69, x] h (mx_up h2 64 5 (.int 0)) ∧ (x' = x ∨ h.length ≤ x') ∧ mw (mx_up h2 64 5 (.int 0)) ≤ mw h + 104 * bt.length + 3000 ∧ Ex (x' :: mR x2 A3 A4) h2 (x' :: mR x2 A3 A4) (mx_up h2 64 5 (.int 0)) ∧ pS h2 s ∧ mx_tag h2 64 = some (.inl 1) := by
    intro h2 x' cp' e k T2 P2
    obtain ⟨-, B2⟩ := jt_clearB (d := 0) T2
    have FF : Fr [64, 65, 66, 67, 68, 69, x] h (mx_up h2 64 5 (.int 0)) := ((F1.mono (F' := [64, 65, 66, 67, 68, 69, x]) (fun a ha => by simp only [List.mem_cons, List.not_mem_nil, or_false] at ha ⊢; omega)).trans P2.1 (fun a ha => Or.inl (by simp only [List.mem_cons, List.not_mem_nil, or_false] at ha ⊢; omega))).trans (Fr.up (F := [64]) (by simp)) (fun a ha => Or.inl (by simp only [List.mem_cons, List.not_mem_nil, or_false] at ha ⊢; omega))
    have hx' : x' = x ∨ h.length ≤ x' := P2.2.1.elim Or.inl (fun z => Or.inr (by omega))
    refine ⟨cSt_read C0 FF hx' B2, FF, hx', ?_, ?_, P2.1.at hp1 (by have := T1.xlt.2.2.1; simp; omega), T2.kind.1⟩
    · rw [mw_up]
      have := P2.2.2.2
      have := hWt e
      have := T2.xlt.2.2.2.2.2.2
      omega
    · exact (Fr.up (F := [64]) (by simp)).ex (fun a ha z => by rw [List.mem_singleton] at ha; rw [ha] at z; exact z.1 (by omega)) (fun a ha => Or.inl ha)
  cases hv : pV ts 3 0 with
  | none =>
    obtain ⟨h2, x', cp', c', g1, T2, P2⟩ := rd2 hv
    obtain ⟨c1, c2, c3, c4, c5, c6, c7⟩ := fin h2 x' cp' c' 0 T2 P2
    obtain ⟨v1, v2, v3, -⟩ := pS_f c6
    have A := jt_isAt (d := d + 19) T2 (k := 0) (by decide)
    rw [nI_0] at A
    have CL := (jt_clearB (d := d + 19) T2).1
    refine ⟨_, x', c1, c2, c3, c4, fun z => ?_, fun _ => ?_⟩
    · have : oB ts = false := by unfold oB; rw [hv]; simp
      rw [this, Bool.and_false] at z
      cases z
    · simp only [g16_0, g16_1, g16_4, g16_7, g16_8, g16_11, g16_12, g16_15, g16_16, g16_17, g16_20, g16_21, g16_24, g16_25, g16_26, g16_29, g16_32, g16_33, g16_33n, g16_36, g16_37, g16_40, g16_41, g16_44, g16_45, g16_48, g16_49, g16_52, g16_53, mx_isr_ref, mx_isr_null, mx_wt_nil, mx_wt_1, mx_wt_2, mx_wt_3, Option.bind_some, Option.toList_some, Option.toList_none, List.cons_append, List.nil_append, mx_nl_int, mx_nl_ref, mx_nl_null, mx_nl_none, mx_nb0, mx_nb1, mx_fb0, mx_fb1, mx_cat_int, mx_cat_ref, if_true, if_false, not_true_eq_false, not_false_eq_true, mx_wt_4, mx_w4_0, mx_w9_0, mx_w9_1, mx_kn_int, mx_kn_ref, mx_kn_null, Nat.reduceLT, ofn, n10, s1, s2, s3, t64, a1, u1, u2, u3, g1, v1, v2, v3, c7, A, CL]
  | some e =>
    obtain ⟨h2, x', cp', v, g1, T2, V, hv2, P2⟩ := rd1 e hv
    obtain ⟨c1, c2, c3, c4, c5, c6, c7⟩ := fin h2 x' cp' e 50 T2 P2
    obtain ⟨v1, v2, v3, -⟩ := pS_f c6
    have A := jt_isAt (d := d + 19) T2 (k := 0) (by decide)
    rw [nI_0] at A
    have CL := (jt_clearB (d := d + 19) T2).1
    have he : e ≤ ts.length := T2.kind.2.2.2.2.2.2.2.2.2.2.2
    have hend : tI ts e 0 = true ↔ e = ts.length := by rw [← hts] at he ⊢; exact tI_end b128 he
    have V' := cVl.ex c5 _ _ _ V
    obtain ⟨num, VC1, hk5⟩ := cVl_vc V'
    obtain ⟨s0, b0, f0, tv_, lv, w0, w1, w2, w3, hf0, S0⟩ := VC_f VC1
    by_cases hok : e = ts.length ∧ tI ts 0 123 = true
    · have hoB : oB ts = true := by unfold oB; rw [hok.2, hv, hok.1]; simp
      have hgood : lx_good ts = true := gdA_good (by
        have := gdA_E _ _ _ (pV_pE 3 0 e (by decide) hv)
        rw [hok.1] at this
        exact this)
      rw [if_pos (hend.mpr hok.1)] at A
      have hvk : vkd ts 0 = 3 := by unfold vkd; rw [if_pos hok.2]
      rw [hvk, show nI 3 = 3 from rfl] at w0
      refine ⟨_, x', c1, c2, c3, c4, fun _ => ⟨v, ?_, V'⟩, fun z => by rw [hgood, hoB] at z; cases z⟩
      simp only [g16_0, g16_1, g16_4, g16_7, g16_8, g16_11, g16_12, g16_15, g16_16, g16_17, g16_20, g16_21, g16_24, g16_25, g16_26, g16_29, g16_32, g16_33, g16_33n, g16_36, g16_37, g16_40, g16_41, g16_44, g16_45, g16_48, g16_49, g16_52, g16_53, mx_isr_ref, mx_isr_null, mx_wt_nil, mx_wt_1, mx_wt_2, mx_wt_3, Option.bind_some, Option.toList_some, Option.toList_none, List.cons_append, List.nil_append, mx_nl_int, mx_nl_ref, mx_nl_null, mx_nl_none, mx_nb0, mx_nb1, mx_fb0, mx_fb1, mx_cat_int, mx_cat_ref, if_true, if_false, not_true_eq_false, not_false_eq_true, mx_wt_4, mx_w4_0, mx_w9_0, mx_w9_1, mx_kn_int, mx_kn_ref, mx_kn_null, Nat.reduceLT, ofn, n10, s1, s2, s3, t64, a1, u1, u2, u3, g1, v1, v2, v3, c7, A, CL, tv_, lv, w0]
    · refine ⟨_, x', c1, c2, c3, c4, fun z => ?_, fun _ => ?_⟩
      · exfalso
        apply hok
        rw [Bool.and_eq_true] at z
        have := z.2
        unfold oB at this
        rw [Bool.and_eq_true, hv, beq_iff_eq] at this
        exact ⟨Option.some.inj this.2, this.1⟩
      · by_cases he2 : e = ts.length
        · rw [if_pos (hend.mpr he2)] at A
          have h123 : ¬ tI ts 0 123 = true := fun z => hok ⟨he2, z⟩
          have hvk : ¬ vkd ts 0 = 3 := by
            unfold vkd
            rw [if_neg h123]
            split
            · decide
            · unfold pk
              split
              · show ¬ 1 = 3; decide
              · split
                · show ¬ 2 = 3; decide
                · show ¬ 0 = 3; decide
          have q : ¬ nI (vkd ts 0) = 3 := fun z => hvk ((nI_eq (b := 3) (by omega) (by decide)).mp z)
          simp only [g16_0, g16_1, g16_4, g16_7, g16_8, g16_11, g16_12, g16_15, g16_16, g16_17, g16_20, g16_21, g16_24, g16_25, g16_26, g16_29, g16_32, g16_33, g16_33n, g16_36, g16_37, g16_40, g16_41, g16_44, g16_45, g16_48, g16_49, g16_52, g16_53, mx_isr_ref, mx_isr_null, mx_wt_nil, mx_wt_1, mx_wt_2, mx_wt_3, Option.bind_some, Option.toList_some, Option.toList_none, List.cons_append, List.nil_append, mx_nl_int, mx_nl_ref, mx_nl_null, mx_nl_none, mx_nb0, mx_nb1, mx_fb0, mx_fb1, mx_cat_int, mx_cat_ref, if_true, if_false, not_true_eq_false, not_false_eq_true, mx_wt_4, mx_w4_0, mx_w9_0, mx_w9_1, mx_kn_int, mx_kn_ref, mx_kn_null, Nat.reduceLT, ofn, n10, s1, s2, s3, t64, a1, u1, u2, u3, g1, v1, v2, v3, c7, A, CL, tv_, lv, w0, q]
        · rw [if_neg (fun z => he2 (hend.mp z))] at A
          simp only [g16_0, g16_1, g16_4, g16_7, g16_8, g16_11, g16_12, g16_15, g16_16, g16_17, g16_20, g16_21, g16_24, g16_25, g16_26, g16_29, g16_32, g16_33, g16_33n, g16_36, g16_37, g16_40, g16_41, g16_44, g16_45, g16_48, g16_49, g16_52, g16_53, mx_isr_ref, mx_isr_null, mx_wt_nil, mx_wt_1, mx_wt_2, mx_wt_3, Option.bind_some, Option.toList_some, Option.toList_none, List.cons_append, List.nil_append, mx_nl_int, mx_nl_ref, mx_nl_null, mx_nl_none, mx_nb0, mx_nb1, mx_fb0, mx_fb1, mx_cat_int, mx_cat_ref, if_true, if_false, not_true_eq_false, not_false_eq_true, mx_wt_4, mx_w4_0, mx_w9_0, mx_w9_1, mx_kn_int, mx_kn_ref, mx_kn_null, Nat.reduceLT, ofn, n10, s1, s2, s3, t64, a1, u1, u2, u3, g1, v1, v2, v3, c7, A, CL]
end
