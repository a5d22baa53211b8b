/-! Filter.readComparison. -/
def aW (way : Nat) : Int32 := if way = 0 then -1 else nI (atW way)
def cw (ts : List tk) (c : Nat) : Nat := if (tA ts c).1 = 1 then c + 1 else c
/-- a filter that is made, with nothing behind it -/
def Pn (K : Nat) (w : Bool) (M : List Nat) (h : mx_H) (f : Nat) (g : prs → Option Nat → Bool) : Prop := ∃ cs, h[f]? = some (.inl 10, cs ++ [.null]) ∧ cs.length = 5 ∧ Mt K w (f :: M) h f cs g
theorem ex_new {M : List Nat} {h h' : mx_H} (F : Fr [] h h') {n : Nat} (hn : h.length ≤ n) : Ex M h (n :: M) h' :=
  ⟨F.1, fun a ha hz => ⟨F.2 a ha (by simp), hz.1, fun z => (List.mem_cons.mp z).elim (fun y => by omega) hz.2⟩⟩
theorem aW_f {way : Nat} (h1 : 1 ≤ way) (h7 : way ≤ 7) : aW way = nI (atW way) ∧ ¬ aW way = -1 ∧ atW way < 8 ∧ kdA (atW way) = kS (tyO way) ∧ (nI (atW way) = 2 ↔ way = 3) ∧ (tyO way = 1 ∨ tyO way = 2 ∨ tyO way = 3) := by
  have : way = 1 ∨ way = 2 ∨ way = 3 ∨ way = 4 ∨ way = 5 ∨ way = 6 ∨ way = 7 := by omega
  rcases this with rfl | rfl | rfl | rfl | rfl | rfl | rfl <;> decide
theorem sc_le (ts : List tk) (t : Nat) : sc ts t ≤ 3 := by
  unfold sc
  split
  · decide
  · split
    · decide
    · split <;> decide
theorem pk_kS {ts : List tk} {t : Nat} (h : 0 < sc ts t) : (pk ts t).1 = kS (sc ts t) := by
  have := sc_le ts t
  obtain ⟨k1, k2, k3⟩ := pk_ty (ts := ts) (t := t)
  have z : sc ts t = 1 ∨ sc ts t = 2 ∨ sc ts t = 3 := by omega
  rcases z with z | z | z
  · rw [k1 z, z]; rfl
  · rw [k2 z, z]; rfl
  · rw [k3 z, z]; rfl
theorem kS_eq {a b : Nat} (ha : a = 1 ∨ a = 2 ∨ a = 3) (hb : b = 1 ∨ b = 2 ∨ b = 3) : nI (kS a) = nI (kS b) ↔ a = b := by
  rcases ha with rfl | rfl | rfl <;> rcases hb with rfl | rfl | rfl <;> decide
theorem nb_pk {ts : List tk} (N : NB ts) {t : Nat} (h : 0 < sc ts t) : nb (pk ts t).2.1 := by
  have := sc_le ts t
  obtain ⟨k1, k2, k3⟩ := pk_ty (ts := ts) (t := t)
  have z : sc ts t = 1 ∨ sc ts t = 2 ∨ sc ts t = 3 := by omega
  rcases z with z | z | z
  · rw [k1 z]; exact N t z
  · rw [k2 z]; exact ⟨(by decide : (-1000000000 : Int) < 0), (by decide : (0 : Int) < 1000000000)⟩
  · rw [k3 z]; cases tb ts t <;> exact ⟨by decide, by decide⟩
section
variable {d : Nat} {h : mx_H} {x cp c : Nat} {ts : List tk} {R : List Nat}
theorem sB_fr {F : List Nat} {h h' : mx_H} {s b : Nat} {cs : List Nat} (S : sB h s b cs) (f : Fr F h h') (hs : s ∉ F) (hb : b ∉ F) : sB h' s b cs := by
  obtain ⟨⟨v2, v3, e1⟩, e2, e3⟩ := S
  exact ⟨⟨v2, v3, f.at e1 hs⟩, f.at e2 hb, e3⟩
theorem jt_anyW (T : BT h x cp ts c) : ∃ (h1 : mx_H) (x1 cp1 s b : Nat), mx_G (d + 9) 162 0 [some (.ref 64), none] [] h = some (some (.ref s), h1) ∧ BT h1 x1 cp1 ts (cw ts c) ∧ sB h1 s b (opw ts c) ∧ PX ts h x cp c h1 x1 cp1 (cw ts c) (if (tA ts c).1 = 1 then 72 else 0) := by
  obtain ⟨a1, a2⟩ := jt_any (d := d) T
  unfold cw opw
  by_cases e : (tA ts c).1 = 1
  · obtain ⟨h', x', cp', s, b, b1, b2, b3, b4, b5, b6, b7⟩ := a2 e
    rw [if_pos e, if_pos e, if_pos e]
    have hlt : c < ts.length := tI_ltN (k := 1) (by decide) (by simp [tI, e])
    refine ⟨h', x', cp', s, b, b1, b2, b3, b7.1, b7.2.1, Nat.le_succ c, ?_⟩
    have := b7.2.2.2
    rw [Wt_succ hlt]
    omega
  · rw [if_neg e, if_neg e, if_neg e]
    exact ⟨h, x, cp, 11, 12, a1 e, T, T.xlt.2.2.2.2.1 2 (by decide), PX.rfl _ _ _ _ _⟩
theorem opw_k {ts : List tk} {c : Nat} (h : opw ts c ≠ []) : (tA ts c).1 = 1 := by
  unfold opw at h
  by_cases e : (tA ts c).1 = 1
  · exact e
  · rw [if_neg e] at h; exact absurd rfl h
theorem opsL_ne {k : Nat} (hk : k < 10) : opsL.getD k [] ≠ [] := by
  have : k = 0 ∨ k = 1 ∨ k = 2 ∨ k = 3 ∨ k = 4 ∨ k = 5 ∨ k = 6 ∨ k = 7 ∨ k = 8 ∨ k = 9 := by omega
  rcases this with rfl | rfl | rfl | rfl | rfl | rfl | rfl | rfl | rfl | rfl <;> decide
theorem vld_in {op : List Nat} {ty : Nat} (h : vld op ty = true) : ∃ k, k < 10 ∧ opsL.getD k [] = op := by
  unfold vld at h
  rw [decide_eq_true_eq] at h
  rcases h with z | z | ⟨z | z | z | z, -⟩ | ⟨z | z | z, -⟩
  · exact ⟨1, by decide, z.symm⟩
  · exact ⟨2, by decide, z.symm⟩
  · exact ⟨6, by decide, z.symm⟩
  · exact ⟨7, by decide, z.symm⟩
  · exact ⟨8, by decide, z.symm⟩
  · exact ⟨9, by decide, z.symm⟩
  · exact ⟨3, by decide, z.symm⟩
  · exact ⟨4, by decide, z.symm⟩
  · exact ⟨5, by decide, z.symm⟩
/-- what a comparison must be -/
def okC (ts : List tk) (way c : Nat) : Prop := way ≠ 0 ∧ (opw ts c = w_pr ∨ (vld (opw ts c) (tyO way) = true ∧ sc ts (c + 1) = tyO way))
def nxC (ts : List tk) (c : Nat) : Nat := if opw ts c = w_pr then c + 1 else c + 2
theorem jg_cmp (T : BT h x cp ts c) (r : RB R h) (K : KK h) (N : NB ts) {way : Nat} (h7 : way ≤ 7) {w : Bool} (hw : w = true → way = 0 ∨ 6 ≤ way) :
    (okC ts way c → ∃ (h' : mx_H) (x' cp' f : Nat), mx_G (d + 10) 168 0 [some (.ref 64), some (.int (aW way)), none, none, none, none, none] [] h = some (some (.ref f), h') ∧ BT h' x' cp' ts (nxC ts c) ∧ Pn 7 w (x' :: R) h' f (fun p i => hd ts p i (0, way, opw ts c, c + 1)) ∧ h.length ≤ f ∧ PX ts h x cp c h' x' cp' (nxC ts c) 20) ∧
    (¬ okC ts way c → ∃ (h' : mx_H) (x' cp' c' : Nat), mx_G (d + 10) 168 0 [some (.ref 64), some (.int (aW way)), none, none, none, none, none] [] h = some (some .null, h') ∧ BT h' x' cp' ts c' ∧ PX ts h x cp c h' x' cp' c' 0) := by
  have f1 := T.kind.1
  obtain ⟨xl1, xl2, xl3, xl4, -, -⟩ := T.xlt
  obtain ⟨h1, x1, cp1, s, b, a1, T1, S1, P1⟩ := jt_anyW (d := d) T
  have K1 : KK h1 := K.fr P1.1 (by intro a ha; simp at ha; omega)
  have l1 := P1.1.1
  rcases jg_op (d := d + 7) K1.1 S1 with ⟨k, hk, ek, gk⟩ | ⟨nk, gk⟩
  · by_cases w0 : way = 0
    · have ea : aW way = -1 := by rw [w0]; rfl
      refine ⟨fun z => absurd w0 z.1, fun _ => ⟨h1, x1, cp1, _, ?_, T1, P1.mono (Nat.zero_le _)⟩⟩
      simp only [g168_0, g168_1, g168_4, g168_7, g168_8, g168_9, g168_10, g168_13, g168_14, g168_15, g168_18, g168_19, mx_isr_ref, mx_isr_null, mx_wt_nil, mx_wt_1, mx_wt_2, mx_wt_3, Option.bind_some, Option.toList_some, Option.toList_none, List.cons_append, List.nil_append, mx_nl_int, mx_nl_ref, mx_nl_null, mx_nl_none, mx_nb0, mx_nb1, mx_fb0, mx_fb1, mx_cat_int, mx_cat_ref, if_true, if_false, not_true_eq_false, not_false_eq_true, mx_wt_4, mx_w4_0, mx_w9_0, mx_w9_1, mx_kn_int, mx_kn_ref, mx_kn_null, Nat.reduceLT, ofn, n10, f1, a1, gk, ea]
    · obtain ⟨e1, e2, e3, e4, e5, e6⟩ := aW_f (Nat.one_le_iff_ne_zero.mpr w0) h7
      have hk1 : (tA ts c).1 = 1 := opw_k (by rw [← ek]; exact opsL_ne hk)
      have ecw : cw ts c = c + 1 := if_pos hk1
      rw [ecw] at T1 P1
      rw [if_pos hk1] at P1
      have r1 : RB R h1 := r.le l1
      obtain ⟨xm1, xm2, xm3, xm4, -, -⟩ := T1.xlt
      have nk1 : ¬ nI k = -1 := by
        have : k = 0 ∨ k = 1 ∨ k = 2 ∨ k = 3 ∨ k = 4 ∨ k = 5 ∨ k = 6 ∨ k = 7 ∨ k = 8 ∨ k = 9 := by omega
        rcases this with rfl | rfl | rfl | rfl | rfl | rfl | rfl | rfl | rfl | rfl <;> decide
      have hw6 : w = true → 6 ≤ way := fun z => (hw z).resolve_left w0
      by_cases k0 : k = 0
      · have eo : opw ts c = w_pr := by rw [← ek, k0]; rfl
        have q0 : nI k = 0 := by rw [k0]; rfl
        refine ⟨fun _ => ?_, fun z => absurd ⟨w0, Or.inl eo⟩ z⟩
        obtain ⟨h2, m1, m2, m3, m4, m5⟩ := jg_mk (d := d + 8) (h := h1) (by omega) 4 (aW way) 0 (v := .null) rfl
        have tt : mx_tag (h1 ++ [((.inl 10 : Nat ⊕ FieldType), [Value.int 0, .int 0, .int 0, .null, .null, .null])]) h1.length = some (.inl 10) := by rw [mx_tag_app, if_pos rfl]
        have en : nxC ts c = c + 1 := if_pos eo
        rw [en]
        refine ⟨h2, x1, cp1, h1.length, ?_, T1.fr m3 (by simp), ?_, l1, (P1.al (n := 18) m3 (by simp) (by omega) (by omega)).mono (by omega)⟩
        · simp only [g168_0, g168_1, g168_4, g168_7, g168_8, g168_9, g168_10, g168_13, g168_14, g168_15, g168_18, g168_19, g168_20, g168_21, g168_24, g168_27, g168_28, g168_29, g168_30, g168_31, g168_32, g168_35, mx_isr_ref, mx_isr_null, mx_wt_nil, mx_wt_1, mx_wt_2, mx_wt_3, Option.bind_some, Option.toList_some, Option.toList_none, List.cons_append, List.nil_append, mx_nl_int, mx_nl_ref, mx_nl_null, mx_nl_none, mx_nb0, mx_nb1, mx_fb0, mx_fb1, mx_cat_int, mx_cat_ref, if_true, if_false, not_true_eq_false, not_false_eq_true, mx_wt_4, mx_w4_0, mx_w9_0, mx_w9_1, mx_kn_int, mx_kn_ref, mx_kn_null, Nat.reduceLT, ofn, n10, f1, a1, gk, e2, nk1, q0, tt, m1, show ¬ (0 : Int32) = -1 by decide]
        · refine ⟨[.int 4, .int (nI (atW way)), .int (nI 0), .null, .null], by rw [m2, e1]; rfl, rfl, ?_⟩
          refine Mt_leaf (c := 0) ?_ (by decide) (by rw [eo]; rfl) ⟨by omega, h7, Or.inl eo⟩ hw6
          rw [fvO_none.mpr eo]
          rfl
      · have k1 : 1 ≤ k := by omega
        have q0 : ¬ nI k = 0 := fun z => k0 ((nI_eq (b := 0) (by omega) (by decide)).mp z)
        have eo : opw ts c ≠ w_pr := fun z => k0 ((opc hk).mpr (ek.trans z))
        have en : nxC ts c = c + 2 := if_neg eo
        rw [en]
        have kd1 := ja_kind (d := d + 9) K1 e3
        rw [e4, ← e1] at kd1
        have st := jg_st (d := d + 9) (h := h1) hk k1 e6
        obtain ⟨p1, p2⟩ := jv_plain (d := d) T1 r1
        have g1 := T1.kind.1
        rcases Nat.eq_zero_or_pos (sc ts (c + 1)) with s0 | s0
        · obtain ⟨h2, b1, b2, b3⟩ := p2 s0
          refine ⟨fun z => ?_, fun _ => ⟨h2, x1, cp1, _, ?_, b2, (P1.trans b3).mono (Nat.zero_le _)⟩⟩
          · have := (z.2.resolve_left eo).2; omega
          · simp only [g168_0, g168_1, g168_4, g168_7, g168_8, g168_9, g168_10, g168_13, g168_14, g168_15, g168_18, g168_19, g168_20, g168_21, g168_24, g168_27, g168_28, g168_29, g168_30, g168_31, g168_32, g168_35, g168_36, g168_37, g168_40, g168_41, g168_42, g168_45, g168_47, g168_49, g168_49n, g168_69, g168_70, g168_49n, mx_isr_ref, mx_isr_null, mx_wt_nil, mx_wt_1, mx_wt_2, mx_wt_3, Option.bind_some, Option.toList_some, Option.toList_none, List.cons_append, List.nil_append, mx_nl_int, mx_nl_ref, mx_nl_null, mx_nl_none, mx_nb0, mx_nb1, mx_fb0, mx_fb1, mx_cat_int, mx_cat_ref, if_true, if_false, not_true_eq_false, not_false_eq_true, mx_wt_4, mx_w4_0, mx_w9_0, mx_w9_1, mx_kn_int, mx_kn_ref, mx_kn_null, Nat.reduceLT, ofn, n10, f1, a1, gk, e2, nk1, q0, kd1, b1]
        · have hsc : sc ts (c + 1) = 1 ∨ sc ts (c + 1) = 2 ∨ sc ts (c + 1) = 3 := by have := sc_le ts (c + 1); omega
          by_cases good : sc ts (c + 1) = tyO way ∧ vld (opw ts c) (tyO way) = true
          · refine ⟨fun _ => ?_, fun z => absurd ⟨w0, Or.inr ⟨good.2, good.1⟩⟩ z⟩
            by_cases w3 : way = 3
            · -- a name
              have sc2 : sc ts (c + 1) = 2 := by rw [good.1, w3]; rfl
              obtain ⟨h2, x2, cp2, v, b1, b2, b3, b4, b5, b6⟩ := jv_plainT (d := d) T1 r1 sc2
              have ep := pk_ty.2.1 sc2
              obtain ⟨s2, y1, y2, sb, y3, y4, y5⟩ := b3
              rw [ep] at y1 y5
              have tv := ce_t y1
              have lv : mx_ln h2 v = 4 := by rw [ce_n y1]; rfl
              have v0 : mx_el h2 v 0 = .int (nI (kS (tyO way))) := by rw [ce_e y1, w3]; rfl
              have v2 : mx_el h2 v 2 = .ref s2 := by rw [ce_e y1]; rfl
              have l2 := b6.1.1
              have ck : aW way = 2 := by rw [w3]; rfl
              have st := jg_st (d := d + 9) (h := h2) hk k1 e6
              rw [ek, if_pos good.2] at st
              generalize hh : h2 ++ [((.inl 4 : Nat ⊕ FieldType), [Value.int 0, .int 0, .null, .null])] = g
              have e : g[h2.length]? = some (.inl 4, [.int 0, .int 0, .null, .null]) := by rw [← hh, c_app]
              have Fg : Fr [] h2 g := by rw [← hh]; exact Fr.app _ _ _
              have gl : g.length = h2.length + 1 := by rw [← hh]; simp
              have gw : mw g = mw h2 + 16 := by rw [← hh, mw_app]; rfl
              have Tg := b2.fr Fg (by simp)
              have Sg : sB g s2 sb (tx ts (c + 1)) := sB_fr y5 Fg (by simp) (by simp)
              obtain ⟨h3, s3, b3, z1, z2, z3, z4, z5, z6⟩ := jf_foldAll (d := d + 4) Tg.xlt.2.2.2.2.1 (by omega) Sg
              have l3 := z5.1
              have e3' : h3[h2.length]? = some (.inl 4, [.int 0, .int 0, .null, .null]) := z5.at e (by simp)
              obtain ⟨n1, n2, n3⟩ := jv_new h2.length (by omega) e3' (.int 2) (.int 0) (.ref s3) .null
              have J := jv_117 (d := d + 8) (h := h3) (v := h2.length) (by omega) (ce_t e3') s3
              generalize hu : mx_up (mx_up (mx_up (mx_up h3 h2.length 0 (.int 2)) h2.length 1 (.int 0)) h2.length 2 (.ref s3)) h2.length 3 .null = h4 at n1 n2 n3 J
              have F4 : Fr [] h2 h4 := (Fg.trans z5 (fun a ha => by simp at ha)).trans n2 (fun a ha => by rw [List.mem_singleton] at ha; exact Or.inr (by omega))
              have l4 := F4.1
              obtain ⟨h5, m1, m2, m3, m4, m5⟩ := jg_mk (d := d + 8) (h := h4) (by omega) 4 (aW way) (nI k) (v := .ref h2.length) rfl
              have tt : mx_tag (h4 ++ [((.inl 10 : Nat ⊕ FieldType), [Value.int 0, .int 0, .int 0, .null, .null, .null])]) h4.length = some (.inl 10) := by rw [mx_tag_app, if_pos rfl]
              have T5 := b2.fr (F4.trans m3 (fun a ha => by simp at ha)) (by simp)
              have fzN : ∀ a, h.length ≤ a → a ≠ x2 → fz (x2 :: R) a := by
                intro a ha hx
                refine ⟨by omega, fun z => ?_⟩
                rcases List.mem_cons.mp z with z | z
                · exact hx z
                · have := r _ z; omega
              have x2l : x2 < h2.length := b2.xlt.1
              refine ⟨h5, x2, cp2, h4.length, ?_, T5, ?_, by omega, ?_⟩
              · have yg := Fg.at y1 (by simp)
                have tvg := ce_t yg
                have lvg : mx_ln g v = 4 := by rw [ce_n yg]; rfl
                have v2g : mx_el g v 2 = .ref s2 := by rw [ce_e yg]; rfl
                rw [ck] at e2 kd1 m1 ⊢
                simp only [g168_0, g168_1, g168_4, g168_7, g168_8, g168_9, g168_10, g168_13, g168_14, g168_15, g168_18, g168_19, g168_20, g168_21, g168_24, g168_27, g168_28, g168_29, g168_30, g168_31, g168_32, g168_35, g168_36, g168_37, g168_40, g168_41, g168_42, g168_45, g168_47, g168_49, g168_49n, g168_52, g168_54, g168_57, g168_58, g168_61, g168_62, g168_63, g168_66, g168_69, g168_70, g168_71, g168_72, g168_73, g168_76, g168_77, g168_80, g168_81, g168_83, g168_85, g168_88, g168_91, g168_92, g168_94, g168_97, g168_100, g168_103, g168_106, g168_108, g168_110, g168_113, g168_114, g168_115, g168_116, g168_117, g168_119, g168_122, mx_isr_ref, mx_isr_null, mx_wt_nil, mx_wt_1, mx_wt_2, mx_wt_3, Option.bind_some, Option.toList_some, Option.toList_none, List.cons_append, List.nil_append, mx_nl_int, mx_nl_ref, mx_nl_null, mx_nl_none, mx_nb0, mx_nb1, mx_fb0, mx_fb1, mx_cat_int, mx_cat_ref, if_true, if_false, not_true_eq_false, not_false_eq_true, mx_wt_4, mx_w4_0, mx_w9_0, mx_w9_1, mx_kn_int, mx_kn_ref, mx_kn_null, Nat.reduceLT, ofn, n10, f1, a1, gk, e2, nk1, q0, kd1, b1, tv, lv, v0, v2, tvg, lvg, v2g, st, hh, z1, ce_t e3', J, tt, m1]
              · refine ⟨[.int 4, .int (nI (atW way)), .int (nI k), .ref h2.length, .null], by rw [m2, e1]; rfl, rfl, ?_⟩
                refine Mt_leaf (c := k) ?_ hk ek ⟨Nat.one_le_iff_ne_zero.mpr w0, h7, Or.inr ⟨good.2, good.1⟩⟩ hw6
                have ef : fvO ts way (opw ts c) (c + 1) = some (2, 0, (tx ts (c + 1)).map sml) := by
                  unfold fvO
                  rw [if_neg eo, if_pos w3]
                rw [ef]
                refine OV.ex (M := x2 :: R) (h := h4) ⟨h2.length, rfl, ⟨s3, n1, fzN _ (by omega) (by omega), b3, fzN _ (by omega) (by omega), ?_, sB_fr z2 n2 (by simp; omega) (by simp; omega)⟩, (by decide : (-1000000000 : Int) < 0), (by decide : (0 : Int) < 1000000000)⟩ (ex_new m3 (Nat.le_refl _))
                rcases z4 with z4 | z4
                · rw [z4]
                  refine ⟨by omega, fun z => ?_⟩
                  rcases List.mem_cons.mp z with z | z
                  · have := b2.xlt.2.1; omega
                  · have := r _ z; omega
                · exact fzN _ (by omega) (by omega)
              · refine ((P1.trans b6).al (n := 74 + 2 * (tA ts (c + 1)).2.length) (F4.trans m3 (fun a ha => by simp at ha)) (by simp) ?_ (by omega)).mono (by omega)
                have ez : (tx ts (c + 1)).length = (tA ts (c + 1)).2.length := rfl
                omega
            · obtain ⟨h2, x2, cp2, v, b1, b2, b3, b4, b5, b6⟩ := p1 s0
              have V := b3
              obtain ⟨s2, y1, y2, y3⟩ := b3
              rw [pk_kS s0, good.1] at y1
              have tv := ce_t y1
              have lv : mx_ln h2 v = 4 := by rw [ce_n y1]; rfl
              have v0 : mx_el h2 v 0 = .int (nI (kS (tyO way))) := by rw [ce_e y1]; rfl
              have l2 := b6.1.1
              have ck : ¬ aW way = 2 := fun z => w3 (e5.mp (e1.symm.trans z))
              have st := jg_st (d := d + 9) (h := h2) hk k1 e6
              rw [ek, if_pos good.2] at st
              obtain ⟨h5, m1, m2, m3, m4, m5⟩ := jg_mk (d := d + 8) (h := h2) (by omega) 4 (aW way) (nI k) (v := .ref v) rfl
              have tt : mx_tag (h2 ++ [((.inl 10 : Nat ⊕ FieldType), [Value.int 0, .int 0, .int 0, .null, .null, .null])]) h2.length = some (.inl 10) := by rw [mx_tag_app, if_pos rfl]
              refine ⟨h5, x2, cp2, h2.length, ?_, b2.fr m3 (by simp), ?_, by omega, ((P1.trans b6).al (n := 18) m3 (by simp) (by omega) (by omega)).mono (by omega)⟩
              · simp only [g168_0, g168_1, g168_4, g168_7, g168_8, g168_9, g168_10, g168_13, g168_14, g168_15, g168_18, g168_19, g168_20, g168_21, g168_24, g168_27, g168_28, g168_29, g168_30, g168_31, g168_32, g168_35, g168_36, g168_37, g168_40, g168_41, g168_42, g168_45, g168_47, g168_49, g168_49n, g168_52, g168_54, g168_57, g168_58, g168_61, g168_62, g168_63, g168_66, g168_69, g168_70, g168_71, g168_72, g168_73, g168_76, g168_77, g168_80, g168_81, g168_83, g168_85, g168_88, g168_91, g168_92, g168_94, g168_97, g168_100, g168_103, g168_106, g168_108, g168_110, g168_113, g168_114, g168_115, g168_116, g168_117, g168_119, g168_122, mx_isr_ref, mx_isr_null, mx_wt_nil, mx_wt_1, mx_wt_2, mx_wt_3, Option.bind_some, Option.toList_some, Option.toList_none, List.cons_append, List.nil_append, mx_nl_int, mx_nl_ref, mx_nl_null, mx_nl_none, mx_nb0, mx_nb1, mx_fb0, mx_fb1, mx_cat_int, mx_cat_ref, if_true, if_false, not_true_eq_false, not_false_eq_true, mx_wt_4, mx_w4_0, mx_w9_0, mx_w9_1, mx_kn_int, mx_kn_ref, mx_kn_null, Nat.reduceLT, ofn, n10, f1, a1, gk, e2, nk1, q0, kd1, b1, tv, lv, v0, st, ck, tt, m1]
              · refine ⟨[.int 4, .int (nI (atW way)), .int (nI k), .ref v, .null], by rw [m2, e1]; rfl, rfl, ?_⟩
                refine Mt_leaf (c := k) ?_ hk ek ⟨Nat.one_le_iff_ne_zero.mpr w0, h7, Or.inr ⟨good.2, good.1⟩⟩ hw6
                have ef : fvO ts way (opw ts c) (c + 1) = some (pk ts (c + 1)) := by
                  unfold fvO
                  rw [if_neg eo, if_neg w3]
                rw [ef]
                exact OV.ex (M := x2 :: R) (h := h2) ⟨v, rfl, V, nb_pk N s0⟩ (ex_new m3 (Nat.le_refl _))
          · refine ⟨fun z => absurd (And.intro (z.2.resolve_left eo).2 (z.2.resolve_left eo).1) good, fun _ => ?_⟩
            obtain ⟨h2, x2, cp2, v, b1, b2, b3, b4, b5, b6⟩ := p1 s0
            obtain ⟨s2, y1, y2, y3⟩ := b3
            rw [pk_kS s0] at y1
            have tv := ce_t y1
            have lv : mx_ln h2 v = 4 := by rw [ce_n y1]; rfl
            have v0 : mx_el h2 v 0 = .int (nI (kS (sc ts (c + 1)))) := by rw [ce_e y1]; rfl
            refine ⟨h2, x2, cp2, _, ?_, b2, (P1.trans b6).mono (Nat.zero_le _)⟩
            by_cases ck : sc ts (c + 1) = tyO way
            · have st := jg_st (d := d + 9) (h := h2) hk k1 e6
              rw [ek, if_neg (fun z => good ⟨ck, z⟩)] at st
              rw [ck] at v0
              simp only [g168_0, g168_1, g168_4, g168_7, g168_8, g168_9, g168_10, g168_13, g168_14, g168_15, g168_18, g168_19, g168_20, g168_21, g168_24, g168_27, g168_28, g168_29, g168_30, g168_31, g168_32, g168_35, g168_36, g168_37, g168_40, g168_41, g168_42, g168_45, g168_47, g168_49, g168_49n, g168_52, g168_54, g168_57, g168_58, g168_61, g168_62, g168_63, g168_66, g168_69, g168_70, mx_isr_ref, mx_isr_null, mx_wt_nil, mx_wt_1, mx_wt_2, mx_wt_3, Option.bind_some, Option.toList_some, Option.toList_none, List.cons_append, List.nil_append, mx_nl_int, mx_nl_ref, mx_nl_null, mx_nl_none, mx_nb0, mx_nb1, mx_fb0, mx_fb1, mx_cat_int, mx_cat_ref, if_true, if_false, not_true_eq_false, not_false_eq_true, mx_wt_4, mx_w4_0, mx_w9_0, mx_w9_1, mx_kn_int, mx_kn_ref, mx_kn_null, Nat.reduceLT, ofn, n10, f1, a1, gk, e2, nk1, q0, kd1, b1, tv, lv, v0, st]
            · have ck' : ¬ nI (kS (sc ts (c + 1))) = nI (kS (tyO way)) := fun z => ck ((kS_eq hsc e6).mp z)
              simp only [g168_0, g168_1, g168_4, g168_7, g168_8, g168_9, g168_10, g168_13, g168_14, g168_15, g168_18, g168_19, g168_20, g168_21, g168_24, g168_27, g168_28, g168_29, g168_30, g168_31, g168_32, g168_35, g168_36, g168_37, g168_40, g168_41, g168_42, g168_45, g168_47, g168_49, g168_49n, g168_52, g168_54, g168_57, g168_58, g168_61, g168_62, g168_63, g168_66, g168_69, g168_70, mx_isr_ref, mx_isr_null, mx_wt_nil, mx_wt_1, mx_wt_2, mx_wt_3, Option.bind_some, Option.toList_some, Option.toList_none, List.cons_append, List.nil_append, mx_nl_int, mx_nl_ref, mx_nl_null, mx_nl_none, mx_nb0, mx_nb1, mx_fb0, mx_fb1, mx_cat_int, mx_cat_ref, if_true, if_false, not_true_eq_false, not_false_eq_true, mx_wt_4, mx_w4_0, mx_w9_0, mx_w9_1, mx_kn_int, mx_kn_ref, mx_kn_null, Nat.reduceLT, ofn, n10, f1, a1, gk, e2, nk1, q0, kd1, b1, tv, lv, v0, ck']
  · refine ⟨fun z => ?_, fun _ => ⟨h1, x1, cp1, _, ?_, T1, P1.mono (Nat.zero_le _)⟩⟩
    · rcases z.2 with z | z
      · exact absurd (show opsL.getD 0 [] = opw ts c from z.symm) (nk 0 (by decide))
      · obtain ⟨k, hk, e⟩ := vld_in z.1
        exact absurd e (nk k hk)
    · by_cases ea : aW way = -1
      · simp only [g168_0, g168_1, g168_4, g168_7, g168_8, g168_9, g168_10, g168_13, g168_14, g168_15, g168_18, g168_19, mx_isr_ref, mx_isr_null, mx_wt_nil, mx_wt_1, mx_wt_2, mx_wt_3, Option.bind_some, Option.toList_some, Option.toList_none, List.cons_append, List.nil_append, mx_nl_int, mx_nl_ref, mx_nl_null, mx_nl_none, mx_nb0, mx_nb1, mx_fb0, mx_fb1, mx_cat_int, mx_cat_ref, if_true, if_false, not_true_eq_false, not_false_eq_true, mx_wt_4, mx_w4_0, mx_w9_0, mx_w9_1, mx_kn_int, mx_kn_ref, mx_kn_null, Nat.reduceLT, ofn, n10, f1, a1, gk, ea]
      · simp only [g168_0, g168_1, g168_4, g168_7, g168_8, g168_9, g168_10, g168_13, g168_14, g168_15, g168_18, g168_19, mx_isr_ref, mx_isr_null, mx_wt_nil, mx_wt_1, mx_wt_2, mx_wt_3, Option.bind_some, Option.toList_some, Option.toList_none, List.cons_append, List.nil_append, mx_nl_int, mx_nl_ref, mx_nl_null, mx_nl_none, mx_nb0, mx_nb1, mx_fb0, mx_fb1, mx_cat_int, mx_cat_ref, if_true, if_false, not_true_eq_false, not_false_eq_true, mx_wt_4, mx_w4_0, mx_w9_0, mx_w9_1, mx_kn_int, mx_kn_ref, mx_kn_null, Nat.reduceLT, ofn, n10, f1, a1, gk, ea]
end
