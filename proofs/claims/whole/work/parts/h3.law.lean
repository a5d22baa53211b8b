/-! One call of the law, on class and reference. -/
theorem scr_f {L : Nat} {xs : Nat → Int32} {h : mx_H} (e : h[0]? = some (mx_scr L xs)) : mx_tag h 0 = some (.inr .int) ∧ mx_ln h 0 = L ∧ ∀ k, k < L → mx_el h 0 k = .int (xs k) := by
  refine ⟨ce_t e, by rw [ce_n e]; simp, fun k hk => ?_⟩
  rw [ce_e e, List.getD_eq_getElem?_getD]
  simp [hk]
theorem IV.up {n : Nat} {c : mx_C} {h : mx_H} {bt : List Nat} {s : sto} (I : IV n c h bt s) : IV (n + 1) c h bt s := by
  obtain ⟨x, x2, A3, A4, sl, a, b, c', e, f, g, w⟩ := I
  exact ⟨x, x2, A3, A4, sl, a, b, c', e, f, g, w.up⟩
theorem pLt_length (w : Int32) : ∀ k, (pLt w k).length = k := by
  intro k
  induction k with
  | zero => rfl
  | succ k ih => rw [pLt, List.length_cons, ih]
theorem s_put_len (w n : Int32) (bs : List Nat) : (s_put w n bs).2.length ≤ bs.length + 4 := by
  unfold s_put
  split
  · show bs.length ≤ bs.length + 4; omega
  · rename_i c
    show (bs ++ _).length ≤ _
    rw [List.length_append, pLt_length]
    have : n.toNatClampNeg ≤ 4 := by
      have h4 : ¬ 4 < n := fun z => c (Or.inr (Or.inl z))
      rw [Int32.lt_iff_toInt_lt] at h4
      have e : (4 : Int32).toInt = 4 := rfl
      unfold Int32.toNatClampNeg
      omega
    omega
theorem gL_i (l : List (Option Value)) (h : ∀ v ∈ l, v = none ∨ v = some (.ref 76) ∨ ∃ x, v = some (.int x)) : gL l := by
  intro v hv
  rcases h _ hv with z | z | ⟨x, z⟩
  · cases z
  · cases z; exact ⟨by decide, by decide⟩
  · cases z; trivial
section
variable {d : Nat} {n i L : Nat} {xs : Nat → Int32} {h : mx_H} {bt : List Nat} {s : sto}
/-- what a call leaves -/
def LSx (d n i L : Nat) (xs : Nat → Int32) (pc : Nat) (h : mx_H) (bt : List Nat) : Prop := ∃ (h' : mx_H) (bt' : List Nat) (s' : sto), mx_G (d + 32) 0 pc [some (.ref 0), some (.ref 63), some (.ref 76), some (.int (nI i))] [] h = mx_G (d + 32) 0 421 [some (.ref 0), some (.ref 63), some (.ref 76), some (.int (nI i))] [] h' ∧ IV (n + 1) (mx_scr L xs) h' bt' s' ∧ mw h' + 2700 * bt'.length ≤ mw h + 2700 * bt.length + 10800
theorem ix_f (hi : i + 5 ≤ L) (hL : L ≤ 2560) : (nI i + 1 = nI (i + 1) ∧ nI i + 2 = nI (i + 2) ∧ nI i + 3 = nI (i + 3) ∧ nI i + 4 = nI (i + 4)) ∧ ∀ k, k < 5 → 0 ≤ nI (i + k) ∧ (nI (i + k)).toNatClampNeg = i + k ∧ i + k < L :=
  ⟨⟨nI_1 i, nI_add i 2, nI_add i 3, nI_add i 4⟩, fun k hk => ⟨nI_pos' (by omega), nI_clamp (by omega), by omega⟩⟩
theorem lw_put (hn : n ≤ 512) (hi : i + 5 ≤ L) (hL : L ≤ 2560) (I : IV n (mx_scr L xs) h bt s) : LSx d n i L xs 92 h bt := by
  obtain ⟨x, x2, A3, A4, sl, C, M, B, KDh, O, h0, w⟩ := I
  obtain ⟨⟨n1, n2, n3, n4⟩, ix⟩ := ix_f hi hL
  have i0 := ix 0 (by decide)
  have i1 := ix 1 (by decide)
  have i2 := ix 2 (by decide)
  have i3 := ix 3 (by decide)
  have i4 := ix 4 (by decide)
  obtain ⟨t0, l0, e0⟩ := scr_f h0
  have x1 := e0 (i + 1) (by omega)
  have x2' := e0 (i + 2) (by omega)
  have x3 := e0 (i + 3) (by omega)
  have x4 := e0 (i + 4) (by omega)
  obtain ⟨s1, -⟩ := pS_f C.2.2.1
  have hlh := C.2.1
  have hps := fun p (hp : p ∈ s.1) => mSt_p M hp
  have hid : ∀ p ∈ s.1, p.1 < 2 ^ 20 := fun p hp => (hps p hp).2.2.1
  have hvr : ∀ p ∈ s.1, p.2.1 + 1 < 2 ^ 20 := fun p hp => by have := w.2.1 p hp; omega
  have hvr0 : ∀ p ∈ s.1, p.2.1 < 2 ^ 20 := fun p hp => by have := w.2.1 p hp; omega
  have hnd : (ids s.1).Nodup := nodup_up w.2.2
  have hwf : ∀ p ∈ s.1, wfP p := fun p hp => (hps p hp).1
  obtain ⟨h1, G1, C1, md, wm⟩ := jq_put (d := d + 29) C (xs (i + 1)) (xs (i + 2))
  have M1 := mSt_mdl M md
  have B1 := buf_mdl B md
  have t76 := M1.1.1
  have o1 := mx_oldG G1
  have h01 : h1[0]? = some (mx_scr L xs) := (o1 0 (by decide) (by rw [show mt_nO = 63 by decide]; omega)).trans h0
  obtain ⟨t01, l01, e01⟩ := scr_f h01
  have y1 := e01 (i + 1) (by omega)
  have y2 := e01 (i + 2) (by omega)
  have y3 := e01 (i + 3) (by omega)
  have y4 := e01 (i + 4) (by omega)
  obtain ⟨h2, G2, M2, B2⟩ := rm_putB (d := d + 31) M1 B1 (xs (i + 1)) (xs (i + 2))
  obtain ⟨IV2, w2⟩ := iv_next (n := n) hlh KDh O h0 G1 C1 M1 (m2 := 237) (by decide) (gL_i _ (by simp)) G2 M2 B2 w.up
  refine ⟨h2, _, _, ?_, IV2, ?_⟩
  · simp only [g0_92, g0_93, g0_94, g0_95, g0_96, g0_97, g0_98, g0_99, g0_100, g0_101, g0_102, g0_103, g0_106, g0_107, g0_108, g0_109, g0_110, g0_111, g0_112, g0_113, g0_114, g0_115, g0_116, g0_117, g0_120, mx_isr_ref, mx_isr_null, mx_wt_nil, mx_wt_1, mx_wt_2, mx_wt_3, Option.bind_some, Option.toList_some, Option.toList_none, List.cons_append, List.nil_append, mx_nl_int, mx_nl_ref, mx_nl_null, mx_nl_none, mx_nb0, mx_nb1, mx_fb0, mx_fb1, mx_cat_int, mx_cat_ref, if_true, if_false, not_true_eq_false, not_false_eq_true, mx_wt_4, mx_w4_0, mx_w9_0, mx_w9_1, mx_kn_int, mx_kn_ref, mx_kn_null, Nat.reduceLT, ofn, n10, t0, l0, x1, x2', x3, x4, t01, l01, y1, y2, y3, y4, s1, t76, n1, n2, n3, n4, i0.1, i0.2.1, i0.2.2, i1.1, i1.2.1, i1.2.2, i2.1, i2.2.1, i2.2.2, i3.1, i3.2.1, i3.2.2, i4.1, i4.2.1, i4.2.2, G1, G2]
  · have := s_put_len (xs (i + 1)) (xs (i + 2)) bt; omega
theorem lw_create (hn : n ≤ 512) (hi : i + 5 ≤ L) (hL : L ≤ 2560) (I : IV n (mx_scr L xs) h bt s) : LSx d n i L xs 125 h bt := by
  obtain ⟨x, x2, A3, A4, sl, C, M, B, KDh, O, h0, w⟩ := I
  obtain ⟨⟨n1, n2, n3, n4⟩, ix⟩ := ix_f hi hL
  have i0 := ix 0 (by decide)
  have i1 := ix 1 (by decide)
  have i2 := ix 2 (by decide)
  have i3 := ix 3 (by decide)
  have i4 := ix 4 (by decide)
  obtain ⟨t0, l0, e0⟩ := scr_f h0
  have x1 := e0 (i + 1) (by omega)
  have x2' := e0 (i + 2) (by omega)
  have x3 := e0 (i + 3) (by omega)
  have x4 := e0 (i + 4) (by omega)
  obtain ⟨s1, -⟩ := pS_f C.2.2.1
  have hlh := C.2.1
  have hps := fun p (hp : p ∈ s.1) => mSt_p M hp
  have hid : ∀ p ∈ s.1, p.1 < 2 ^ 20 := fun p hp => (hps p hp).2.2.1
  have hvr : ∀ p ∈ s.1, p.2.1 + 1 < 2 ^ 20 := fun p hp => by have := w.2.1 p hp; omega
  have hvr0 : ∀ p ∈ s.1, p.2.1 < 2 ^ 20 := fun p hp => by have := w.2.1 p hp; omega
  have hnd : (ids s.1).Nodup := nodup_up w.2.2
  have hwf : ∀ p ∈ s.1, wfP p := fun p hp => (hps p hp).1
  obtain ⟨h1, x', A3', G1, C1, md, wm⟩ := jq_create (d := d + 10) C (by have := w.1; omega) hid
  have M1 := mSt_mdl M md
  have B1 := buf_mdl B md
  have t76 := M1.1.1
  have o1 := mx_oldG G1
  have h01 : h1[0]? = some (mx_scr L xs) := (o1 0 (by decide) (by rw [show mt_nO = 63 by decide]; omega)).trans h0
  obtain ⟨t01, l01, e01⟩ := scr_f h01
  have y1 := e01 (i + 1) (by omega)
  have y2 := e01 (i + 2) (by omega)
  have y3 := e01 (i + 3) (by omega)
  have y4 := e01 (i + 4) (by omega)
  obtain ⟨h2, sl2, G2, M2, B2⟩ := rm_create (d := d + 22) M1 B1 (by have := w.1; omega)
  obtain ⟨IV2, w2⟩ := iv_next (n := n) hlh KDh O h0 G1 C1 M1 (m2 := 238) (by decide) (gL_i _ (by simp)) G2 M2 B2 (wfS_create w (fun p hp => (hps p hp).2.2.2.2))
  refine ⟨h2, _, _, ?_, IV2, ?_⟩
  · simp only [g0_125, g0_126, g0_129, g0_130, g0_133, mx_isr_ref, mx_isr_null, mx_wt_nil, mx_wt_1, mx_wt_2, mx_wt_3, Option.bind_some, Option.toList_some, Option.toList_none, List.cons_append, List.nil_append, mx_nl_int, mx_nl_ref, mx_nl_null, mx_nl_none, mx_nb0, mx_nb1, mx_fb0, mx_fb1, mx_cat_int, mx_cat_ref, if_true, if_false, not_true_eq_false, not_false_eq_true, mx_wt_4, mx_w4_0, mx_w9_0, mx_w9_1, mx_kn_int, mx_kn_ref, mx_kn_null, Nat.reduceLT, ofn, n10, t0, l0, x1, x2', x3, x4, t01, l01, y1, y2, y3, y4, s1, t76, n1, n2, n3, n4, i0.1, i0.2.1, i0.2.2, i1.1, i1.2.1, i1.2.2, i2.1, i2.2.1, i2.2.2, i3.1, i3.2.1, i3.2.2, i4.1, i4.2.1, i4.2.2, G1, G2]
  · rw [List.length_nil]; omega
theorem lw_replace (hn : n ≤ 512) (hi : i + 5 ≤ L) (hL : L ≤ 2560) (I : IV n (mx_scr L xs) h bt s) : LSx d n i L xs 138 h bt := by
  obtain ⟨x, x2, A3, A4, sl, C, M, B, KDh, O, h0, w⟩ := I
  obtain ⟨⟨n1, n2, n3, n4⟩, ix⟩ := ix_f hi hL
  have i0 := ix 0 (by decide)
  have i1 := ix 1 (by decide)
  have i2 := ix 2 (by decide)
  have i3 := ix 3 (by decide)
  have i4 := ix 4 (by decide)
  obtain ⟨t0, l0, e0⟩ := scr_f h0
  have x1 := e0 (i + 1) (by omega)
  have x2' := e0 (i + 2) (by omega)
  have x3 := e0 (i + 3) (by omega)
  have x4 := e0 (i + 4) (by omega)
  obtain ⟨s1, -⟩ := pS_f C.2.2.1
  have hlh := C.2.1
  have hps := fun p (hp : p ∈ s.1) => mSt_p M hp
  have hid : ∀ p ∈ s.1, p.1 < 2 ^ 20 := fun p hp => (hps p hp).2.2.1
  have hvr : ∀ p ∈ s.1, p.2.1 + 1 < 2 ^ 20 := fun p hp => by have := w.2.1 p hp; omega
  have hvr0 : ∀ p ∈ s.1, p.2.1 < 2 ^ 20 := fun p hp => by have := w.2.1 p hp; omega
  have hnd : (ids s.1).Nodup := nodup_up w.2.2
  have hwf : ∀ p ∈ s.1, wfP p := fun p hp => (hps p hp).1
  obtain ⟨h1, x', G1, C1, md, wm⟩ := jq_replace (d := d + 10) C hid hvr hnd (xs (i + 1)) (xs (i + 2))
  have M1 := mSt_mdl M md
  have B1 := buf_mdl B md
  have t76 := M1.1.1
  have o1 := mx_oldG G1
  have h01 : h1[0]? = some (mx_scr L xs) := (o1 0 (by decide) (by rw [show mt_nO = 63 by decide]; omega)).trans h0
  obtain ⟨t01, l01, e01⟩ := scr_f h01
  have y1 := e01 (i + 1) (by omega)
  have y2 := e01 (i + 2) (by omega)
  have y3 := e01 (i + 3) (by omega)
  have y4 := e01 (i + 4) (by omega)
  obtain ⟨h2, sl2, G2, M2, B2⟩ := rm_replace (d := d + 22) M1 B1 hvr (xs (i + 1)) (xs (i + 2))
  obtain ⟨IV2, w2⟩ := iv_next (n := n) hlh KDh O h0 G1 C1 M1 (m2 := 279) (by decide) (gL_i _ (by simp)) G2 M2 B2 (wfS_replace w)
  refine ⟨h2, _, _, ?_, IV2, ?_⟩
  · simp only [g0_138, g0_139, g0_140, g0_141, g0_142, g0_143, g0_144, g0_145, g0_146, g0_147, g0_148, g0_149, g0_152, g0_153, g0_154, g0_155, g0_156, g0_157, g0_158, g0_159, g0_160, g0_161, g0_162, g0_163, g0_166, mx_isr_ref, mx_isr_null, mx_wt_nil, mx_wt_1, mx_wt_2, mx_wt_3, Option.bind_some, Option.toList_some, Option.toList_none, List.cons_append, List.nil_append, mx_nl_int, mx_nl_ref, mx_nl_null, mx_nl_none, mx_nb0, mx_nb1, mx_fb0, mx_fb1, mx_cat_int, mx_cat_ref, if_true, if_false, not_true_eq_false, not_false_eq_true, mx_wt_4, mx_w4_0, mx_w9_0, mx_w9_1, mx_kn_int, mx_kn_ref, mx_kn_null, Nat.reduceLT, ofn, n10, t0, l0, x1, x2', x3, x4, t01, l01, y1, y2, y3, y4, s1, t76, n1, n2, n3, n4, i0.1, i0.2.1, i0.2.2, i1.1, i1.2.1, i1.2.2, i2.1, i2.2.1, i2.2.2, i3.1, i3.2.1, i3.2.2, i4.1, i4.2.1, i4.2.2, G1, G2]
  · rw [List.length_nil]; omega
theorem lw_patch (hn : n ≤ 512) (hi : i + 5 ≤ L) (hL : L ≤ 2560) (I : IV n (mx_scr L xs) h bt s) : LSx d n i L xs 171 h bt := by
  obtain ⟨x, x2, A3, A4, sl, C, M, B, KDh, O, h0, w⟩ := I
  obtain ⟨⟨n1, n2, n3, n4⟩, ix⟩ := ix_f hi hL
  have i0 := ix 0 (by decide)
  have i1 := ix 1 (by decide)
  have i2 := ix 2 (by decide)
  have i3 := ix 3 (by decide)
  have i4 := ix 4 (by decide)
  obtain ⟨t0, l0, e0⟩ := scr_f h0
  have x1 := e0 (i + 1) (by omega)
  have x2' := e0 (i + 2) (by omega)
  have x3 := e0 (i + 3) (by omega)
  have x4 := e0 (i + 4) (by omega)
  obtain ⟨s1, -⟩ := pS_f C.2.2.1
  have hlh := C.2.1
  have hps := fun p (hp : p ∈ s.1) => mSt_p M hp
  have hid : ∀ p ∈ s.1, p.1 < 2 ^ 20 := fun p hp => (hps p hp).2.2.1
  have hvr : ∀ p ∈ s.1, p.2.1 + 1 < 2 ^ 20 := fun p hp => by have := w.2.1 p hp; omega
  have hvr0 : ∀ p ∈ s.1, p.2.1 < 2 ^ 20 := fun p hp => by have := w.2.1 p hp; omega
  have hnd : (ids s.1).Nodup := nodup_up w.2.2
  have hwf : ∀ p ∈ s.1, wfP p := fun p hp => (hps p hp).1
  obtain ⟨h1, x', G1, C1, md, wm⟩ := jq_patch (d := d) C hid hvr hnd hwf (xs (i + 1)) (xs (i + 2))
  have M1 := mSt_mdl M md
  have B1 := buf_mdl B md
  have t76 := M1.1.1
  have o1 := mx_oldG G1
  have h01 : h1[0]? = some (mx_scr L xs) := (o1 0 (by decide) (by rw [show mt_nO = 63 by decide]; omega)).trans h0
  obtain ⟨t01, l01, e01⟩ := scr_f h01
  have y1 := e01 (i + 1) (by omega)
  have y2 := e01 (i + 2) (by omega)
  have y3 := e01 (i + 3) (by omega)
  have y4 := e01 (i + 4) (by omega)
  obtain ⟨h2, sl2, G2, M2, B2⟩ := rm_patch (d := d + 21) M1 B1 hvr (xs (i + 1)) (xs (i + 2))
  obtain ⟨IV2, w2⟩ := iv_next (n := n) hlh KDh O h0 G1 C1 M1 (m2 := 286) (by decide) (gL_i _ (by simp)) G2 M2 B2 (wfS_patch w)
  refine ⟨h2, _, _, ?_, IV2, ?_⟩
  · simp only [g0_171, g0_172, g0_173, g0_174, g0_175, g0_176, g0_177, g0_178, g0_179, g0_180, g0_181, g0_182, g0_185, g0_186, g0_187, g0_188, g0_189, g0_190, g0_191, g0_192, g0_193, g0_194, g0_195, g0_196, g0_199, mx_isr_ref, mx_isr_null, mx_wt_nil, mx_wt_1, mx_wt_2, mx_wt_3, Option.bind_some, Option.toList_some, Option.toList_none, List.cons_append, List.nil_append, mx_nl_int, mx_nl_ref, mx_nl_null, mx_nl_none, mx_nb0, mx_nb1, mx_fb0, mx_fb1, mx_cat_int, mx_cat_ref, if_true, if_false, not_true_eq_false, not_false_eq_true, mx_wt_4, mx_w4_0, mx_w9_0, mx_w9_1, mx_kn_int, mx_kn_ref, mx_kn_null, Nat.reduceLT, ofn, n10, t0, l0, x1, x2', x3, x4, t01, l01, y1, y2, y3, y4, s1, t76, n1, n2, n3, n4, i0.1, i0.2.1, i0.2.2, i1.1, i1.2.1, i1.2.2, i2.1, i2.2.1, i2.2.2, i3.1, i3.2.1, i3.2.2, i4.1, i4.2.1, i4.2.2, G1, G2]
  · rw [List.length_nil]; omega
theorem lw_remove (hn : n ≤ 512) (hi : i + 5 ≤ L) (hL : L ≤ 2560) (I : IV n (mx_scr L xs) h bt s) : LSx d n i L xs 204 h bt := by
  obtain ⟨x, x2, A3, A4, sl, C, M, B, KDh, O, h0, w⟩ := I
  obtain ⟨⟨n1, n2, n3, n4⟩, ix⟩ := ix_f hi hL
  have i0 := ix 0 (by decide)
  have i1 := ix 1 (by decide)
  have i2 := ix 2 (by decide)
  have i3 := ix 3 (by decide)
  have i4 := ix 4 (by decide)
  obtain ⟨t0, l0, e0⟩ := scr_f h0
  have x1 := e0 (i + 1) (by omega)
  have x2' := e0 (i + 2) (by omega)
  have x3 := e0 (i + 3) (by omega)
  have x4 := e0 (i + 4) (by omega)
  obtain ⟨s1, -⟩ := pS_f C.2.2.1
  have hlh := C.2.1
  have hps := fun p (hp : p ∈ s.1) => mSt_p M hp
  have hid : ∀ p ∈ s.1, p.1 < 2 ^ 20 := fun p hp => (hps p hp).2.2.1
  have hvr : ∀ p ∈ s.1, p.2.1 + 1 < 2 ^ 20 := fun p hp => by have := w.2.1 p hp; omega
  have hvr0 : ∀ p ∈ s.1, p.2.1 < 2 ^ 20 := fun p hp => by have := w.2.1 p hp; omega
  have hnd : (ids s.1).Nodup := nodup_up w.2.2
  have hwf : ∀ p ∈ s.1, wfP p := fun p hp => (hps p hp).1
  obtain ⟨h1, G1, C1, md, wm⟩ := jq_remove (d := d + 27) C hid hvr0 hnd (xs (i + 1)) (xs (i + 2))
  have M1 := mSt_mdl M md
  have B1 := buf_mdl B md
  have t76 := M1.1.1
  have o1 := mx_oldG G1
  have h01 : h1[0]? = some (mx_scr L xs) := (o1 0 (by decide) (by rw [show mt_nO = 63 by decide]; omega)).trans h0
  obtain ⟨t01, l01, e01⟩ := scr_f h01
  have y1 := e01 (i + 1) (by omega)
  have y2 := e01 (i + 2) (by omega)
  have y3 := e01 (i + 3) (by omega)
  have y4 := e01 (i + 4) (by omega)
  obtain ⟨h2, sl2, G2, M2, B2⟩ := rm_remove (d := d + 29) M1 B1 (xs (i + 1)) (xs (i + 2))
  obtain ⟨IV2, w2⟩ := iv_next (n := n) hlh KDh O h0 G1 C1 M1 (m2 := 285) (by decide) (gL_i _ (by simp)) G2 M2 B2 (wfS_remove w)
  refine ⟨h2, _, _, ?_, IV2, ?_⟩
  · simp only [g0_204, g0_205, g0_206, g0_207, g0_208, g0_209, g0_210, g0_211, g0_212, g0_213, g0_214, g0_215, g0_218, g0_219, g0_220, g0_221, g0_222, g0_223, g0_224, g0_225, g0_226, g0_227, g0_228, g0_229, g0_232, mx_isr_ref, mx_isr_null, mx_wt_nil, mx_wt_1, mx_wt_2, mx_wt_3, Option.bind_some, Option.toList_some, Option.toList_none, List.cons_append, List.nil_append, mx_nl_int, mx_nl_ref, mx_nl_null, mx_nl_none, mx_nb0, mx_nb1, mx_fb0, mx_fb1, mx_cat_int, mx_cat_ref, if_true, if_false, not_true_eq_false, not_false_eq_true, mx_wt_4, mx_w4_0, mx_w9_0, mx_w9_1, mx_kn_int, mx_kn_ref, mx_kn_null, Nat.reduceLT, ofn, n10, t0, l0, x1, x2', x3, x4, t01, l01, y1, y2, y3, y4, s1, t76, n1, n2, n3, n4, i0.1, i0.2.1, i0.2.2, i1.1, i1.2.1, i1.2.2, i2.1, i2.2.1, i2.2.2, i3.1, i3.2.1, i3.2.2, i4.1, i4.2.1, i4.2.2, G1, G2]
  · omega
theorem lw_length (hn : n ≤ 512) (hi : i + 5 ≤ L) (hL : L ≤ 2560) (I : IV n (mx_scr L xs) h bt s) : LSx d n i L xs 365 h bt := by
  obtain ⟨x, x2, A3, A4, sl, C, M, B, KDh, O, h0, w⟩ := I
  obtain ⟨⟨n1, n2, n3, n4⟩, ix⟩ := ix_f hi hL
  have i0 := ix 0 (by decide)
  have i1 := ix 1 (by decide)
  have i2 := ix 2 (by decide)
  have i3 := ix 3 (by decide)
  have i4 := ix 4 (by decide)
  obtain ⟨t0, l0, e0⟩ := scr_f h0
  have x1 := e0 (i + 1) (by omega)
  have x2' := e0 (i + 2) (by omega)
  have x3 := e0 (i + 3) (by omega)
  have x4 := e0 (i + 4) (by omega)
  obtain ⟨s1, -⟩ := pS_f C.2.2.1
  have hlh := C.2.1
  have hps := fun p (hp : p ∈ s.1) => mSt_p M hp
  have hid : ∀ p ∈ s.1, p.1 < 2 ^ 20 := fun p hp => (hps p hp).2.2.1
  have hvr : ∀ p ∈ s.1, p.2.1 + 1 < 2 ^ 20 := fun p hp => by have := w.2.1 p hp; omega
  have hvr0 : ∀ p ∈ s.1, p.2.1 < 2 ^ 20 := fun p hp => by have := w.2.1 p hp; omega
  have hnd : (ids s.1).Nodup := nodup_up w.2.2
  have hwf : ∀ p ∈ s.1, wfP p := fun p hp => (hps p hp).1
  obtain ⟨h1, x2'', G1, C1, md, kd1, wm⟩ := jq_length (d := d + 18) C KDh hwf (fun p hp => ⟨hid p hp, hvr0 p hp⟩) (xs (i + 1))
  have M1 := mSt_mdl M md
  have B1 := buf_mdl B md
  have t76 := M1.1.1
  have o1 := mx_oldG G1
  have h01 : h1[0]? = some (mx_scr L xs) := (o1 0 (by decide) (by rw [show mt_nO = 63 by decide]; omega)).trans h0
  obtain ⟨t01, l01, e01⟩ := scr_f h01
  have y1 := e01 (i + 1) (by omega)
  have y2 := e01 (i + 2) (by omega)
  have y3 := e01 (i + 3) (by omega)
  have y4 := e01 (i + 4) (by omega)
  obtain ⟨h2, G2, M2, B2⟩ := rm_length (d := d + 26) M1 B1 (xs (i + 1))
  obtain ⟨IV2, w2⟩ := iv_next (n := n) hlh KDh O h0 G1 C1 M1 (m2 := 330) (by decide) (gL_i _ (by simp)) G2 M2 B2 w.up
  refine ⟨h2, _, _, ?_, IV2, ?_⟩
  · simp only [g0_365, g0_366, g0_367, g0_368, g0_369, g0_370, g0_371, g0_374, g0_375, g0_376, g0_377, g0_378, g0_379, g0_380, g0_383, mx_isr_ref, mx_isr_null, mx_wt_nil, mx_wt_1, mx_wt_2, mx_wt_3, Option.bind_some, Option.toList_some, Option.toList_none, List.cons_append, List.nil_append, mx_nl_int, mx_nl_ref, mx_nl_null, mx_nl_none, mx_nb0, mx_nb1, mx_fb0, mx_fb1, mx_cat_int, mx_cat_ref, if_true, if_false, not_true_eq_false, not_false_eq_true, mx_wt_4, mx_w4_0, mx_w9_0, mx_w9_1, mx_kn_int, mx_kn_ref, mx_kn_null, Nat.reduceLT, ofn, n10, t0, l0, x1, x2', x3, x4, t01, l01, y1, y2, y3, y4, s1, t76, n1, n2, n3, n4, i0.1, i0.2.1, i0.2.2, i1.1, i1.2.1, i1.2.2, i2.1, i2.2.1, i2.2.2, i3.1, i3.2.1, i3.2.2, i4.1, i4.2.1, i4.2.2, G1, G2]
  · omega
theorem lw_letter (hn : n ≤ 512) (hi : i + 5 ≤ L) (hL : L ≤ 2560) (I : IV n (mx_scr L xs) h bt s) : LSx d n i L xs 388 h bt := by
  obtain ⟨x, x2, A3, A4, sl, C, M, B, KDh, O, h0, w⟩ := I
  obtain ⟨⟨n1, n2, n3, n4⟩, ix⟩ := ix_f hi hL
  have i0 := ix 0 (by decide)
  have i1 := ix 1 (by decide)
  have i2 := ix 2 (by decide)
  have i3 := ix 3 (by decide)
  have i4 := ix 4 (by decide)
  obtain ⟨t0, l0, e0⟩ := scr_f h0
  have x1 := e0 (i + 1) (by omega)
  have x2' := e0 (i + 2) (by omega)
  have x3 := e0 (i + 3) (by omega)
  have x4 := e0 (i + 4) (by omega)
  obtain ⟨s1, -⟩ := pS_f C.2.2.1
  have hlh := C.2.1
  have hps := fun p (hp : p ∈ s.1) => mSt_p M hp
  have hid : ∀ p ∈ s.1, p.1 < 2 ^ 20 := fun p hp => (hps p hp).2.2.1
  have hvr : ∀ p ∈ s.1, p.2.1 + 1 < 2 ^ 20 := fun p hp => by have := w.2.1 p hp; omega
  have hvr0 : ∀ p ∈ s.1, p.2.1 < 2 ^ 20 := fun p hp => by have := w.2.1 p hp; omega
  have hnd : (ids s.1).Nodup := nodup_up w.2.2
  have hwf : ∀ p ∈ s.1, wfP p := fun p hp => (hps p hp).1
  obtain ⟨h1, x2'', G1, C1, md, kd1, wm⟩ := jq_letter (d := d + 18) C KDh hwf (fun p hp => ⟨hid p hp, hvr0 p hp⟩) (xs (i + 1)) (xs (i + 2))
  have M1 := mSt_mdl M md
  have B1 := buf_mdl B md
  have t76 := M1.1.1
  have o1 := mx_oldG G1
  have h01 : h1[0]? = some (mx_scr L xs) := (o1 0 (by decide) (by rw [show mt_nO = 63 by decide]; omega)).trans h0
  obtain ⟨t01, l01, e01⟩ := scr_f h01
  have y1 := e01 (i + 1) (by omega)
  have y2 := e01 (i + 2) (by omega)
  have y3 := e01 (i + 3) (by omega)
  have y4 := e01 (i + 4) (by omega)
  obtain ⟨h2, G2, M2, B2⟩ := rm_letter (d := d + 26) M1 B1 (xs (i + 1)) (xs (i + 2))
  obtain ⟨IV2, w2⟩ := iv_next (n := n) hlh KDh O h0 G1 C1 M1 (m2 := 338) (by decide) (gL_i _ (by simp)) G2 M2 B2 w.up
  refine ⟨h2, _, _, ?_, IV2, ?_⟩
  · simp only [g0_388, g0_389, g0_390, g0_391, g0_392, g0_393, g0_394, g0_395, g0_396, g0_397, g0_398, g0_399, g0_402, g0_403, g0_404, g0_405, g0_406, g0_407, g0_408, g0_409, g0_410, g0_411, g0_412, g0_413, g0_416, mx_isr_ref, mx_isr_null, mx_wt_nil, mx_wt_1, mx_wt_2, mx_wt_3, Option.bind_some, Option.toList_some, Option.toList_none, List.cons_append, List.nil_append, mx_nl_int, mx_nl_ref, mx_nl_null, mx_nl_none, mx_nb0, mx_nb1, mx_fb0, mx_fb1, mx_cat_int, mx_cat_ref, if_true, if_false, not_true_eq_false, not_false_eq_true, mx_wt_4, mx_w4_0, mx_w9_0, mx_w9_1, mx_kn_int, mx_kn_ref, mx_kn_null, Nat.reduceLT, ofn, n10, t0, l0, x1, x2', x3, x4, t01, l01, y1, y2, y3, y4, s1, t76, n1, n2, n3, n4, i0.1, i0.2.1, i0.2.2, i1.1, i1.2.1, i1.2.2, i2.1, i2.2.1, i2.2.2, i3.1, i3.2.1, i3.2.2, i4.1, i4.2.1, i4.2.2, G1, G2]
  · omega
theorem lw_query (hn : n ≤ 512) (hi : i + 5 ≤ L) (hL : L ≤ 2560) (I : IV n (mx_scr L xs) h bt s) : LSx d n i L xs 237 h bt := by
  obtain ⟨x, x2, A3, A4, sl, C, M, B, KDh, O, h0, w⟩ := I
  obtain ⟨⟨n1, n2, n3, n4⟩, ix⟩ := ix_f hi hL
  have i0 := ix 0 (by decide)
  have i1 := ix 1 (by decide)
  have i2 := ix 2 (by decide)
  have i3 := ix 3 (by decide)
  have i4 := ix 4 (by decide)
  obtain ⟨t0, l0, e0⟩ := scr_f h0
  have x1 := e0 (i + 1) (by omega)
  have x2' := e0 (i + 2) (by omega)
  have x3 := e0 (i + 3) (by omega)
  have x4 := e0 (i + 4) (by omega)
  obtain ⟨s1, -⟩ := pS_f C.2.2.1
  have hlh := C.2.1
  have hps := fun p (hp : p ∈ s.1) => mSt_p M hp
  have hid : ∀ p ∈ s.1, p.1 < 2 ^ 20 := fun p hp => (hps p hp).2.2.1
  have hvr : ∀ p ∈ s.1, p.2.1 + 1 < 2 ^ 20 := fun p hp => by have := w.2.1 p hp; omega
  have hvr0 : ∀ p ∈ s.1, p.2.1 < 2 ^ 20 := fun p hp => by have := w.2.1 p hp; omega
  have hnd : (ids s.1).Nodup := nodup_up w.2.2
  have hwf : ∀ p ∈ s.1, wfP p := fun p hp => (hps p hp).1
  have hok : ∀ p ∈ s.1, oks p := fun p hp => okP.oks ⟨hwf p hp, hid p hp, hvr0 p hp⟩
  obtain ⟨h1, x', A4', G1, C1, md, wm⟩ := jq_query (d := d) C hok w.2.2 O (xs (i + 1)) (decide (¬ xs (i + 2) = 0)) (xs (i + 3)) (xs (i + 4))
  have M1 := mSt_mdl M md
  have B1 := buf_mdl B md
  have t76 := M1.1.1
  have o1 := mx_oldG G1
  have h01 : h1[0]? = some (mx_scr L xs) := (o1 0 (by decide) (by rw [show mt_nO = 63 by decide]; omega)).trans h0
  obtain ⟨t01, l01, e01⟩ := scr_f h01
  have y1 := e01 (i + 1) (by omega)
  have y2 := e01 (i + 2) (by omega)
  have y3 := e01 (i + 3) (by omega)
  have y4 := e01 (i + 4) (by omega)
  obtain ⟨h2, G2, M2, B2⟩ := rm_query (d := d + 22) M1 B1 (xs (i + 1)) (xs (i + 3)) (xs (i + 4)) (decide (¬ xs (i + 2) = 0))
  obtain ⟨IV2, w2⟩ := iv_next (n := n) hlh KDh O h0 G1 C1 M1 (m2 := 320) (by decide) (gL_i _ (by simp)) G2 M2 B2 (wfS_query w)
  refine ⟨h2, _, _, ?_, IV2, ?_⟩
  · have wt4 : ∀ (a b c : Int32) (p q : Nat), mx_wt [.int a, .int b, .ref p, .int c, .ref q] ≤ 8 := fun a b c p q => by simp [mx_wt, Value.category]
    have wt5 : ∀ (a b c e : Int32) (p : Nat), mx_wt [.int a, .int b, .int c, .ref p, .int e] ≤ 8 := fun a b c e p => by simp [mx_wt, Value.category]
    by_cases z : xs (i + 2) = 0
    · rw [show decide (¬ xs (i + 2) = 0) = false by simp [z]] at G1 G2
      simp only [Bool.false_eq_true, if_false] at G1 G2
      simp only [g0_237, g0_238, g0_239, g0_240, g0_241, g0_242, g0_243, g0_244, g0_245, g0_246, g0_247, g0_248, g0_255, g0_256, g0_257, g0_258, g0_259, g0_260, g0_261, g0_262, g0_263, g0_264, g0_265, g0_266, g0_269, g0_270, g0_271, g0_272, g0_273, g0_274, g0_275, g0_276, g0_277, g0_278, g0_279, g0_280, g0_287, g0_288, g0_289, g0_290, g0_291, g0_292, g0_293, g0_294, g0_295, g0_296, g0_297, g0_298, g0_301, mx_isr_ref, mx_isr_null, mx_wt_nil, mx_wt_1, mx_wt_2, mx_wt_3, Option.bind_some, Option.toList_some, Option.toList_none, List.cons_append, List.nil_append, mx_nl_int, mx_nl_ref, mx_nl_null, mx_nl_none, mx_nb0, mx_nb1, mx_fb0, mx_fb1, mx_cat_int, mx_cat_ref, if_true, if_false, not_true_eq_false, not_false_eq_true, mx_wt_4, mx_w4_0, mx_w9_0, mx_w9_1, mx_kn_int, mx_kn_ref, mx_kn_null, Nat.reduceLT, ofn, n10, t0, l0, x1, x2', x3, x4, t01, l01, y1, y2, y3, y4, s1, t76, n1, n2, n3, n4, i0.1, i0.2.1, i0.2.2, i1.1, i1.2.1, i1.2.2, i2.1, i2.2.1, i2.2.2, i3.1, i3.2.1, i3.2.2, i4.1, i4.2.1, i4.2.2, z, G1, G2]
    · rw [show decide (¬ xs (i + 2) = 0) = true by simp [z]] at G1 G2
      simp only [if_true] at G1 G2
      simp only [g0_237, g0_238, g0_239, g0_240, g0_241, g0_242, g0_243, g0_244, g0_245, g0_246, g0_247, g0_248, g0_251, g0_252, g0_256, g0_257, g0_258, g0_259, g0_260, g0_261, g0_262, g0_263, g0_264, g0_265, g0_266, g0_269, g0_270, g0_271, g0_272, g0_273, g0_274, g0_275, g0_276, g0_277, g0_278, g0_279, g0_280, g0_283, g0_284, g0_288, g0_289, g0_290, g0_291, g0_292, g0_293, g0_294, g0_295, g0_296, g0_297, g0_298, g0_301, mx_isr_ref, mx_isr_null, mx_wt_nil, mx_wt_1, mx_wt_2, mx_wt_3, Option.bind_some, Option.toList_some, Option.toList_none, List.cons_append, List.nil_append, mx_nl_int, mx_nl_ref, mx_nl_null, mx_nl_none, mx_nb0, mx_nb1, mx_fb0, mx_fb1, mx_cat_int, mx_cat_ref, if_true, if_false, not_true_eq_false, not_false_eq_true, mx_wt_4, mx_w4_0, mx_w9_0, mx_w9_1, mx_kn_int, mx_kn_ref, mx_kn_null, Nat.reduceLT, ofn, n10, t0, l0, x1, x2', x3, x4, t01, l01, y1, y2, y3, y4, s1, t76, n1, n2, n3, n4, i0.1, i0.2.1, i0.2.2, i1.1, i1.2.1, i1.2.2, i2.1, i2.2.1, i2.2.2, i3.1, i3.2.1, i3.2.2, i4.1, i4.2.1, i4.2.2, z, G1, G2]
  · rw [List.length_nil]; omega
theorem lw_page (hn : n ≤ 512) (hi : i + 5 ≤ L) (hL : L ≤ 2560) (I : IV n (mx_scr L xs) h bt s) : LSx d n i L xs 306 h bt := by
  have I0 := I
  obtain ⟨x, x2, A3, A4, sl, C, M, B, KDh, O, h0, w⟩ := I
  obtain ⟨⟨n1, n2, n3, n4⟩, ix⟩ := ix_f hi hL
  have i0 := ix 0 (by decide)
  have i1 := ix 1 (by decide)
  have i2 := ix 2 (by decide)
  have i3 := ix 3 (by decide)
  have i4 := ix 4 (by decide)
  obtain ⟨t0, l0, e0⟩ := scr_f h0
  have x1 := e0 (i + 1) (by omega)
  have x2' := e0 (i + 2) (by omega)
  have x3 := e0 (i + 3) (by omega)
  have x4 := e0 (i + 4) (by omega)
  obtain ⟨s1, -⟩ := pS_f C.2.2.1
  have hlh := C.2.1
  have hps := fun p (hp : p ∈ s.1) => mSt_p M hp
  have hid : ∀ p ∈ s.1, p.1 < 2 ^ 20 := fun p hp => (hps p hp).2.2.1
  have hvr : ∀ p ∈ s.1, p.2.1 + 1 < 2 ^ 20 := fun p hp => by have := w.2.1 p hp; omega
  have hvr0 : ∀ p ∈ s.1, p.2.1 < 2 ^ 20 := fun p hp => by have := w.2.1 p hp; omega
  have hnd : (ids s.1).Nodup := nodup_up w.2.2
  have hwf : ∀ p ∈ s.1, wfP p := fun p hp => (hps p hp).1
  have G1 := jq_page (d := d + 31) C (xs (i + 1))
  have G2 := rm_page (d := d + 31) M (xs (i + 1))
  have t76 := M.1.1
  refine ⟨h, bt, s, ?_, I0.up, by omega⟩
  simp only [g0_306, g0_307, g0_308, g0_309, g0_310, g0_311, g0_312, g0_315, g0_316, g0_317, g0_318, g0_319, g0_320, g0_321, g0_324, mx_isr_ref, mx_isr_null, mx_wt_nil, mx_wt_1, mx_wt_2, mx_wt_3, Option.bind_some, Option.toList_some, Option.toList_none, List.cons_append, List.nil_append, mx_nl_int, mx_nl_ref, mx_nl_null, mx_nl_none, mx_nb0, mx_nb1, mx_fb0, mx_fb1, mx_cat_int, mx_cat_ref, if_true, if_false, not_true_eq_false, not_false_eq_true, mx_wt_4, mx_w4_0, mx_w9_0, mx_w9_1, mx_kn_int, mx_kn_ref, mx_kn_null, Nat.reduceLT, ofn, n10, t0, l0, x1, x2', x3, x4, s1, t76, n1, n2, n3, n4, i0.1, i0.2.1, i0.2.2, i1.1, i1.2.1, i1.2.2, i2.1, i2.2.1, i2.2.2, i3.1, i3.2.1, i3.2.2, i4.1, i4.2.1, i4.2.2, G1, G2]
theorem lw_resources (hn : n ≤ 512) (hi : i + 5 ≤ L) (hL : L ≤ 2560) (I : IV n (mx_scr L xs) h bt s) : LSx d n i L xs 329 h bt := by
  have I0 := I
  obtain ⟨x, x2, A3, A4, sl, C, M, B, KDh, O, h0, w⟩ := I
  obtain ⟨⟨n1, n2, n3, n4⟩, ix⟩ := ix_f hi hL
  have i0 := ix 0 (by decide)
  have i1 := ix 1 (by decide)
  have i2 := ix 2 (by decide)
  have i3 := ix 3 (by decide)
  have i4 := ix 4 (by decide)
  obtain ⟨t0, l0, e0⟩ := scr_f h0
  have x1 := e0 (i + 1) (by omega)
  have x2' := e0 (i + 2) (by omega)
  have x3 := e0 (i + 3) (by omega)
  have x4 := e0 (i + 4) (by omega)
  obtain ⟨s1, -⟩ := pS_f C.2.2.1
  have hlh := C.2.1
  have hps := fun p (hp : p ∈ s.1) => mSt_p M hp
  have hid : ∀ p ∈ s.1, p.1 < 2 ^ 20 := fun p hp => (hps p hp).2.2.1
  have hvr : ∀ p ∈ s.1, p.2.1 + 1 < 2 ^ 20 := fun p hp => by have := w.2.1 p hp; omega
  have hvr0 : ∀ p ∈ s.1, p.2.1 < 2 ^ 20 := fun p hp => by have := w.2.1 p hp; omega
  have hnd : (ids s.1).Nodup := nodup_up w.2.2
  have hwf : ∀ p ∈ s.1, wfP p := fun p hp => (hps p hp).1
  have G1 := jq_resources (d := d + 30) C
  have G2 := rm_resources (d := d + 30) M
  have t76 := M.1.1
  refine ⟨h, bt, s, ?_, I0.up, by omega⟩
  simp only [g0_329, g0_330, g0_333, g0_334, g0_337, mx_isr_ref, mx_isr_null, mx_wt_nil, mx_wt_1, mx_wt_2, mx_wt_3, Option.bind_some, Option.toList_some, Option.toList_none, List.cons_append, List.nil_append, mx_nl_int, mx_nl_ref, mx_nl_null, mx_nl_none, mx_nb0, mx_nb1, mx_fb0, mx_fb1, mx_cat_int, mx_cat_ref, if_true, if_false, not_true_eq_false, not_false_eq_true, mx_wt_4, mx_w4_0, mx_w9_0, mx_w9_1, mx_kn_int, mx_kn_ref, mx_kn_null, Nat.reduceLT, ofn, n10, t0, l0, x1, x2', x3, x4, s1, t76, n1, n2, n3, n4, i0.1, i0.2.1, i0.2.2, i1.1, i1.2.1, i1.2.2, i2.1, i2.2.1, i2.2.2, i3.1, i3.2.1, i3.2.2, i4.1, i4.2.1, i4.2.2, G1, G2]
theorem lw_version (hn : n ≤ 512) (hi : i + 5 ≤ L) (hL : L ≤ 2560) (I : IV n (mx_scr L xs) h bt s) : LSx d n i L xs 342 h bt := by
  have I0 := I
  obtain ⟨x, x2, A3, A4, sl, C, M, B, KDh, O, h0, w⟩ := I
  obtain ⟨⟨n1, n2, n3, n4⟩, ix⟩ := ix_f hi hL
  have i0 := ix 0 (by decide)
  have i1 := ix 1 (by decide)
  have i2 := ix 2 (by decide)
  have i3 := ix 3 (by decide)
  have i4 := ix 4 (by decide)
  obtain ⟨t0, l0, e0⟩ := scr_f h0
  have x1 := e0 (i + 1) (by omega)
  have x2' := e0 (i + 2) (by omega)
  have x3 := e0 (i + 3) (by omega)
  have x4 := e0 (i + 4) (by omega)
  obtain ⟨s1, -⟩ := pS_f C.2.2.1
  have hlh := C.2.1
  have hps := fun p (hp : p ∈ s.1) => mSt_p M hp
  have hid : ∀ p ∈ s.1, p.1 < 2 ^ 20 := fun p hp => (hps p hp).2.2.1
  have hvr : ∀ p ∈ s.1, p.2.1 + 1 < 2 ^ 20 := fun p hp => by have := w.2.1 p hp; omega
  have hvr0 : ∀ p ∈ s.1, p.2.1 < 2 ^ 20 := fun p hp => by have := w.2.1 p hp; omega
  have hnd : (ids s.1).Nodup := nodup_up w.2.2
  have hwf : ∀ p ∈ s.1, wfP p := fun p hp => (hps p hp).1
  have G1 := jq_version (d := d + 27) C hid (xs (i + 1))
  have G2 := rm_version (d := d + 29) M (xs (i + 1))
  have t76 := M.1.1
  refine ⟨h, bt, s, ?_, I0.up, by omega⟩
  simp only [g0_342, g0_343, g0_344, g0_345, g0_346, g0_347, g0_348, g0_351, g0_352, g0_353, g0_354, g0_355, g0_356, g0_357, g0_360, mx_isr_ref, mx_isr_null, mx_wt_nil, mx_wt_1, mx_wt_2, mx_wt_3, Option.bind_some, Option.toList_some, Option.toList_none, List.cons_append, List.nil_append, mx_nl_int, mx_nl_ref, mx_nl_null, mx_nl_none, mx_nb0, mx_nb1, mx_fb0, mx_fb1, mx_cat_int, mx_cat_ref, if_true, if_false, not_true_eq_false, not_false_eq_true, mx_wt_4, mx_w4_0, mx_w9_0, mx_w9_1, mx_kn_int, mx_kn_ref, mx_kn_null, Nat.reduceLT, ofn, n10, t0, l0, x1, x2', x3, x4, s1, t76, n1, n2, n3, n4, i0.1, i0.2.1, i0.2.2, i1.1, i1.2.1, i1.2.2, i2.1, i2.2.1, i2.2.2, i3.1, i3.2.1, i3.2.2, i4.1, i4.2.1, i4.2.2, G1, G2]
theorem lw_step (hn : n ≤ 512) (hi : i + 5 ≤ L) (hL : L ≤ 2560) (I : IV n (mx_scr L xs) h bt s) : LSx d n i L xs 26 h bt := by
  have h0 : h[0]? = some (mx_scr L xs) := by obtain ⟨x, x2, A3, A4, sl, C, M, B, KDh, O, h0, w⟩ := I; exact h0
  obtain ⟨t0, l0, e0⟩ := scr_f h0
  have x0 := e0 i (by omega)
  have sw : mx_G (d + 32) 0 26 [some (.ref 0), some (.ref 63), some (.ref 76), some (.int (nI i))] [] h = mx_G (d + 32) 0 32 [some (.ref 0), some (.ref 63), some (.ref 76), some (.int (nI i))] [.int (xs i &&& 15)] h := by
    simp only [g0_26, g0_27, g0_28, g0_29, g0_31, mx_isr_ref, mx_isr_null, mx_wt_nil, mx_wt_1, mx_wt_2, mx_wt_3, Option.bind_some, Option.toList_some, Option.toList_none, List.cons_append, List.nil_append, mx_nl_int, mx_nl_ref, mx_nl_null, mx_nl_none, mx_nb0, mx_nb1, mx_fb0, mx_fb1, mx_cat_int, mx_cat_ref, if_true, if_false, not_true_eq_false, not_false_eq_true, mx_wt_4, mx_w4_0, mx_w9_0, mx_w9_1, mx_kn_int, mx_kn_ref, mx_kn_null, Nat.reduceLT, ofn, n10, t0, l0, nI_pos' (show i < 2 ^ 31 by omega), nI_clamp (show i < 2 ^ 31 by omega), show i < L by omega, x0]
  have fin : ∀ pc, mx_G (d + 32) 0 32 [some (.ref 0), some (.ref 63), some (.ref 76), some (.int (nI i))] [.int (xs i &&& 15)] h = mx_G (d + 32) 0 pc [some (.ref 0), some (.ref 63), some (.ref 76), some (.int (nI i))] [] h → LSx d n i L xs pc h bt → LSx d n i L xs 26 h bt := by
    rintro pc e ⟨h', bt', s', a, b⟩
    exact ⟨h', bt', s', by rw [sw, e]; exact a, b⟩
  by_cases hx : (xs i &&& 15).toInt < 0 ∨ 10 < (xs i &&& 15).toInt
  · exact fin 421 (g0_32d hx) ⟨h, bt, s, rfl, I.up, by omega⟩
  · have h0' : ¬ xs i &&& 15 < 0 := by
      rw [Int32.lt_iff_toInt_lt]
      have : (0 : Int32).toInt = 0 := by decide
      omega
    obtain ⟨j, hj, ej⟩ := nI_of h0'
    rw [ej, nI_toInt hj] at hx
    have hs : j = 0 ∨ j = 1 ∨ j = 2 ∨ j = 3 ∨ j = 4 ∨ j = 5 ∨ j = 6 ∨ j = 7 ∨ j = 8 ∨ j = 9 ∨ j = 10 := by omega
    rw [ej] at fin
    rcases hs with rfl | rfl | rfl | rfl | rfl | rfl | rfl | rfl | rfl | rfl | rfl
    · exact fin 92 g0_32_0 (lw_put hn hi hL I)
    · exact fin 125 g0_32_1 (lw_create hn hi hL I)
    · exact fin 138 g0_32_2 (lw_replace hn hi hL I)
    · exact fin 171 g0_32_3 (lw_patch hn hi hL I)
    · exact fin 204 g0_32_4 (lw_remove hn hi hL I)
    · exact fin 237 g0_32_5 (lw_query hn hi hL I)
    · exact fin 306 g0_32_6 (lw_page hn hi hL I)
    · exact fin 329 g0_32_7 (lw_resources hn hi hL I)
    · exact fin 342 g0_32_8 (lw_version hn hi hL I)
    · exact fin 365 g0_32_9 (lw_length hn hi hL I)
    · exact fin 388 g0_32_10 (lw_letter hn hi hL I)
/-- the loop -/
theorem lw_loop (hL : L ≤ 2560) : ∀ k n h bt s, n + k = 513 → 5 * n ≤ L → IV n (mx_scr L xs) h bt s → ∃ h', mx_G (d + 32) 0 18 [some (.ref 0), some (.ref 63), some (.ref 76), some (.int (nI (5 * n)))] [] h = some (some (.int 1), h') ∧ mw h' ≤ mw h + 2700 * bt.length + 10800 * k := by
  intro k
  induction k with
  | zero => intro n h bt s hk hn I; omega
  | succ k ih =>
    intro n h bt s hk hn I
    have h0 : h[0]? = some (mx_scr L xs) := by obtain ⟨x, x2, A3, A4, sl, C, M, B, KDh, O, h0, w⟩ := I; exact h0
    obtain ⟨t0, l0, e0⟩ := scr_f h0
    have n5 : Int32.ofNat L - 5 < nI (5 * n) ↔ L < 5 * n + 5 := by
      have e : (Int32.ofNat L - 5).toInt = (L : Int) - 5 := nI_subI (a := L) (b := 5) (by omega) (by decide)
      rw [Int32.lt_iff_toInt_lt, e, nI_toInt (by omega)]
      omega
    by_cases hc : L < 5 * n + 5
    · refine ⟨h, ?_, by omega⟩
      have q := n5.mpr hc
      rw [show Int32.ofNat L = nI L from rfl] at q
      simp only [g0_18, g0_19, g0_20 t0, g0_21, g0_22, g0_23, g0_427, g0_428, mx_isr_ref, mx_isr_null, mx_wt_nil, mx_wt_1, mx_wt_2, mx_wt_3, Option.bind_some, Option.toList_some, Option.toList_none, List.cons_append, List.nil_append, mx_nl_int, mx_nl_ref, mx_nl_null, mx_nl_none, mx_nb0, mx_nb1, mx_fb0, mx_fb1, mx_cat_int, mx_cat_ref, if_true, if_false, not_true_eq_false, not_false_eq_true, mx_wt_4, mx_w4_0, mx_w9_0, mx_w9_1, mx_kn_int, mx_kn_ref, mx_kn_null, Nat.reduceLT, ofn, n10, l0, q]
    · have hi : 5 * n + 5 ≤ L := by omega
      obtain ⟨h1, bt', s', a, b, c⟩ := lw_step (d := d) (i := 5 * n) (by omega) hi hL I
      obtain ⟨h2, i1, i2⟩ := ih (n + 1) h1 bt' s' (by omega) (by omega) b
      refine ⟨h2, ?_, by omega⟩
      have q : ¬ nI L - 5 < nI (5 * n) := fun z => hc (n5.mp z)
      have e5 : nI (5 * n) + 5 = nI (5 * (n + 1)) := nI_add (5 * n) 5
      rw [g0_18]
      simp only [g0_19, g0_20 t0, g0_21, g0_22, g0_23, mx_isr_ref, mx_isr_null, mx_wt_nil, mx_wt_1, mx_wt_2, mx_wt_3, Option.bind_some, Option.toList_some, Option.toList_none, List.cons_append, List.nil_append, mx_nl_int, mx_nl_ref, mx_nl_null, mx_nl_none, mx_nb0, mx_nb1, mx_fb0, mx_fb1, mx_cat_int, mx_cat_ref, if_true, if_false, not_true_eq_false, not_false_eq_true, mx_wt_4, mx_w4_0, mx_w9_0, mx_w9_1, mx_kn_int, mx_kn_ref, mx_kn_null, Nat.reduceLT, ofn, n10, l0, q]
      rw [a]
      simp only [g0_421, g0_424, mx_isr_ref, mx_isr_null, mx_wt_nil, mx_wt_1, mx_wt_2, mx_wt_3, Option.bind_some, Option.toList_some, Option.toList_none, List.cons_append, List.nil_append, mx_nl_int, mx_nl_ref, mx_nl_null, mx_nl_none, mx_nb0, mx_nb1, mx_fb0, mx_fb1, mx_cat_int, mx_cat_ref, if_true, if_false, not_true_eq_false, not_false_eq_true, mx_wt_4, mx_w4_0, mx_w9_0, mx_w9_1, mx_kn_int, mx_kn_ref, mx_kn_null, Nat.reduceLT, ofn, n10, e5]
      exact i1
end
