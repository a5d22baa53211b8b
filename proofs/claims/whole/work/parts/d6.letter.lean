/-! Person.writeTo; length and letter. -/
def oK (q : prs) (k : Nat) : Option (Nat × Int × List Nat) := if k = 0 then some (1, (q.1 : Int), []) else if k = 1 then some (1, (q.2.1 : Int), []) else if k = 2 then nmO (pnm q) else if k = 3 then agO (pag q) else vB (pon q)
theorem oK_3 (q : prs) (k : Nat) : ∀ y, oK q k = some y → y.1 < 3 := by
  intro y hy
  unfold oK at hy
  split at hy
  · cases hy; show 1 < 3; decide
  · split at hy
    · cases hy; show 1 < 3; decide
    · split at hy
      · unfold nmO at hy
        split at hy
        · cases hy
        · cases hy; show 2 < 3; decide
      · split at hy
        · cases h : pag q with
          | none => rw [h] at hy; cases hy
          | some v => rw [h] at hy; cases hy; show 1 < 3; decide
        · cases h : pon q with
          | none => rw [h] at hy; cases hy
          | some v => rw [h] at hy; cases hy; show 0 < 3; decide
def wFr (q : prs) : Nat → List Nat
  | 0 => wM 0 (oK q 0) ++ (wM 1 (oK q 1) ++ (wM 2 (oK q 2) ++ (wM 3 (oK q 3) ++ wM 4 (oK q 4))))
  | 1 => wM 1 (oK q 1) ++ (wM 2 (oK q 2) ++ (wM 3 (oK q 3) ++ wM 4 (oK q 4)))
  | 2 => wM 2 (oK q 2) ++ (wM 3 (oK q 3) ++ wM 4 (oK q 4))
  | 3 => wM 3 (oK q 3) ++ wM 4 (oK q 4)
  | 4 => wM 4 (oK q 4)
  | _ => []
theorem wFr_S (q : prs) {k : Nat} (hk : k < 5) : wFr q k = wM k (oK q k) ++ wFr q (k + 1) := by
  have : k = 0 ∨ k = 1 ∨ k = 2 ∨ k = 3 ∨ k = 4 := by omega
  rcases this with rfl | rfl | rfl | rfl | rfl <;> simp [wFr]
theorem wFr_0 (q : prs) : wFr q 0 = wHd q := by
  show wM 0 (some (1, (q.1 : Int), [])) ++ (wM 1 (some (1, (q.2.1 : Int), [])) ++ (wM 2 (nmO (pnm q)) ++ (wM 3 (agO (pag q)) ++ wM 4 (vB (pon q))))) = _
  unfold wHd
  simp
section
variable {d : Nat} {R : List Nat}
theorem jw_hdL {p l A cpl : Nat} {es : List Nat} {q : prs} (hb : q.1 < 2 ^ 20 ∧ q.2.1 < 2 ^ 20) : ∀ n k (h : mx_H) (x cp : Nat) (w : List Nat), n + k = 5 → WB h x cp w → PC (x :: R) h p l q → AL h l A cpl es → ITs (x :: R) h es (pit q) → fz (x :: R) l → fz (x :: R) A → (∀ e ∈ es, fz (x :: R) e) → fz (x :: R) p → w.length + (wFr q k).length ≤ 450 →
    ∃ (h' : mx_H) (x' cp' : Nat), mx_G (d + 9) 214 9 [some (.ref p), some (.ref 74), some (.int (nI k))] [] h = mx_G (d + 9) 214 30 [some (.ref p), some (.ref 74), some (.int 5)] [] h' ∧ WB h' x' cp' (w ++ wFr q k) ∧ WX h x cp h' x' cp' := by
  intro n
  induction n with
  | zero =>
    intro k h x cp w hk W C L I fl fA_ fe fp hn
    have : k = 5 := by omega
    subst this
    refine ⟨h, x, cp, ?_, by simpa [wFr] using W, WX.rfl _ _ _⟩
    simp only [g214_9, g214_10, g214_11, mx_isr_ref, mx_isr_null, mx_wt_nil, mx_wt_1, mx_wt_2, mx_wt_3, Option.bind_some, Option.toList_some, Option.toList_none, List.cons_append, List.nil_append, mx_nl_int, mx_nl_ref, mx_nl_null, mx_nl_none, mx_nb0, mx_nb1, mx_fb0, mx_fb1, mx_cat_int, mx_cat_ref, if_true, if_false, not_true_eq_false, not_false_eq_true, mx_wt_4, mx_w4_0, mx_w9_0, mx_w9_1, mx_kn_int, mx_kn_ref, mx_kn_null, Nat.reduceLT, ofn, n10, show nI 5 = 5 from rfl, show (4 : Int32) < 5 by decide]
  | succ n ih =>
    intro k h x cp w hk W C L I fl fA_ fe fp hn
    have hk5 : k < 5 := by omega
    rw [wFr_S q hk5] at hn ⊢
    rw [List.length_append] at hn
    obtain ⟨a, g1, O⟩ := jp_get (d := d + 8) C hb hk5
    obtain ⟨h1, x1, cp1, g2, W1, X1⟩ := jw_mem (d := d) W (show OV (x :: R) h a (oK q k) from O) (oK_3 q k) (k := k) (by omega) (by omega)
    obtain ⟨C1, L1, I1, fl1, fA1, fe1, fp1⟩ := PPl.keep W X1 C L I fl fA_ fe fp
    obtain ⟨h', x', cp', j1, j2, j3⟩ := ih (k + 1) h1 x1 cp1 _ (by omega) W1 C1 L1 I1 fl1 fA1 fe1 fp1 (by rw [List.length_append]; omega)
    refine ⟨h', x', cp', ?_, by rw [List.append_assoc] at j2; exact j2, X1.trans j3⟩
    have q4 : ¬ (4 : Int32) < nI k := nI_nlt (a := 4) (b := k) (by omega) (by decide)
    have tp := (PC_f C).1
    rw [← j1, g214_9]
    simp only [g214_10, g214_11, g214_14, g214_15, g214_16, g214_17, g214_18, g214_21, g214_24, g214_27, mx_isr_ref, mx_isr_null, mx_wt_nil, mx_wt_1, mx_wt_2, mx_wt_3, Option.bind_some, Option.toList_some, Option.toList_none, List.cons_append, List.nil_append, mx_nl_int, mx_nl_ref, mx_nl_null, mx_nl_none, mx_nb0, mx_nb1, mx_fb0, mx_fb1, mx_cat_int, mx_cat_ref, if_true, if_false, not_true_eq_false, not_false_eq_true, mx_wt_4, mx_w4_0, mx_w9_0, mx_w9_1, mx_kn_int, mx_kn_ref, mx_kn_null, Nat.reduceLT, ofn, n10, q4, tp, g1, O.isr, g2, nI_1]
theorem jw_pers {h : mx_H} {x cp p l A cpl : Nat} {es : List Nat} {q : prs} (hwf : wfP q) (hb : q.1 < 2 ^ 20 ∧ q.2.1 < 2 ^ 20) (W : WB h x cp []) (C : PC (x :: R) h p l q) (L : AL h l A cpl es) (I : ITs (x :: R) h es (pit q)) (fl : fz (x :: R) l) (fA_ : fz (x :: R) A) (fe : ∀ e ∈ es, fz (x :: R) e) (fp : fz (x :: R) p) :
    ∃ (h' : mx_H) (x' cp' : Nat), mx_G (d + 11) 214 0 [some (.ref p), some (.ref 74), none] [] h = some (none, h') ∧ WB h' x' cp' (wP q) ∧ WX h x cp h' x' cp' := by
  have hlen := wP_450 hwf
  have hnn : pnm q ≠ [] := fun z => by have := hwf.1.1; rw [z] at this; simp at this
  rw [wP_M hnn]
  obtain ⟨h1, x1, cp1, g1, W1, X1⟩ := jw_c (d := d + 5) W (c := 123) (by decide) (by simp)
  rw [show nI 123 = 123 from rfl] at g1
  obtain ⟨C1, L1, I1, fl1, fA1, fe1, fp1⟩ := PPl.keep W X1 C L I fl fA_ fe fp
  obtain ⟨h2, x2, cp2, g2, W2, X2⟩ := jw_hdL (d := d + 2) hb 5 0 h1 x1 cp1 _ (by omega) W1 C1 L1 I1 fl1 fA1 fe1 fp1 (by rw [wFr_0]; simp; omega)
  rw [wFr_0] at W2
  obtain ⟨C2, L2, I2, fl2, fA2, fe2, fp2⟩ := PPl.keep W1 X2 C1 L1 I1 fl1 fA1 fe1 fp1
  obtain ⟨tp2, lp2, p62, -⟩ := PC_f C2
  have em := jl_empty (d := d + 10) L2
  have hes : es = [] ↔ pit q = [] := by
    have := I.1
    constructor
    · intro z; rw [z] at this; exact List.eq_nil_of_length_eq_zero this.symm
    · intro z; rw [z] at this; exact List.eq_nil_of_length_eq_zero this
  -- perhaps the items
  obtain ⟨h3, x3, cp3, g3, W3, X3⟩ : ∃ (h3 : mx_H) (x3 cp3 : Nat), mx_G (d + 11) 214 30 [some (.ref p), some (.ref 74), some (.int 5)] [] h2 = mx_G (d + 11) 214 45 [some (.ref p), some (.ref 74), some (.int 5)] [] h3 ∧ WB h3 x3 cp3 ([123] ++ wHd q ++ wMail (pit q)) ∧ WX h2 x2 cp2 h3 x3 cp3 := by
    by_cases c : pit q = []
    · have e0 : wMail (pit q) = [] := by unfold wMail; rw [if_pos c]
      rw [e0, List.append_nil]
      rw [if_pos (hes.mpr c)] at em
      refine ⟨h2, x2, cp2, ?_, by simpa using W2, WX.rfl _ _ _⟩
      simp only [g214_30, g214_31, g214_34, g214_37, mx_isr_ref, mx_isr_null, mx_wt_nil, mx_wt_1, mx_wt_2, mx_wt_3, Option.bind_some, Option.toList_some, Option.toList_none, List.cons_append, List.nil_append, mx_nl_int, mx_nl_ref, mx_nl_null, mx_nl_none, mx_nb0, mx_nb1, mx_fb0, mx_fb1, mx_cat_int, mx_cat_ref, if_true, if_false, not_true_eq_false, not_false_eq_true, mx_wt_4, mx_w4_0, mx_w9_0, mx_w9_1, mx_kn_int, mx_kn_ref, mx_kn_null, Nat.reduceLT, ofn, n10, tp2, lp2, p62, (AL_f L2).1, em]
    · have e0 : wMail (pit q) = kts.getD 27 [] ++ tlI 0 (pit q) ++ [93] := by unfold wMail; rw [if_neg c]
      have e27 : (kts.getD 27 []).length = 9 := rfl
      rw [if_neg (fun z => c (hes.mp z))] at em
      rw [e0] at hlen ⊢
      simp only [List.length_append, List.length_cons, List.length_nil, e27] at hlen
      have hi4 : (pit q).length ≤ 4 := hwf.2.2.1
      obtain ⟨h3, x3, cp3, a1, a2, a3⟩ := jw_k (d := d + 4) W2 (k := 27) (by decide) (by simp only [List.length_append, List.length_cons, List.length_nil, e27]; omega)
      obtain ⟨C3, L3, I3, fl3, fA3, fe3, fp3⟩ := PPl.keep W2 a3 C2 L2 I2 fl2 fA2 fe2 fp2
      obtain ⟨h4, x4, cp4, b1, b2, b3⟩ := jw_mailL (d := d) (R := R) (by omega) (pit q).length 0 h3 x3 cp3 _ (by omega) a2 C3 L3 I3 fl3 fA3 fe3 fp3 (by simp only [List.length_append, List.length_cons, List.length_nil, e27, List.drop_zero]; omega)
      rw [List.drop_zero] at b2
      obtain ⟨h5, x5, cp5, c1, c2, c3⟩ := jw_c (d := d + 4) b2 (c := 93) (by decide) (by simp only [List.length_append, List.length_cons, List.length_nil, e27]; omega)
      rw [show nI 93 = 93 from rfl] at c1
      refine ⟨h5, x5, cp5, ?_, by simpa using c2, (a3.trans b3).trans c3⟩
      have k231 : mx_G (d + 10) 231 0 [some (.ref p), some (.ref 74), none] [] h2 = some (none, h5) := by
        rw [nI_0] at b1
        simp only [g231_0, g231_1, g231_3, g231_6, g231_7, g231_8, mx_isr_ref, mx_isr_null, mx_wt_nil, mx_wt_1, mx_wt_2, mx_wt_3, Option.bind_some, Option.toList_some, Option.toList_none, List.cons_append, List.nil_append, mx_nl_int, mx_nl_ref, mx_nl_null, mx_nl_none, mx_nb0, mx_nb1, mx_fb0, mx_fb1, mx_cat_int, mx_cat_ref, if_true, if_false, not_true_eq_false, not_false_eq_true, mx_wt_4, mx_w4_0, mx_w9_0, mx_w9_1, mx_kn_int, mx_kn_ref, mx_kn_null, Nat.reduceLT, ofn, n10, W2.tag, a1]
        rw [b1]
        simp only [g231_52, g231_53, g231_55, g231_58, g231_59, mx_isr_ref, mx_isr_null, mx_wt_nil, mx_wt_1, mx_wt_2, mx_wt_3, Option.bind_some, Option.toList_some, Option.toList_none, List.cons_append, List.nil_append, mx_nl_int, mx_nl_ref, mx_nl_null, mx_nl_none, mx_nb0, mx_nb1, mx_fb0, mx_fb1, mx_cat_int, mx_cat_ref, if_true, if_false, not_true_eq_false, not_false_eq_true, mx_wt_4, mx_w4_0, mx_w9_0, mx_w9_1, mx_kn_int, mx_kn_ref, mx_kn_null, Nat.reduceLT, ofn, n10, b2.tag, c1]
      simp only [g214_30, g214_31, g214_34, g214_37, g214_40, g214_41, g214_42, mx_isr_ref, mx_isr_null, mx_wt_nil, mx_wt_1, mx_wt_2, mx_wt_3, Option.bind_some, Option.toList_some, Option.toList_none, List.cons_append, List.nil_append, mx_nl_int, mx_nl_ref, mx_nl_null, mx_nl_none, mx_nb0, mx_nb1, mx_fb0, mx_fb1, mx_cat_int, mx_cat_ref, if_true, if_false, not_true_eq_false, not_false_eq_true, mx_wt_4, mx_w4_0, mx_w9_0, mx_w9_1, mx_kn_int, mx_kn_ref, mx_kn_null, Nat.reduceLT, ofn, n10, tp2, lp2, p62, (AL_f L2).1, em, k231]
  obtain ⟨h4, x4, cp4, g4, W4, X4⟩ := jw_c (d := d + 5) W3 (c := 125) (by decide) (by simp only [List.length_append, List.length_cons, List.length_nil]; omega)
  rw [show nI 125 = 125 from rfl] at g4
  refine ⟨h4, x4, cp4, ?_, W4, ((X1.trans X2).trans X3).trans X4⟩
  rw [nI_0] at g2
  simp only [g214_0, g214_1, g214_3, g214_6, g214_7, g214_8, mx_isr_ref, mx_isr_null, mx_wt_nil, mx_wt_1, mx_wt_2, mx_wt_3, Option.bind_some, Option.toList_some, Option.toList_none, List.cons_append, List.nil_append, mx_nl_int, mx_nl_ref, mx_nl_null, mx_nl_none, mx_nb0, mx_nb1, mx_fb0, mx_fb1, mx_cat_int, mx_cat_ref, if_true, if_false, not_true_eq_false, not_false_eq_true, mx_wt_4, mx_w4_0, mx_w9_0, mx_w9_1, mx_kn_int, mx_kn_ref, mx_kn_null, Nat.reduceLT, ofn, n10, W.tag, g1]
  rw [g2, g3]
  simp only [g214_45, g214_46, g214_48, g214_51, g214_52, mx_isr_ref, mx_isr_null, mx_wt_nil, mx_wt_1, mx_wt_2, mx_wt_3, Option.bind_some, Option.toList_some, Option.toList_none, List.cons_append, List.nil_append, mx_nl_int, mx_nl_ref, mx_nl_null, mx_nl_none, mx_nb0, mx_nb1, mx_fb0, mx_fb1, mx_cat_int, mx_cat_ref, if_true, if_false, not_true_eq_false, not_false_eq_true, mx_wt_4, mx_w4_0, mx_w9_0, mx_w9_1, mx_kn_int, mx_kn_ref, mx_kn_null, Nat.reduceLT, ofn, n10, W3.tag, g4]
end
section
variable {d : Nat} {h : mx_H} {x x2 A3 A4 : Nat} {bt : List Nat} {s : sto}
theorem cSt_wr {h' : mx_H} {x2' : Nat} (C : cSt h x x2 A3 A4 bt s) (f : Fr [74, x2] h h') (hx : x2' = x2 ∨ h.length ≤ x2') (W : wrS h' x2') : cSt h' x x2' A3 A4 bt s := by
  obtain ⟨r1, r2⟩ := cSt_R C
  obtain ⟨K, hl, hp, hb, hpl, hf, hg, hw, hm⟩ := C
  obtain ⟨n2, us2, S2, hx2⟩ := hw
  obtain ⟨ls, ks, ss, es, t, c, n, us, BB, q1, S, q2, q3, q4⟩ := id hb
  obtain ⟨cp3, es3, L3, p3⟩ := id hpl
  obtain ⟨cp4, es4, L4, e4, n4⟩ := hf
  obtain ⟨l, g1, g2⟩ := hg
  have E : Ex (x :: mR x2 A3 A4) h (x :: mR x2' A3 A4) h' := f.ex (fun a ha z => by
    simp only [List.mem_cons, List.not_mem_nil, or_false] at ha
    rcases ha with rfl | rfl
    · exact z.1 (by omega)
    · exact z.2 (by unfold mR; simp)) (fun a ha => by
    unfold mR at ha ⊢
    simp only [List.mem_cons] at ha ⊢
    rcases ha with y | y | y
    · exact Or.inl (Or.inl y)
    · rcases hx with w | w
      · exact Or.inl (Or.inr (Or.inl (by rw [y, w])))
      · exact Or.inr (by omega)
    · exact Or.inl (Or.inr (Or.inr y)))
  have keep : ∀ a, a < h.length → a ≠ x2 → a ≠ 74 → h'[a]? = h[a]? := fun a ha h1 h2 => f.2 a ha (by
    simp only [List.mem_cons, List.not_mem_nil, or_false]
    omega)
  have hby := ce_t S2.2.1
  have nA3 : A3 ≠ x2 := by rintro rfl; rw [ce_t L3.2.1] at hby; cases hby
  have nA4 : A4 ≠ x2 := by rintro rfl; rw [ce_t L4.2.1] at hby; cases hby
  have hm3 := hm.2.1
  have hm4 := hm.2.2.1
  refine ⟨K.fr f (fun a ha => by simp only [List.mem_cons, List.not_mem_nil, or_false] at ha; omega), Nat.le_trans hl f.1, ?_, bufS_fr hb f (fun a ha => ?_), hpl.ex E (keep 71 (by omega) (by omega) (by omega)) (keep A3 (ce_l L3.2.1) nA3 (by omega)), ⟨cp4, es4, AL_cells L4 (keep 72 (by omega) (by omega) (by omega)) (keep A4 (ce_l L4.2.1) nA4 (by omega)), fun e he => ⟨?_, (e4 e he).2⟩, n4⟩, ⟨l, by rw [keep 73 (by omega) (by omega) (by omega)]; exact g1, g2⟩, W, ?_⟩
  · unfold pS
    rw [keep 63 (by omega) (by omega) (by omega)]
    exact hp
  · have := hm.1
    simp only [List.mem_cons, List.not_mem_nil, or_false] at ha
    omega
  · have h1 := (e4 e he).1
    have h2 := (e4 e he).2
    have : e ≠ x2 := by
      rintro rfl
      rcases h1 with z | z <;> (rw [z] at hby; cases hby)
    exact elt_fr h1 f (by
      simp only [List.mem_cons, List.not_mem_nil, or_false]
      omega)
  · refine ⟨?_, hm.2⟩
    rcases hx with w | w
    · rw [w]; exact hm.1
    · have := (r2 x List.mem_cons_self).2
      omega
/-- the person at k is written -/
theorem jq_write (C : cSt h x x2 A3 A4 bt s) (KDh : KD h) (hwf : ∀ p ∈ s.1, wfP p) (hb : ∀ p ∈ s.1, p.1 < 2 ^ 20 ∧ p.2.1 < 2 ^ 20) {k : Nat} (hk : k < s.1.length) : ∃ (h' : mx_H) (x2' cp' : Nat), mx_G (d + 12) 213 0 [some (.ref 63), some (.int (nI k))] [] h = some (none, h') ∧ WB h' x2' cp' (wP (pAt' s.1 k)) ∧ cSt h' x x2' A3 A4 bt s ∧ Fr [74, x2] h h' ∧ mw h' ≤ mw h + 3000 := by
  obtain ⟨s1, s2, s3, s4, s5, s6, s7, -⟩ := pS_f C.2.2.1
  obtain ⟨r1, r2⟩ := cSt_R C
  obtain ⟨n2, us2, S2, hx2⟩ := C.2.2.2.2.2.2.2.1
  obtain ⟨h1, a1, a2, a3, a4⟩ := jb_set0 (d := d + 6) S2
  have hx63 := S2.2.2.2.2.2.1
  have W1 : WB h1 x2 us2.length [] := ⟨us2, a2, rfl, by simp, hx2, C.1.fr a3 (by simp), KDh.fr a3 (by simp), Nat.le_trans C.2.1 a3.1⟩
  have C1 : cSt h1 x x2 A3 A4 bt s := cSt_wr C (a3.mono (by simp)) (Or.inl rfl) ⟨0, us2, a2, hx2⟩
  obtain ⟨cp, es, L, hle, h8, P⟩ := C1.2.2.2.2.1
  obtain ⟨⟨l, Ck, A, cpl, esl, Ll, Il, f1, f2, f3⟩, f0⟩ := P k hk
  -- the builder's row first
  have hs : ∀ a, a ∈ x2 :: x :: (fA0 A3 ++ fA0 A4) ↔ a ∈ x :: mR x2 A3 A4 := by
    intro a
    unfold mR
    simp only [List.mem_cons]
    constructor
    · rintro (y | y | y)
      · exact Or.inr (Or.inl y)
      · exact Or.inl y
      · exact Or.inr (Or.inr y)
    · rintro (y | y | y)
      · exact Or.inr (Or.inl y)
      · exact Or.inl y
      · exact Or.inr (Or.inr y)
  have E := Ex.sub h1 (M := x :: mR x2 A3 A4) (M' := x2 :: x :: (fA0 A3 ++ fA0 A4)) (fun a ha => (hs a).mp ha)
  have fzc : ∀ a, fz (x :: mR x2 A3 A4) a → fz (x2 :: x :: (fA0 A3 ++ fA0 A4)) a := fun a ha => fz_sub ha (fun b hb => (hs b).mp hb)
  obtain ⟨h2, x2', cp2, b1, b2, b3⟩ := jw_pers (d := d) (R := x :: (fA0 A3 ++ fA0 A4)) (hwf _ (pAt_mem hk)) (hb _ (pAt_mem hk)) W1 (Ck.ex E rfl) Ll (Il.ex E (fun _ _ => rfl)) (fzc _ f1) (fzc _ f2) (fun e he => fzc _ (f3 e he)) (fzc _ f0)
  have F : Fr [74, x2] h h2 := (a3.mono (by simp)).trans b3.1 (fun a ha => Or.inl ha)
  have l1 := a3.1
  have W2 : wrS h2 x2' := by
    obtain ⟨us, S, -, -, hx, -⟩ := b2
    exact ⟨_, us, S, hx⟩
  refine ⟨h2, x2', cp2, ?_, b2, cSt_wr C F (b3.2.1.elim Or.inl (fun z => Or.inr (by omega))) W2, F, ?_⟩
  · obtain ⟨u1, u2, u3, u4, u5, u6, u7, -⟩ := pS_f C1.2.2.1
    have G1 := jl_get (d := d + 9) L (show k < es.length by omega)
    have tk_ := (PC_f Ck).1
    simp only [g213_0, g213_1, g213_4, g213_5, g213_8, g213_9, g213_12, g213_13, g213_16n, g213_16, g213_19, g213_20, g213_23, g213_26, mx_isr_ref, mx_isr_null, mx_wt_nil, mx_wt_1, mx_wt_2, mx_wt_3, Option.bind_some, Option.toList_some, Option.toList_none, List.cons_append, List.nil_append, mx_nl_int, mx_nl_ref, mx_nl_null, mx_nl_none, mx_nb0, mx_nb1, mx_fb0, mx_fb1, mx_cat_int, mx_cat_ref, if_true, if_false, not_true_eq_false, not_false_eq_true, mx_wt_4, mx_w4_0, mx_w9_0, mx_w9_1, mx_kn_int, mx_kn_ref, mx_kn_null, Nat.reduceLT, ofn, n10, s1, s2, s7, (SB_f S2).1, a1, u1, u2, u4, u7, (AL_f L).1, G1, tk_, b1]
  · have := b3.2.2
    have hc : cp2 ≤ 1000 := by obtain ⟨us, S, c, -⟩ := b2; have := S.2.2.2.2.1; omega
    omega
theorem jq_length (C : cSt h x x2 A3 A4 bt s) (KDh : KD h) (hwf : ∀ p ∈ s.1, wfP p) (hb : ∀ p ∈ s.1, p.1 < 2 ^ 20 ∧ p.2.1 < 2 ^ 20) (id : Int32) : ∃ (h' : mx_H) (x2' : Nat), mx_G (d + 13) 212 0 [some (.ref 63), some (.int id), none] [] h = some (some (.int (Int32.ofInt (s_length s id.toInt))), h') ∧ cSt h' x x2' A3 A4 bt s ∧ mdl h h' ∧ KD h' ∧ mw h' ≤ mw h + 3000 := by
  obtain ⟨s1, s2, -⟩ := pS_f C.2.2.1
  obtain ⟨r1, r2⟩ := cSt_R C
  have hx2 : x2 = 75 ∨ 102 ≤ x2 := by obtain ⟨_, _, _, z⟩ := C.2.2.2.2.2.2.2.1; exact z
  unfold s_length
  rcases jq_place (d := d + 9) C.2.2.1 C.2.2.2.2.1 (fun p hp => (hb p hp).1) id with ⟨k, hk, g, e, -, -⟩ | ⟨e, g⟩
  · rw [e]
    obtain ⟨h1, x2', cp', a1, a2, a3, a4, a5⟩ := jq_write (d := d) C KDh hwf hb hk
    have h8 : s.1.length ≤ 8 := by obtain ⟨cp, es, L, hle, h8, -⟩ := C.2.2.2.2.1; exact h8
    refine ⟨h1, x2', ?_, a3, a4.mdl C.2.1 (fun a ha => by simp only [List.mem_cons, List.not_mem_nil, or_false] at ha; omega), KDh.fr a4 (fun a ha => by simp only [List.mem_cons, List.not_mem_nil, or_false] at ha; omega), a5⟩
    obtain ⟨u1, u2, u3, u4, u5, u6, u7, -⟩ := pS_f a3.2.2.1
    have a2' := a2
    obtain ⟨us, S, -⟩ := a2'
    have Lg := jb_length (d := d + 11) S
    simp only [g212_0, g212_1, g212_2, g212_5, g212_6, g212_7, g212_8, g212_11, g212_14, g212_15, g212_16, g212_17, g212_20, g212_21, g212_24, g212_27, mx_isr_ref, mx_isr_null, mx_wt_nil, mx_wt_1, mx_wt_2, mx_wt_3, Option.bind_some, Option.toList_some, Option.toList_none, List.cons_append, List.nil_append, mx_nl_int, mx_nl_ref, mx_nl_null, mx_nl_none, mx_nb0, mx_nb1, mx_fb0, mx_fb1, mx_cat_int, mx_cat_ref, if_true, if_false, not_true_eq_false, not_false_eq_true, mx_wt_4, mx_w4_0, mx_w9_0, mx_w9_1, mx_kn_int, mx_kn_ref, mx_kn_null, Nat.reduceLT, ofn, n10, s1, g, k_ne1 (show k < 8 by omega), a1, u1, u2, u7, a2.tag, Lg]
    rw [oI_nat]
  · rw [e]
    refine ⟨h, x2, ?_, C, mdl.rfl h, KDh, by omega⟩
    simp only [g212_0, g212_1, g212_2, g212_5, g212_6, g212_7, g212_8, g212_11, g212_14, g212_15, g212_16, g212_17, g212_20, g212_21, g212_24, g212_27, mx_isr_ref, mx_isr_null, mx_wt_nil, mx_wt_1, mx_wt_2, mx_wt_3, Option.bind_some, Option.toList_some, Option.toList_none, List.cons_append, List.nil_append, mx_nl_int, mx_nl_ref, mx_nl_null, mx_nl_none, mx_nb0, mx_nb1, mx_fb0, mx_fb1, mx_cat_int, mx_cat_ref, if_true, if_false, not_true_eq_false, not_false_eq_true, mx_wt_4, mx_w4_0, mx_w9_0, mx_w9_1, mx_kn_int, mx_kn_ref, mx_kn_null, Nat.reduceLT, ofn, n10, s1, g, show ¬ (¬ (-1 : Int32) = -1) by decide]
    rfl
theorem jq_letter (C : cSt h x x2 A3 A4 bt s) (KDh : KD h) (hwf : ∀ p ∈ s.1, wfP p) (hb : ∀ p ∈ s.1, p.1 < 2 ^ 20 ∧ p.2.1 < 2 ^ 20) (id kk : Int32) : ∃ (h' : mx_H) (x2' : Nat), mx_G (d + 13) 233 0 [some (.ref 63), some (.int id), some (.int kk), none] [] h = some (some (.int (Int32.ofInt (s_letter s id.toInt kk.toInt))), h') ∧ cSt h' x x2' A3 A4 bt s ∧ mdl h h' ∧ KD h' ∧ mw h' ≤ mw h + 3000 := by
  obtain ⟨s1, s2, -⟩ := pS_f C.2.2.1
  obtain ⟨r1, r2⟩ := cSt_R C
  have hx2 : x2 = 75 ∨ 102 ≤ x2 := by obtain ⟨_, _, _, z⟩ := C.2.2.2.2.2.2.2.1; exact z
  unfold s_letter
  rcases jq_place (d := d + 9) C.2.2.1 C.2.2.2.2.1 (fun p hp => (hb p hp).1) id with ⟨k, hk, g, e, -, -⟩ | ⟨e, g⟩
  · rw [e]
    have h8 : s.1.length ≤ 8 := by obtain ⟨cp, es, L, hle, h8, -⟩ := C.2.2.2.2.1; exact h8
    simp only
    by_cases c0 : kk < 0
    · rw [if_pos (by rw [Int32.lt_iff_toInt_lt] at c0; exact c0)]
      refine ⟨h, x2, ?_, C, mdl.rfl h, KDh, by omega⟩
      have q : ¬ 0 ≤ kk := by
        rw [Int32.lt_iff_toInt_lt] at c0
        rw [Int32.le_iff_toInt_le]
        omega
      simp only [g233_0, g233_1, g233_2, g233_5, g233_6, g233_7, g233_8, g233_11, g233_12, g233_15, g233_16, mx_isr_ref, mx_isr_null, mx_wt_nil, mx_wt_1, mx_wt_2, mx_wt_3, Option.bind_some, Option.toList_some, Option.toList_none, List.cons_append, List.nil_append, mx_nl_int, mx_nl_ref, mx_nl_null, mx_nl_none, mx_nb0, mx_nb1, mx_fb0, mx_fb1, mx_cat_int, mx_cat_ref, if_true, if_false, not_true_eq_false, not_false_eq_true, mx_wt_4, mx_w4_0, mx_w9_0, mx_w9_1, mx_kn_int, mx_kn_ref, mx_kn_null, Nat.reduceLT, ofn, n10, s1, g, k_ne1 (show k < 8 by omega), q]
      rfl
    · obtain ⟨j, hj, rfl⟩ := nI_of c0
      rw [nI_toInt hj, if_neg (by omega)]
      obtain ⟨h1, x2', cp', a1, a2, a3, a4, a5⟩ := jq_write (d := d) C KDh hwf hb hk
      refine ⟨h1, x2', ?_, a3, a4.mdl C.2.1 (fun a ha => by simp only [List.mem_cons, List.not_mem_nil, or_false] at ha; omega), KDh.fr a4 (fun a ha => by simp only [List.mem_cons, List.not_mem_nil, or_false] at ha; omega), a5⟩
      obtain ⟨u1, u2, u3, u4, u5, u6, u7, -⟩ := pS_f a3.2.2.1
      have a2' := a2
      obtain ⟨us, S, -, ht, -⟩ := a2'
      have Lg := jb_length (d := d + 11) S
      have hwl : (wP (pAt' s.1 k)).length < 2 ^ 31 := by have := S.2.2.2.1; have := S.2.2.2.2.1; omega
      rw [show ((j : Int)).toNat = j by omega]
      by_cases cj : (wP (pAt' s.1 k)).length ≤ j
      · have e0 : (wP (pAt' s.1 k)).getD j 0 = 0 := by rw [List.getD_eq_getElem?_getD, List.getElem?_eq_none cj]; rfl
        simp only [g233_0, g233_1, g233_2, g233_5, g233_6, g233_7, g233_8, g233_11, g233_12, g233_15, g233_16, g233_17, g233_18, g233_19, g233_22, g233_23, g233_24, g233_27, g233_30, g233_33, g233_34, g233_37, g233_38, g233_41, g233_44, g233_45, mx_isr_ref, mx_isr_null, mx_wt_nil, mx_wt_1, mx_wt_2, mx_wt_3, Option.bind_some, Option.toList_some, Option.toList_none, List.cons_append, List.nil_append, mx_nl_int, mx_nl_ref, mx_nl_null, mx_nl_none, mx_nb0, mx_nb1, mx_fb0, mx_fb1, mx_cat_int, mx_cat_ref, if_true, if_false, not_true_eq_false, not_false_eq_true, mx_wt_4, mx_w4_0, mx_w9_0, mx_w9_1, mx_kn_int, mx_kn_ref, mx_kn_null, Nat.reduceLT, ofn, n10, s1, g, k_ne1 (show k < 8 by omega), nI_pos' hj, a1, u1, u2, u7, a2.tag, Lg, nI_leI hwl hj, cj, e0]
        rfl
      · have Ch := jb_char (d := d + 9) S (k := j) (by omega)
        have e1 : us.getD j 0 = (wP (pAt' s.1 k)).getD j 0 := by
          have this : (us.take (wP (pAt' s.1 k)).length).getD j 0 = (wP (pAt' s.1 k)).getD j 0 := congrArg (fun l : List Nat => l.getD j 0) ht
          rw [← this, List.getD_eq_getElem?_getD, List.getD_eq_getElem?_getD, List.getElem?_take, if_pos (by omega)]
        rw [e1] at Ch
        simp only [g233_0, g233_1, g233_2, g233_5, g233_6, g233_7, g233_8, g233_11, g233_12, g233_15, g233_16, g233_17, g233_18, g233_19, g233_22, g233_23, g233_24, g233_27, g233_30, g233_33, g233_34, g233_37, g233_38, g233_41, g233_44, g233_45, mx_isr_ref, mx_isr_null, mx_wt_nil, mx_wt_1, mx_wt_2, mx_wt_3, Option.bind_some, Option.toList_some, Option.toList_none, List.cons_append, List.nil_append, mx_nl_int, mx_nl_ref, mx_nl_null, mx_nl_none, mx_nb0, mx_nb1, mx_fb0, mx_fb1, mx_cat_int, mx_cat_ref, if_true, if_false, not_true_eq_false, not_false_eq_true, mx_wt_4, mx_w4_0, mx_w9_0, mx_w9_1, mx_kn_int, mx_kn_ref, mx_kn_null, Nat.reduceLT, ofn, n10, s1, g, k_ne1 (show k < 8 by omega), nI_pos' hj, a1, u1, u2, u7, a2.tag, Lg, nI_leI hwl hj, cj, Ch]
        rw [oI_nat]
  · rw [e]
    refine ⟨h, x2, ?_, C, mdl.rfl h, KDh, by omega⟩
    simp only [g233_0, g233_1, g233_2, g233_5, g233_6, g233_7, g233_8, g233_11, g233_12, g233_15, g233_16, mx_isr_ref, mx_isr_null, mx_wt_nil, mx_wt_1, mx_wt_2, mx_wt_3, Option.bind_some, Option.toList_some, Option.toList_none, List.cons_append, List.nil_append, mx_nl_int, mx_nl_ref, mx_nl_null, mx_nl_none, mx_nb0, mx_nb1, mx_fb0, mx_fb1, mx_cat_int, mx_cat_ref, if_true, if_false, not_true_eq_false, not_false_eq_true, mx_wt_4, mx_w4_0, mx_w9_0, mx_w9_1, mx_kn_int, mx_kn_ref, mx_kn_null, Nat.reduceLT, ofn, n10, s1, g]
    rfl
end
