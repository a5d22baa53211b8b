section
variable {d : Nat} {h : mx_H}
theorem wr_truth {wn : Int32} {b : Bool} : wr h wn (fun h1 => mx_G (d + 1) 334 0 [some (.ref 76), some (.long (if b = true then 407354 else 3217595)), none, none, none, none, none] [] h1) (wB b) := by
  cases b with
  | true => exact wr_word (l := w_true) (by decide) (by decide) (by decide) (by decide)
  | false => exact wr_word (l := w_false) (by decide) (by decide) (by decide) (by decide)
def itP (k : Nat) (x : itm) : List Nat := [if k = 0 then 91 else 44] ++ wIt x
theorem wr_item {wn : Int32} {s k : Nat} {p : prs} (R : rcP h s p) (W : wfP p) (hs : s ≤ 8) (hk : k < (pit p).length) : wr h wn (fun h1 => mx_G (d + 3) 337 0 [some (.ref 76), some (.int (nI s)), some (.int (nI k)), none] [] h1) (itP k (iG (pit p) k)) := by
  intro h1 out S hlen
  have h4 := W.2.2.1
  have T := S.1.1
  have im := rm_item (d := d + 2) (h := h1) (k := k)
  have e2 : nI (20 + 14 * k) + 13 = nI (20 + 14 * k + 13) := nI_add _ 13
  have fp := rm_f (d := d + 2) T (s := s) (o := 20 + 14 * k + 13) (by omega)
  have rp : mi h1 77 (80 * s + (20 + 14 * k + 13)) = nI (pB (iG (pit p) k).2) := by
    have := (rc_mf R S.1 fun _ => rfl).2 k hk 13 (by decide)
    rw [show 80 * s + (20 + 14 * k + 13) = 80 * s + 20 + 14 * k + 13 by omega, this]
    rfl
  rw [rp] at fp
  have TX := fun {h2 : mx_H} (m : mf Pw h h2) => txR_mf (txR_it R W hs hk) m fun _ => rfl
  have hlen' : out.length + (1 + (1 + (wN w_v).length + (wT (iG (pit p) k).1).length + (match (iG (pit p) k).2 with | none => [] | some b => [44] ++ wN w_p ++ wB b).length + 1)) < 2 ^ 20 := by
    unfold itP wIt at hlen
    simp only [List.length_append, List.length_cons, List.length_nil] at hlen
    omega
  obtain ⟨h2, r2, S2⟩ := wr_out (d := d + 2) (c := if k = 0 then 91 else 44) h1 out S (by simp only [List.length_append, List.length_cons, List.length_nil]; omega)
  obtain ⟨h3, r3, S3⟩ := wr_out (d := d + 2) (c := 123) h2 _ S2 (by simp only [List.length_append, List.length_cons, List.length_nil]; omega)
  obtain ⟨h4', r4, S4⟩ := wr_name (d := d) (l := w_v) (by decide) (by decide) (by decide) (u := 22) (by decide) h3 _ S3 (by simp only [List.length_append, List.length_cons, List.length_nil]; omega)
  have im4 := rm_item (d := d + 2) (h := h4') (k := k)
  obtain ⟨h5, r5, S5⟩ := wr_text (d := d + 1) (txR_it R W hs hk) h4' _ S4 (by simp only [List.length_append, List.length_cons, List.length_nil]; omega)
  have T2 := S2.1.1
  have T3 := S3.1.1
  have T4 := S4.1.1
  have T5 := S5.1.1
  rw [show nI 123 = 123 from rfl] at r3
  have st : mx_G (d + 3) 337 0 [some (.ref 76), some (.int (nI s)), some (.int (nI k)), none] [] h1 = mx_G (d + 3) 337 52 [some (.ref 76), some (.int (nI s)), some (.int (nI k)), some (.int (nI (pB (iG (pit p) k).2)))] [] h5 := by
    by_cases c : k = 0
    · have e : nI k = 0 := by rw [c]; rfl
      rw [if_pos c, show nI 91 = 91 from rfl] at r2
      simp only [r337_0, r337_1, r337_2, r337_3, r337_4, r337_7, r337_9, r337_10, r337_13, r337_14, r337_15, r337_16, r337_19, r337_21, r337_24, r337_26, r337_29, r337_30, r337_32, r337_35, r337_36, r337_39, r337_42, r337_43, r337_44, r337_45, r337_46, r337_49, mx_isr_ref, mx_isr_null, mx_wt_nil, mx_wt_1, mx_wt_2, mx_wt_3, Option.bind_some, Option.toList_some, Option.toList_none, List.cons_append, List.nil_append, mx_nl_int, mx_nl_ref, mx_nl_null, mx_nl_none, mx_nb0, mx_nb1, mx_fb0, mx_fb1, mx_cat_int, mx_cat_ref, if_true, if_false, not_true_eq_false, not_false_eq_true, T, T2, T3, T4, im, e2, fp, eq_true e, r2, r3, r4, im4, r5]
    · have e : ¬ nI k = 0 := nI_ne0 (by omega) (by omega)
      rw [if_neg c, show nI 44 = 44 from rfl] at r2
      simp only [r337_0, r337_1, r337_2, r337_3, r337_4, r337_7, r337_9, r337_10, r337_13, r337_14, r337_15, r337_16, r337_19, r337_21, r337_24, r337_26, r337_29, r337_30, r337_32, r337_35, r337_36, r337_39, r337_42, r337_43, r337_44, r337_45, r337_46, r337_49, mx_isr_ref, mx_isr_null, mx_wt_nil, mx_wt_1, mx_wt_2, mx_wt_3, Option.bind_some, Option.toList_some, Option.toList_none, List.cons_append, List.nil_append, mx_nl_int, mx_nl_ref, mx_nl_null, mx_nl_none, mx_nb0, mx_nb1, mx_fb0, mx_fb1, mx_cat_int, mx_cat_ref, if_true, if_false, not_true_eq_false, not_false_eq_true, T, T2, T3, T4, im, e2, fp, e, r2, r3, r4, im4, r5]
  show ∃ h', mx_G (d + 3) 337 0 [some (.ref 76), some (.int (nI s)), some (.int (nI k)), none] [] h1 = _ ∧ _
  rw [st]
  have asm : ∀ y : List Nat, (match (iG (pit p) k).2 with | none => [] | some b => [44] ++ wN w_p ++ wB b) = y → out ++ [if k = 0 then 91 else 44] ++ [123] ++ wN w_v ++ wT (iG (pit p) k).1 ++ y ++ [125] = out ++ itP k (iG (pit p) k) := by
    intro y hy
    subst hy
    unfold itP wIt
    simp only [List.append_assoc]
    cases (iG (pit p) k).2 <;> rfl
  cases z : (iG (pit p) k).2 with
  | none =>
    rw [z] at hlen'
    simp only [List.length_nil] at hlen'
    obtain ⟨h6, r6, S6⟩ := wr_out (d := d + 2) (c := 125) h5 _ S5 (by simp only [List.length_append, List.length_cons, List.length_nil]; omega)
    rw [show nI 125 = 125 from rfl] at r6
    refine ⟨h6, ?_, by rw [← asm [] (by rw [z])]; simpa using S6⟩
    simp only [r337_52, r337_53, r337_56, r337_57, r337_59, r337_62, r337_63, r337_66, r337_69, r337_70, r337_71, r337_72, r337_75, r337_78, r337_81, r337_84, r337_87, r337_88, r337_90, r337_93, mx_isr_ref, mx_isr_null, mx_wt_nil, mx_wt_1, mx_wt_2, mx_wt_3, Option.bind_some, Option.toList_some, Option.toList_none, List.cons_append, List.nil_append, mx_nl_int, mx_nl_ref, mx_nl_null, mx_nl_none, mx_nb0, mx_nb1, mx_fb0, mx_fb1, mx_cat_int, mx_cat_ref, if_true, if_false, not_true_eq_false, not_false_eq_true, T5, r6, show nI (pB none) ≤ 0 by decide]
  | some b =>
    rw [z] at hlen'
    simp only [List.length_append, List.length_cons, List.length_nil] at hlen'
    obtain ⟨h6, r6, S6⟩ := wr_out (d := d + 2) (c := 44) h5 _ S5 (by simp only [List.length_append, List.length_cons, List.length_nil]; omega)
    obtain ⟨h7, r7, S7⟩ := wr_name (d := d) (l := w_p) (by decide) (by decide) (by decide) (u := 16) (by decide) h6 _ S6 (by simp only [List.length_append, List.length_cons, List.length_nil]; omega)
    obtain ⟨h8, r8, S8⟩ := wr_truth (d := d + 1) (b := b) h7 _ S7 (by simp only [List.length_append, List.length_cons, List.length_nil]; omega)
    obtain ⟨h9, r9, S9⟩ := wr_out (d := d + 2) (c := 125) h8 _ S8 (by simp only [List.length_append, List.length_cons, List.length_nil]; omega)
    have T6 := S6.1.1
    have T7 := S7.1.1
    have T8 := S8.1.1
    rw [show nI 44 = 44 from rfl] at r6
    rw [show nI 125 = 125 from rfl] at r9
    refine ⟨h9, ?_, by rw [← asm ([44] ++ wN w_p ++ wB b) (by rw [z])]; simpa using S9⟩
    have n1 : ¬ nI (pB (some b)) ≤ 0 := by cases b <;> decide
    cases b with
    | true =>
      simp only [if_true] at r8
      simp only [r337_52, r337_53, r337_56, r337_57, r337_59, r337_62, r337_63, r337_66, r337_69, r337_70, r337_71, r337_72, r337_75, r337_78, r337_81, r337_84, r337_87, r337_88, r337_90, r337_93, mx_isr_ref, mx_isr_null, mx_wt_nil, mx_wt_1, mx_wt_2, mx_wt_3, Option.bind_some, Option.toList_some, Option.toList_none, List.cons_append, List.nil_append, mx_nl_int, mx_nl_ref, mx_nl_null, mx_nl_none, mx_nb0, mx_nb1, mx_fb0, mx_fb1, mx_cat_int, mx_cat_ref, if_true, if_false, not_true_eq_false, not_false_eq_true, T5, T6, T7, T8, n1, r6, r7, r8, r9, show nI (pB (some true)) = 1 by decide, show ¬ (1 : Int32) ≤ 0 by decide]
    | false =>
      simp only [Bool.false_eq_true, if_false] at r8
      simp only [r337_52, r337_53, r337_56, r337_57, r337_59, r337_62, r337_63, r337_66, r337_69, r337_70, r337_71, r337_72, r337_75, r337_78, r337_81, r337_84, r337_87, r337_88, r337_90, r337_93, mx_isr_ref, mx_isr_null, mx_wt_nil, mx_wt_1, mx_wt_2, mx_wt_3, Option.bind_some, Option.toList_some, Option.toList_none, List.cons_append, List.nil_append, mx_nl_int, mx_nl_ref, mx_nl_null, mx_nl_none, mx_nb0, mx_nb1, mx_fb0, mx_fb1, mx_cat_int, mx_cat_ref, if_true, if_false, not_true_eq_false, not_false_eq_true, T5, T6, T7, T8, r6, r7, r8, r9, show nI (pB (some false)) = 2 by decide, show ¬ (2 : Int32) ≤ 0 by decide, show ¬ (2 : Int32) = 1 by decide]
def wAg (o : Option Int) : List Nat := match o with | none => [] | some v => [44] ++ wN w_age ++ wI v
def wOn (o : Option Bool) : List Nat := match o with | none => [] | some b => [44] ++ wN w_on ++ wB b
def wMl (l : List itm) : List Nat := if l = [] then [] else [44] ++ wN w_mail
/-- a piece of write -/
def wp (h : mx_H) (d s : Nat) (wn : Int32) (a b : Nat) (w : List Nat) : Prop := ∀ h1 out, wS h h1 wn out → out.length + w.length < 2 ^ 20 → ∃ h', mx_G (d + 4) 331 a [some (.ref 76), some (.int (nI s)), some (.int wn), none] [] h1 = mx_G (d + 4) 331 b [some (.ref 76), some (.int (nI s)), some (.int wn), none] [] h' ∧ wS h h' wn (out ++ w)
theorem wp_A {wn : Int32} {s : Nat} {p : prs} (R : rcP h s p) (W : wfP p) (hs : s ≤ 8) (b1 : p.1 < 2 ^ 20) : wp h d s wn 15 51 ([123] ++ wN w_id ++ wI p.1 ++ [44] ++ wN w_version) := by
  intro h1 out S hlen
  simp only [List.length_append, List.length_cons, List.length_nil] at hlen
  have T := S.1.1
  obtain ⟨h2, r2, S2⟩ := wr_out (d := d + 3) (c := 123) h1 out S (by simp only [List.length_append, List.length_cons, List.length_nil]; omega)
  obtain ⟨h3, r3, S3⟩ := wr_name (d := d + 1) (l := w_id) (by decide) (by decide) (by decide) (u := 247) (by decide) h2 _ S2 (by simp only [List.length_append, List.length_cons, List.length_nil]; omega)
  have T2 := S2.1.1
  have T3 := S3.1.1
  have f0 := rm_f (d := d + 3) T3 (s := s) (o := 0) (by omega)
  rw [(rc_mf R S3.1 fun _ => rfl).1 0 (by decide), show nI 0 = 0 from rfl, show pe p 0 = nI p.1 from rfl] at f0
  have nu := wr_num (d := d + 2) (h := h) (wn := wn) (n := nI p.1)
  rw [nI_toInt (by omega)] at nu
  obtain ⟨h4, r4, S4⟩ := nu h3 _ S3 (by simp only [List.length_append, List.length_cons, List.length_nil]; omega)
  obtain ⟨h5, r5, S5⟩ := wr_out (d := d + 3) (c := 44) h4 _ S4 (by simp only [List.length_append, List.length_cons, List.length_nil]; omega)
  obtain ⟨h6, r6, S6⟩ := wr_name (d := d + 1) (l := w_version) (by decide) (by decide) (by decide) (u := 8604942188) (by decide) h5 _ S5 (by simp only [List.length_append, List.length_cons, List.length_nil]; omega)
  have T4 := S4.1.1
  have T5 := S5.1.1
  rw [show nI 123 = 123 from rfl] at r2
  rw [show nI 44 = 44 from rfl] at r5
  refine ⟨h6, ?_, by simpa only [List.append_assoc] using S6⟩
  simp only [r331_15, r331_16, r331_18, r331_21, r331_22, r331_25, r331_28, r331_29, r331_30, r331_31, r331_32, r331_35, r331_38, r331_39, r331_41, r331_44, r331_45, r331_48, mx_isr_ref, mx_isr_null, mx_wt_nil, mx_wt_1, mx_wt_2, mx_wt_3, Option.bind_some, Option.toList_some, Option.toList_none, List.cons_append, List.nil_append, mx_nl_int, mx_nl_ref, mx_nl_null, mx_nl_none, mx_nb0, mx_nb1, mx_fb0, mx_fb1, mx_cat_int, mx_cat_ref, if_true, if_false, not_true_eq_false, not_false_eq_true, T, T2, T3, T4, T5, r2, r3, f0, r4, r5, r6]
theorem wp_B {wn : Int32} {s : Nat} {p : prs} (R : rcP h s p) (W : wfP p) (hs : s ≤ 8) (b2 : p.2.1 < 2 ^ 20) : wp h d s wn 51 80 (wI p.2.1 ++ [44] ++ wN w_name ++ wT (pnm p)) := by
  intro h1 out S hlen
  simp only [List.length_append, List.length_cons, List.length_nil] at hlen
  have T := S.1.1
  have f0 := rm_f (d := d + 3) T (s := s) (o := 1) (by omega)
  rw [(rc_mf R S.1 fun _ => rfl).1 1 (by decide), show nI 1 = 1 from rfl, show pe p 1 = nI p.2.1 from rfl] at f0
  have nu := wr_num (d := d + 2) (h := h) (wn := wn) (n := nI p.2.1)
  rw [nI_toInt (by omega)] at nu
  obtain ⟨h2, r2, S2⟩ := nu h1 _ S (by omega)
  obtain ⟨h3, r3, S3⟩ := wr_out (d := d + 3) (c := 44) h2 _ S2 (by simp only [List.length_append, List.length_cons, List.length_nil]; omega)
  obtain ⟨h4, r4, S4⟩ := wr_name (d := d + 1) (l := w_name) (by decide) (by decide) (by decide) (u := 276647) (by decide) h3 _ S3 (by simp only [List.length_append, List.length_cons, List.length_nil]; omega)
  obtain ⟨h5, r5, S5⟩ := wr_text (d := d + 2) (txR_nm R W hs) h4 _ S4 (by simp only [List.length_append, List.length_cons, List.length_nil]; omega)
  have T2 := S2.1.1
  have T3 := S3.1.1
  have T4 := S4.1.1
  rw [show nI 44 = 44 from rfl] at r3
  rw [show nI 2 = 2 from rfl] at r5
  refine ⟨h5, ?_, by simpa only [List.append_assoc] using S5⟩
  simp only [r331_51, r331_52, r331_53, r331_54, r331_55, r331_58, r331_61, r331_62, r331_64, r331_67, r331_68, r331_71, r331_74, r331_75, r331_76, r331_77, mx_isr_ref, mx_isr_null, mx_wt_nil, mx_wt_1, mx_wt_2, mx_wt_3, Option.bind_some, Option.toList_some, Option.toList_none, List.cons_append, List.nil_append, mx_nl_int, mx_nl_ref, mx_nl_null, mx_nl_none, mx_nb0, mx_nb1, mx_fb0, mx_fb1, mx_cat_int, mx_cat_ref, if_true, if_false, not_true_eq_false, not_false_eq_true, T, T2, T3, T4, f0, r2, r3, r4, r5]
theorem wp_C {wn : Int32} {s : Nat} {p : prs} (R : rcP h s p) (W : wfP p) (hs : s ≤ 8) : wp h d s wn 80 115 (wAg (pag p)) := by
  intro h1 out S hlen
  have T := S.1.1
  have f := rm_f (d := d + 3) T (s := s) (o := 15) (by omega)
  rw [(rc_mf R S.1 fun _ => rfl).1 15 (by decide), show nI 15 = 15 from rfl, show pe p 15 = (if (pag p).isSome = true then 1 else 0) from rfl] at f
  cases z : pag p with
  | none =>
    rw [z] at f
    refine ⟨h1, ?_, by simpa [wAg] using S⟩
    simp only [r331_80, r331_81, r331_82, r331_84, r331_87, r331_88, mx_isr_ref, mx_isr_null, mx_wt_nil, mx_wt_1, mx_wt_2, mx_wt_3, Option.bind_some, Option.toList_some, Option.toList_none, List.cons_append, List.nil_append, mx_nl_int, mx_nl_ref, mx_nl_null, mx_nl_none, mx_nb0, mx_nb1, mx_fb0, mx_fb1, mx_cat_int, mx_cat_ref, if_true, if_false, not_true_eq_false, not_false_eq_true, T, f, Option.isSome_none, Bool.false_eq_true, show ¬ (0 : Int32) = 1 by decide]
  | some v =>
    rw [z] at f hlen
    unfold wAg at hlen
    simp only [List.length_append, List.length_cons, List.length_nil] at hlen
    obtain ⟨h3, r3, S3⟩ := wr_out (d := d + 3) (c := 44) h1 _ S (by simp only [List.length_append, List.length_cons, List.length_nil]; omega)
    obtain ⟨h4, r4, S4⟩ := wr_name (d := d + 1) (l := w_age) (by decide) (by decide) (by decide) (u := 923) (by decide) h3 _ S3 (by simp only [List.length_append, List.length_cons, List.length_nil]; omega)
    have T3 := S3.1.1
    have T4 := S4.1.1
    have g := rm_f (d := d + 3) T4 (s := s) (o := 16) (by omega)
    rw [(rc_mf R S4.1 fun _ => rfl).1 16 (by decide), show nI 16 = 16 from rfl, show pe p 16 = (match pag p with | none => 0 | some v => Int32.ofInt v) from rfl, z] at g
    have nu := wr_num (d := d + 2) (h := h) (wn := wn) (n := Int32.ofInt v)
    rw [i32_toInt (W.2.1 v z)] at nu
    obtain ⟨h5, r5, S5⟩ := nu h4 _ S4 (by simp only [List.length_append, List.length_cons, List.length_nil]; omega)
    rw [show nI 44 = 44 from rfl] at r3
    refine ⟨h5, ?_, by simpa only [wAg, List.append_assoc] using S5⟩
    simp only [r331_80, r331_81, r331_82, r331_84, r331_87, r331_88, r331_91, r331_92, r331_94, r331_97, r331_98, r331_101, r331_104, r331_105, r331_106, r331_107, r331_109, r331_112, mx_isr_ref, mx_isr_null, mx_wt_nil, mx_wt_1, mx_wt_2, mx_wt_3, Option.bind_some, Option.toList_some, Option.toList_none, List.cons_append, List.nil_append, mx_nl_int, mx_nl_ref, mx_nl_null, mx_nl_none, mx_nb0, mx_nb1, mx_fb0, mx_fb1, mx_cat_int, mx_cat_ref, if_true, if_false, not_true_eq_false, not_false_eq_true, T, T3, T4, f, r3, r4, g, r5, Option.isSome_some]
theorem wp_D {wn : Int32} {s : Nat} {p : prs} (R : rcP h s p) (hs : s ≤ 8) : wp h d s wn 115 163 (wOn (pon p)) := by
  intro h1 out S hlen
  have T := S.1.1
  have f := rm_f (d := d + 3) T (s := s) (o := 17) (by omega)
  rw [(rc_mf R S.1 fun _ => rfl).1 17 (by decide), show nI 17 = 17 from rfl, show pe p 17 = (if (pon p).isSome = true then 1 else 0) from rfl] at f
  cases z : pon p with
  | none =>
    rw [z] at f
    refine ⟨h1, ?_, by simpa [wOn] using S⟩
    simp only [r331_115, r331_116, r331_117, r331_119, r331_122, r331_123, mx_isr_ref, mx_isr_null, mx_wt_nil, mx_wt_1, mx_wt_2, mx_wt_3, Option.bind_some, Option.toList_some, Option.toList_none, List.cons_append, List.nil_append, mx_nl_int, mx_nl_ref, mx_nl_null, mx_nl_none, mx_nb0, mx_nb1, mx_fb0, mx_fb1, mx_cat_int, mx_cat_ref, if_true, if_false, not_true_eq_false, not_false_eq_true, T, f, Option.isSome_none, Bool.false_eq_true, show ¬ (0 : Int32) = 1 by decide]
  | some b =>
    rw [z] at f hlen
    unfold wOn at hlen
    simp only [List.length_append, List.length_cons, List.length_nil] at hlen
    obtain ⟨h3, r3, S3⟩ := wr_out (d := d + 3) (c := 44) h1 _ S (by simp only [List.length_append, List.length_cons, List.length_nil]; omega)
    obtain ⟨h4, r4, S4⟩ := wr_name (d := d + 1) (l := w_on) (by decide) (by decide) (by decide) (u := 419) (by decide) h3 _ S3 (by simp only [List.length_append, List.length_cons, List.length_nil]; omega)
    have T3 := S3.1.1
    have T4 := S4.1.1
    have g := rm_f (d := d + 3) T4 (s := s) (o := 18) (by omega)
    rw [(rc_mf R S4.1 fun _ => rfl).1 18 (by decide), show nI 18 = 18 from rfl, show pe p 18 = nI (pB (pon p)) from rfl, z] at g
    obtain ⟨h5, r5, S5⟩ := wr_truth (d := d + 2) (b := b) h4 _ S4 (by simp only [List.length_append, List.length_cons, List.length_nil]; omega)
    rw [show nI 44 = 44 from rfl] at r3
    refine ⟨h5, ?_, by simpa only [wOn, List.append_assoc] using S5⟩
    cases b with
    | true =>
      simp only [if_true] at r5
      simp only [r331_115, r331_116, r331_117, r331_119, r331_122, r331_123, r331_126, r331_127, r331_129, r331_132, r331_133, r331_136, r331_139, r331_140, r331_141, r331_142, r331_144, r331_147, r331_148, r331_151, r331_154, r331_157, r331_160, mx_isr_ref, mx_isr_null, mx_wt_nil, mx_wt_1, mx_wt_2, mx_wt_3, Option.bind_some, Option.toList_some, Option.toList_none, List.cons_append, List.nil_append, mx_nl_int, mx_nl_ref, mx_nl_null, mx_nl_none, mx_nb0, mx_nb1, mx_fb0, mx_fb1, mx_cat_int, mx_cat_ref, if_true, if_false, not_true_eq_false, not_false_eq_true, T, T3, T4, f, r3, r4, g, r5, Option.isSome_some, show nI (pB (some true)) = 1 by decide]
    | false =>
      simp only [Bool.false_eq_true, if_false] at r5
      simp only [r331_115, r331_116, r331_117, r331_119, r331_122, r331_123, r331_126, r331_127, r331_129, r331_132, r331_133, r331_136, r331_139, r331_140, r331_141, r331_142, r331_144, r331_147, r331_148, r331_151, r331_154, r331_157, r331_160, mx_isr_ref, mx_isr_null, mx_wt_nil, mx_wt_1, mx_wt_2, mx_wt_3, Option.bind_some, Option.toList_some, Option.toList_none, List.cons_append, List.nil_append, mx_nl_int, mx_nl_ref, mx_nl_null, mx_nl_none, mx_nb0, mx_nb1, mx_fb0, mx_fb1, mx_cat_int, mx_cat_ref, if_true, if_false, not_true_eq_false, not_false_eq_true, T, T3, T4, f, r3, r4, g, r5, Option.isSome_some, show nI (pB (some false)) = 2 by decide, show ¬ (2 : Int32) = 1 by decide]
theorem wp_E {wn : Int32} {s : Nat} {p : prs} (R : rcP h s p) (W : wfP p) (hs : s ≤ 8) : wp h d s wn 163 186 (wMl (pit p)) := by
  intro h1 out S hlen
  unfold wMl at hlen ⊢
  have T := S.1.1
  have h4 := W.2.2.1
  have f := rm_f (d := d + 3) T (s := s) (o := 19) (by omega)
  rw [(rc_mf R S.1 fun _ => rfl).1 19 (by decide), show nI 19 = 19 from rfl, show pe p 19 = nI (pit p).length from rfl] at f
  by_cases c : pit p = []
  · rw [if_pos c]
    have e : nI (pit p).length ≤ 0 := by rw [c]; decide
    refine ⟨h1, ?_, by simpa using S⟩
    simp only [r331_163, r331_164, r331_165, r331_167, r331_170, mx_isr_ref, mx_isr_null, mx_wt_nil, mx_wt_1, mx_wt_2, mx_wt_3, Option.bind_some, Option.toList_some, Option.toList_none, List.cons_append, List.nil_append, mx_nl_int, mx_nl_ref, mx_nl_null, mx_nl_none, mx_nb0, mx_nb1, mx_fb0, mx_fb1, mx_cat_int, mx_cat_ref, if_true, if_false, not_true_eq_false, not_false_eq_true, T, f, e]
  · rw [if_neg c] at hlen ⊢
    simp only [List.length_append, List.length_cons, List.length_nil] at hlen
    have e : ¬ nI (pit p).length ≤ 0 := nI_nle (List.length_pos_iff.2 c) (by omega)
    obtain ⟨h3, r3, S3⟩ := wr_out (d := d + 3) (c := 44) h1 _ S (by simp only [List.length_append, List.length_cons, List.length_nil]; omega)
    obtain ⟨h4, r4, S4⟩ := wr_name (d := d + 1) (l := w_mail) (by decide) (by decide) (by decide) (u := 256863) (by decide) h3 _ S3 (by simp only [List.length_append, List.length_cons, List.length_nil]; omega)
    have T3 := S3.1.1
    rw [show nI 44 = 44 from rfl] at r3
    refine ⟨h4, ?_, by simpa only [List.append_assoc] using S4⟩
    simp only [r331_163, r331_164, r331_165, r331_167, r331_170, r331_173, r331_174, r331_176, r331_179, r331_180, r331_183, mx_isr_ref, mx_isr_null, mx_wt_nil, mx_wt_1, mx_wt_2, mx_wt_3, Option.bind_some, Option.toList_some, Option.toList_none, List.cons_append, List.nil_append, mx_nl_int, mx_nl_ref, mx_nl_null, mx_nl_none, mx_nb0, mx_nb1, mx_fb0, mx_fb1, mx_cat_int, mx_cat_ref, if_true, if_false, not_true_eq_false, not_false_eq_true, T, T3, f, e, r3, r4]
end
