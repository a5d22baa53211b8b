section
variable {d : Nat} {h : mx_H} {ts : List tk}
theorem w_v_ok : (∀ c ∈ w_v, 97 ≤ c ∧ c ≤ 122) ∧ w_v.length ≤ 9 ∧ (22 : Int64) = lN (enc w_v) := by decide
theorem w_p_ok : (∀ c ∈ w_p, 97 ≤ c ∧ c ≤ 122) ∧ w_p.length ≤ 9 ∧ (16 : Int64) = lN (enc w_p) := by decide
theorem w_id_ok : (∀ c ∈ w_id, 97 ≤ c ∧ c ≤ 122) ∧ w_id.length ≤ 9 ∧ (247 : Int64) = lN (enc w_id) := by decide
theorem w_version_ok : (∀ c ∈ w_version, 97 ≤ c ∧ c ≤ 122) ∧ w_version.length ≤ 9 ∧ (8604942188 : Int64) = lN (enc w_version) := by decide
theorem w_name_ok : (∀ c ∈ w_name, 97 ≤ c ∧ c ≤ 122) ∧ w_name.length ≤ 9 ∧ (276647 : Int64) = lN (enc w_name) := by decide
theorem w_age_ok : (∀ c ∈ w_age, 97 ≤ c ∧ c ≤ 122) ∧ w_age.length ≤ 9 ∧ (923 : Int64) = lN (enc w_age) := by decide
theorem w_on_ok : (∀ c ∈ w_on, 97 ≤ c ∧ c ≤ 122) ∧ w_on.length ≤ 9 ∧ (419 : Int64) = lN (enc w_on) := by decide
theorem w_mail_ok : (∀ c ∈ w_mail, 97 ≤ c ∧ c ≤ 122) ∧ w_mail.length ≤ 9 ∧ (256863 : Int64) = lN (enc w_mail) := by decide
theorem nmV_v (m : Nat) : (nmV ts m = 22) = (nmf ts m = w_v) := by rw [w_v_ok.2.2]; exact nmV_eq w_v_ok.1 w_v_ok.2.1
theorem nmV_p (m : Nat) : (nmV ts m = 16) = (nmf ts m = w_p) := by rw [w_p_ok.2.2]; exact nmV_eq w_p_ok.1 w_p_ok.2.1
theorem nmV_id (m : Nat) : (nmV ts m = 247) = (nmf ts m = w_id) := by rw [w_id_ok.2.2]; exact nmV_eq w_id_ok.1 w_id_ok.2.1
theorem nmV_ver (m : Nat) : (nmV ts m = 8604942188) = (nmf ts m = w_version) := by rw [w_version_ok.2.2]; exact nmV_eq w_version_ok.1 w_version_ok.2.1
theorem nmV_name (m : Nat) : (nmV ts m = 276647) = (nmf ts m = w_name) := by rw [w_name_ok.2.2]; exact nmV_eq w_name_ok.1 w_name_ok.2.1
theorem nmV_age (m : Nat) : (nmV ts m = 923) = (nmf ts m = w_age) := by rw [w_age_ok.2.2]; exact nmV_eq w_age_ok.1 w_age_ok.2.1
theorem nmV_on (m : Nat) : (nmV ts m = 419) = (nmf ts m = w_on) := by rw [w_on_ok.2.2]; exact nmV_eq w_on_ok.1 w_on_ok.2.1
theorem nmV_mail (m : Nat) : (nmV ts m = 256863) = (nmf ts m = w_mail) := by rw [w_mail_ok.2.2]; exact nmV_eq w_mail_ok.1 w_mail_ok.2.1
theorem sc2_3 {t : Nat} (h : sc ts t = 2) : (tA ts t).1 = 3 := by
  unfold sc at h
  split at h
  · cases h
  · split at h
    · assumption
    · split at h <;> cases h
theorem ftx_3 {t : Nat} (h : ftx ts t = true) : (tA ts t).1 = 3 := by
  unfold ftx at h
  exact sc2_3 (of_decide_eq_true h).1
theorem fnd_mem {l : List Nat} {w : List Nat} {m : Nat} (h : fnd ts l w = some m) : m ∈ l ∧ nmf ts m = w := by
  unfold fnd at h
  exact ⟨List.mem_of_find?_eq_some h, by have := List.find?_some h; simpa using this⟩
theorem rm_itmL (S : rm_TK h ts) {t : Nat} {w0 : Int32} : ∀ l, chn ts 3 true l → ∀ b : Bool, mx_G (d + 3) 266 40 [some (.ref 76), some (.int (nI t)), some (.int w0), some (.int (if b = true then 1 else 0)), some (.int (nx l))] [] h = some (some (.int (if (b && l.all (gl ts)) = true then 1 else 0)), h) := by
  have T := S.1.1
  have hl := S.1.2.1
  intro l
  induction l with
  | nil =>
    intro _ b
    rw [r266_40, r266_42, if_pos nx_n]
    rw [List.all_nil, Bool.and_true]
    cases b <;> simp only [r266_116, r266_117, mx_isr_ref, mx_isr_null, mx_wt_nil, mx_wt_1, mx_wt_2, mx_wt_3, Option.bind_some, Option.toList_some, Option.toList_none, List.cons_append, List.nil_append, mx_nl_int, mx_nl_ref, mx_nl_null, mx_nl_none, mx_nb0, mx_nb1, mx_fb0, mx_fb1, mx_cat_int, mx_cat_ref, if_true, if_false, not_true_eq_false, not_false_eq_true, Bool.false_eq_true]
  | cons m l ih =>
    intro hc b
    have hm := (isMem_1 (hc.1 rfl)).1
    have m2 := tI_lt (by decide) (isMem_1 (hc.1 rfl)).2
    have n1 : ¬ nx (m :: l) < 0 := nx_nn (by omega) l
    have af : mx_G (d + 2) 257 0 [some (.ref 76), some (.int (nI m)), some (.int 1), none] [] h = some (some (.int (nx l)), h) := rm_after S.1 hc
    have nm := rm_nameOf (d := d) S hm
    have ft := rm_fits (d := d) S (t := m + 2) (by omega)
    have sca := rm_scalar (d := d + 1) S (t := m + 2) (by omega)
    have e2 : nI m + 2 = nI (m + 2) := nI_add m 2
    have hi := ih hc.2.2
    have sc4 := sc_lt4 (ts := ts) (m + 2)
    rw [r266_40, r266_42, if_neg n1]
    rw [show nx (m :: l) = nI m from rfl, List.all_cons]
    cases b with
    | false =>
      have hi := hi false
      rw [Bool.false_and] at hi ⊢
      simp only [r266_45, r266_46, r266_102, r266_103, r266_104, r266_105, r266_107, r266_108, r266_111, r266_113, mx_isr_ref, mx_isr_null, mx_wt_nil, mx_wt_1, mx_wt_2, mx_wt_3, Option.bind_some, Option.toList_some, Option.toList_none, List.cons_append, List.nil_append, mx_nl_int, mx_nl_ref, mx_nl_null, mx_nl_none, mx_nb0, mx_nb1, mx_fb0, mx_fb1, mx_cat_int, mx_cat_ref, if_true, if_false, not_true_eq_false, not_false_eq_true, T, af, Bool.false_eq_true]
      exact hi
    | true =>
      rw [Bool.true_and]
      have key : mx_G (d + 3) 266 49 [some (.ref 76), some (.int (nI t)), some (.int w0), some (.int 1), some (.int (nI m))] [] h = mx_G (d + 3) 266 40 [some (.ref 76), some (.int (nI t)), some (.int w0), some (.int (if gl ts m = true then 1 else 0)), some (.int (nx l))] [] h := by
        unfold gl
        by_cases h1 : nmf ts m = w_v
        · have h2 : ¬ nmf ts m = w_p := by rw [h1]; decide
          cases z : ftx ts (m + 2) with
          | true =>
            rw [z] at ft
            simp only [r266_49, r266_50, r266_52, r266_55, r266_58, r266_59, r266_62, r266_63, r266_65, r266_66, r266_67, r266_70, r266_73, r266_74, r266_76, r266_79, r266_82, r266_83, r266_86, r266_87, r266_89, r266_90, r266_91, r266_94, r266_95, r266_98, r266_99, r266_102, r266_103, r266_104, r266_105, r266_107, r266_108, r266_111, r266_113, mx_isr_ref, mx_isr_null, mx_wt_nil, mx_wt_1, mx_wt_2, mx_wt_3, Option.bind_some, Option.toList_some, Option.toList_none, List.cons_append, List.nil_append, mx_nl_int, mx_nl_ref, mx_nl_null, mx_nl_none, mx_nb0, mx_nb1, mx_fb0, mx_fb1, mx_cat_int, mx_cat_ref, if_true, if_false, not_true_eq_false, not_false_eq_true, T, nm, lg_cmp0, nmV_v, eq_true h1, e2, ft, af, decide_true, Bool.and_self, Bool.true_or, show ¬ (1 : Int32) = 0 by decide]
          | false =>
            rw [z] at ft
            simp only [r266_49, r266_50, r266_52, r266_55, r266_58, r266_59, r266_62, r266_63, r266_65, r266_66, r266_67, r266_70, r266_73, r266_74, r266_76, r266_79, r266_82, r266_83, r266_86, r266_87, r266_89, r266_90, r266_91, r266_94, r266_95, r266_98, r266_99, r266_102, r266_103, r266_104, r266_105, r266_107, r266_108, r266_111, r266_113, mx_isr_ref, mx_isr_null, mx_wt_nil, mx_wt_1, mx_wt_2, mx_wt_3, Option.bind_some, Option.toList_some, Option.toList_none, List.cons_append, List.nil_append, mx_nl_int, mx_nl_ref, mx_nl_null, mx_nl_none, mx_nb0, mx_nb1, mx_fb0, mx_fb1, mx_cat_int, mx_cat_ref, if_true, if_false, not_true_eq_false, not_false_eq_true, T, nm, lg_cmp0, nmV_v, nmV_p, eq_true h1, eq_false h2, e2, ft, af, Bool.false_eq_true, decide_false, decide_true, Bool.and_false, Bool.false_and, Bool.or_false]
        · by_cases h2 : nmf ts m = w_p
          · by_cases h3 : sc ts (m + 2) = 3
            · rw [h3] at sca
              simp only [r266_49, r266_50, r266_52, r266_55, r266_58, r266_59, r266_62, r266_63, r266_65, r266_66, r266_67, r266_70, r266_73, r266_74, r266_76, r266_79, r266_82, r266_83, r266_86, r266_87, r266_89, r266_90, r266_91, r266_94, r266_95, r266_98, r266_99, r266_102, r266_103, r266_104, r266_105, r266_107, r266_108, r266_111, r266_113, mx_isr_ref, mx_isr_null, mx_wt_nil, mx_wt_1, mx_wt_2, mx_wt_3, Option.bind_some, Option.toList_some, Option.toList_none, List.cons_append, List.nil_append, mx_nl_int, mx_nl_ref, mx_nl_null, mx_nl_none, mx_nb0, mx_nb1, mx_fb0, mx_fb1, mx_cat_int, mx_cat_ref, if_true, if_false, not_true_eq_false, not_false_eq_true, T, nm, lg_cmp0, nmV_v, nmV_p, eq_false h1, eq_true h2, e2, sca, show nI 3 = 3 from rfl, af, h3, decide_false, decide_true, Bool.false_and, Bool.and_self, Bool.or_true]
            · have e3 : ¬ nI (sc ts (m + 2)) = 3 := fun z => h3 ((nI_eq (b := 3) (by omega) (by decide)).mp z)
              simp only [r266_49, r266_50, r266_52, r266_55, r266_58, r266_59, r266_62, r266_63, r266_65, r266_66, r266_67, r266_70, r266_73, r266_74, r266_76, r266_79, r266_82, r266_83, r266_86, r266_87, r266_89, r266_90, r266_91, r266_94, r266_95, r266_98, r266_99, r266_102, r266_103, r266_104, r266_105, r266_107, r266_108, r266_111, r266_113, mx_isr_ref, mx_isr_null, mx_wt_nil, mx_wt_1, mx_wt_2, mx_wt_3, Option.bind_some, Option.toList_some, Option.toList_none, List.cons_append, List.nil_append, mx_nl_int, mx_nl_ref, mx_nl_null, mx_nl_none, mx_nb0, mx_nb1, mx_fb0, mx_fb1, mx_cat_int, mx_cat_ref, if_true, if_false, not_true_eq_false, not_false_eq_true, T, nm, lg_cmp0, nmV_v, nmV_p, eq_false h1, eq_true h2, e2, sca, e3, af, h3, decide_false, decide_true, Bool.false_and, Bool.and_false, Bool.or_false, Bool.false_eq_true]
          · simp only [r266_49, r266_50, r266_52, r266_55, r266_58, r266_59, r266_62, r266_63, r266_65, r266_66, r266_67, r266_70, r266_73, r266_74, r266_76, r266_79, r266_82, r266_83, r266_86, r266_87, r266_89, r266_90, r266_91, r266_94, r266_95, r266_98, r266_99, r266_102, r266_103, r266_104, r266_105, r266_107, r266_108, r266_111, r266_113, mx_isr_ref, mx_isr_null, mx_wt_nil, mx_wt_1, mx_wt_2, mx_wt_3, Option.bind_some, Option.toList_some, Option.toList_none, List.cons_append, List.nil_append, mx_nl_int, mx_nl_ref, mx_nl_null, mx_nl_none, mx_nb0, mx_nb1, mx_fb0, mx_fb1, mx_cat_int, mx_cat_ref, if_true, if_false, not_true_eq_false, not_false_eq_true, T, nm, lg_cmp0, nmV_v, nmV_p, eq_false h1, eq_false h2, af, Bool.false_eq_true, decide_false, Bool.false_and, Bool.or_false]
      have hi := hi (gl ts m)
      rw [← hi, ← key]
      simp only [r266_45, r266_46, mx_isr_ref, mx_isr_null, mx_wt_nil, mx_wt_1, mx_wt_2, mx_wt_3, Option.bind_some, Option.toList_some, Option.toList_none, List.cons_append, List.nil_append, mx_nl_int, mx_nl_ref, mx_nl_null, mx_nl_none, mx_nb0, mx_nb1, mx_fb0, mx_fb1, mx_cat_int, mx_cat_ref, if_true, if_false, not_true_eq_false, not_false_eq_true, show ¬ (1 : Int32) = 0 by decide]
/-- an item's object, a whole one if w -/
def iiB (ts : List tk) (t : Nat) (w : Bool) : Bool := tI ts t 123 && ((!w || (fnd ts (kd ts t) w_v).isSome) && (kd ts t).all (gl ts))
theorem rm_isItem (S : rm_TK h ts) {t : Nat} (hv : vOk ts t) (w : Bool) : mx_G (d + 4) 266 0 [some (.ref 76), some (.int (nI t)), some (.int (if w = true then 1 else 0)), none, none] [] h = some (some (.int (if iiB ts t w = true then 1 else 0)), h) := by
  have T := S.1.1
  have hl := S.1.2.1
  have tl := vOk_lt hv
  have i := rm_isF (d := d + 3) S.1 (t := t) (by omega)
  unfold iiB
  cases ho : tI ts t 123 with
  | false => simp only [r266_0, r266_1, r266_2, r266_4, r266_7, r266_10, r266_11, mx_isr_ref, mx_isr_null, mx_wt_nil, mx_wt_1, mx_wt_2, mx_wt_3, Option.bind_some, Option.toList_some, Option.toList_none, List.cons_append, List.nil_append, mx_nl_int, mx_nl_ref, mx_nl_null, mx_nl_none, mx_nb0, mx_nb1, mx_fb0, mx_fb1, mx_cat_int, mx_cat_ref, if_true, if_false, not_true_eq_false, not_false_eq_true, T, i, ho, Bool.false_eq_true, Bool.false_and]
  | true =>
    have mb := rm_member (d := d) S hv ho w_v_ok.2.2 w_v_ok.1 w_v_ok.2.1
    obtain ⟨e, hE, -⟩ := id hv
    have fi := rm_first (d := d + 2) S.1 (by omega) hE (Or.inl ho)
    have L := fun b => rm_itmL (d := d + 1) S (t := t) (w0 := if w = true then 1 else 0) _ (kd_chn.1 ho) b
    rw [Bool.true_and]
    cases w with
    | false =>
      have L := L true
      simp only [r266_0, r266_1, r266_2, r266_4, r266_7, r266_10, r266_11, r266_12, r266_13, r266_16, r266_17, r266_18, r266_21, r266_24, r266_27, r266_28, r266_31, r266_32, r266_33, r266_34, r266_35, r266_38, mx_isr_ref, mx_isr_null, mx_wt_nil, mx_wt_1, mx_wt_2, mx_wt_3, Option.bind_some, Option.toList_some, Option.toList_none, List.cons_append, List.nil_append, mx_nl_int, mx_nl_ref, mx_nl_null, mx_nl_none, mx_nb0, mx_nb1, mx_fb0, mx_fb1, mx_cat_int, mx_cat_ref, if_true, if_false, not_true_eq_false, not_false_eq_true, T, i, ho, fi, Bool.false_eq_true, show ¬ (1 : Int32) = 0 by decide]
      simp only [Bool.not_false, Bool.true_or]
      exact L
    | true =>
      unfold mbi at mb
      cases z : fnd ts (kd ts t) w_v with
      | none =>
        rw [z] at mb
        have L := L false
        simp only [r266_0, r266_1, r266_2, r266_4, r266_7, r266_10, r266_11, r266_12, r266_13, r266_16, r266_17, r266_18, r266_21, r266_24, r266_27, r266_28, r266_31, r266_32, r266_33, r266_34, r266_35, r266_38, mx_isr_ref, mx_isr_null, mx_wt_nil, mx_wt_1, mx_wt_2, mx_wt_3, Option.bind_some, Option.toList_some, Option.toList_none, List.cons_append, List.nil_append, mx_nl_int, mx_nl_ref, mx_nl_null, mx_nl_none, mx_nb0, mx_nb1, mx_fb0, mx_fb1, mx_cat_int, mx_cat_ref, if_true, if_false, not_true_eq_false, not_false_eq_true, T, i, ho, fi, mb, Bool.false_eq_true, show ¬ (1 : Int32) = 0 by decide, show (-1 : Int32) < 0 by decide]
        simp only [Bool.not_true, Bool.false_or, Option.isSome_none]
        exact L
      | some m =>
        rw [z] at mb
        have hm := (vOk_obj hv ho).2 m (fnd_mem z).1
        have ml := vOk_lt hm.2
        have n1 : ¬ nI (m + 2) < 0 := nI_pos (by omega)
        have L := L true
        simp only [r266_0, r266_1, r266_2, r266_4, r266_7, r266_10, r266_11, r266_12, r266_13, r266_16, r266_17, r266_18, r266_21, r266_24, r266_27, r266_28, r266_31, r266_32, r266_33, r266_34, r266_35, r266_38, mx_isr_ref, mx_isr_null, mx_wt_nil, mx_wt_1, mx_wt_2, mx_wt_3, Option.bind_some, Option.toList_some, Option.toList_none, List.cons_append, List.nil_append, mx_nl_int, mx_nl_ref, mx_nl_null, mx_nl_none, mx_nb0, mx_nb1, mx_fb0, mx_fb1, mx_cat_int, mx_cat_ref, if_true, if_false, not_true_eq_false, not_false_eq_true, T, i, ho, fi, mb, n1, Bool.false_eq_true, show ¬ (1 : Int32) = 0 by decide]
        simp only [Bool.not_true, Bool.false_or, Option.isSome_some]
        exact L
theorem iiB_O {t : Nat} (hv : vOk ts t) : (iO ts t).isSome = iiB ts t false := by
  rw [iO_val hv]
  unfold iiB
  cases tI ts t 123 <;> cases (kd ts t).all (gl ts) <;> rfl
theorem iiB_W {t : Nat} (hv : vOk ts t) : (iW ts t).isSome = iiB ts t true := by
  rw [iW_val hv]
  unfold iiB itO
  cases tI ts t 123 <;> cases (kd ts t).all (gl ts) <;> cases fnd ts (kd ts t) w_v <;> rfl
theorem rm_itsL (S : rm_TK h ts) {t : Nat} : ∀ l, chn ts 3 false l → (∀ m ∈ l, vOk ts m) → ∀ b : Bool, mx_G (d + 5) 265 20 [some (.ref 76), some (.int (nI t)), some (.int (if b = true then 1 else 0)), some (.int (nx l))] [] h = some (some (.int (if (b && (iL ts l).isSome) = true then 1 else 0)), h) := by
  have T := S.1.1
  have hl := S.1.2.1
  intro l
  induction l with
  | nil =>
    intro _ _ b
    rw [r265_20, r265_21, if_pos nx_n]
    cases b
    · simp only [r265_53, r265_54, mx_isr_ref, mx_isr_null, mx_wt_nil, mx_wt_1, mx_wt_2, mx_wt_3, Option.bind_some, Option.toList_some, Option.toList_none, List.cons_append, List.nil_append, mx_nl_int, mx_nl_ref, mx_nl_null, mx_nl_none, mx_nb0, mx_nb1, mx_fb0, mx_fb1, mx_cat_int, mx_cat_ref, if_true, if_false, not_true_eq_false, not_false_eq_true, Bool.false_eq_true, Bool.false_and]
    · simp only [r265_53, r265_54, mx_isr_ref, mx_isr_null, mx_wt_nil, mx_wt_1, mx_wt_2, mx_wt_3, Option.bind_some, Option.toList_some, Option.toList_none, List.cons_append, List.nil_append, mx_nl_int, mx_nl_ref, mx_nl_null, mx_nl_none, mx_nb0, mx_nb1, mx_fb0, mx_fb1, mx_cat_int, mx_cat_ref, if_true, if_false, not_true_eq_false, not_false_eq_true]
      rfl
  | cons m l ih =>
    intro hc hv b
    have hvm := hv m (List.mem_cons_self ..)
    have ml := vOk_lt hvm
    have n1 : ¬ nx (m :: l) < 0 := nx_nn (by omega) l
    have af : mx_G (d + 4) 257 0 [some (.ref 76), some (.int (nI m)), some (.int 0), none] [] h = some (some (.int (nx l)), h) := rm_after (d := d + 2) S.1 hc
    have it : mx_G (d + 4) 266 0 [some (.ref 76), some (.int (nI m)), some (.int 1), none, none] [] h = some (some (.int (if iiB ts m true = true then 1 else 0)), h) := rm_isItem (d := d) S hvm true
    have hi := ih hc.2.2 fun x hx => hv x (List.mem_cons_of_mem _ hx)
    have e : (iL ts (m :: l)).isSome = (iiB ts m true && (iL ts l).isSome) := by
      rw [iL, ← iiB_W hvm]
      cases iW ts m with
      | none => rfl
      | some x => cases iL ts l <;> rfl
    rw [r265_20, r265_21, if_neg n1, e]
    rw [show nx (m :: l) = nI m from rfl]
    cases b with
    | false =>
      have hi := hi false
      rw [Bool.false_and] at hi ⊢
      simp only [r265_24, r265_25, r265_41, r265_42, r265_43, r265_44, r265_45, r265_46, r265_49, r265_50, mx_isr_ref, mx_isr_null, mx_wt_nil, mx_wt_1, mx_wt_2, mx_wt_3, Option.bind_some, Option.toList_some, Option.toList_none, List.cons_append, List.nil_append, mx_nl_int, mx_nl_ref, mx_nl_null, mx_nl_none, mx_nb0, mx_nb1, mx_fb0, mx_fb1, mx_cat_int, mx_cat_ref, if_true, if_false, not_true_eq_false, not_false_eq_true, T, af, Bool.false_eq_true]
      exact hi
    | true =>
      cases z : iiB ts m true with
      | false =>
        have hi := hi false
        rw [z] at it
        rw [Bool.false_and] at hi
        simp only [r265_24, r265_25, r265_28, r265_29, r265_30, r265_31, r265_34, r265_37, r265_38, r265_41, r265_42, r265_43, r265_44, r265_45, r265_46, r265_49, r265_50, mx_isr_ref, mx_isr_null, mx_wt_nil, mx_wt_1, mx_wt_2, mx_wt_3, Option.bind_some, Option.toList_some, Option.toList_none, List.cons_append, List.nil_append, mx_nl_int, mx_nl_ref, mx_nl_null, mx_nl_none, mx_nb0, mx_nb1, mx_fb0, mx_fb1, mx_cat_int, mx_cat_ref, if_true, if_false, not_true_eq_false, not_false_eq_true, T, af, it, Bool.false_eq_true, show ¬ (1 : Int32) = 0 by decide]
        simp only [Bool.false_and, Bool.and_false]
        exact hi
      | true =>
        have hi := hi true
        rw [z] at it
        simp only [r265_24, r265_25, r265_28, r265_29, r265_30, r265_31, r265_34, r265_37, r265_38, r265_41, r265_42, r265_43, r265_44, r265_45, r265_46, r265_49, r265_50, mx_isr_ref, mx_isr_null, mx_wt_nil, mx_wt_1, mx_wt_2, mx_wt_3, Option.bind_some, Option.toList_some, Option.toList_none, List.cons_append, List.nil_append, mx_nl_int, mx_nl_ref, mx_nl_null, mx_nl_none, mx_nb0, mx_nb1, mx_fb0, mx_fb1, mx_cat_int, mx_cat_ref, if_true, if_false, not_true_eq_false, not_false_eq_true, T, af, it, Bool.false_eq_true, show ¬ (1 : Int32) = 0 by decide]
        simp only [Bool.true_and]
        simp only [Bool.true_and] at hi
        exact hi
theorem rm_isItems (S : rm_TK h ts) {t : Nat} (hv : vOk ts t) : mx_G (d + 5) 265 0 [some (.ref 76), some (.int (nI t)), none, none] [] h = some (some (.int (if (iA ts t).isSome = true then 1 else 0)), h) := by
  have T := S.1.1
  have hl := S.1.2.1
  have tl := vOk_lt hv
  have i := rm_isF (d := d + 4) S.1 (t := t) (by omega)
  unfold iA
  cases ho : tI ts t 91 with
  | false =>
    simp only [r265_0, r265_1, r265_2, r265_4, r265_7, r265_10, r265_11, mx_isr_ref, mx_isr_null, mx_wt_nil, mx_wt_1, mx_wt_2, mx_wt_3, Option.bind_some, Option.toList_some, Option.toList_none, List.cons_append, List.nil_append, mx_nl_int, mx_nl_ref, mx_nl_null, mx_nl_none, mx_nb0, mx_nb1, mx_fb0, mx_fb1, mx_cat_int, mx_cat_ref, if_true, if_false, not_true_eq_false, not_false_eq_true, T, i, ho, Bool.false_eq_true]
    rfl
  | true =>
    obtain ⟨e, hE, -⟩ := id hv
    have fi := rm_first (d := d + 3) S.1 (by omega) hE (Or.inr ho)
    have L := rm_itsL (d := d) S (t := t) _ (kd_chn.2 ho) (vOk_arr hv ho) true
    simp only [r265_0, r265_1, r265_2, r265_4, r265_7, r265_10, r265_11, r265_12, r265_13, r265_14, r265_15, r265_16, r265_19, mx_isr_ref, mx_isr_null, mx_wt_nil, mx_wt_1, mx_wt_2, mx_wt_3, Option.bind_some, Option.toList_some, Option.toList_none, List.cons_append, List.nil_append, mx_nl_int, mx_nl_ref, mx_nl_null, mx_nl_none, mx_nb0, mx_nb1, mx_fb0, mx_fb1, mx_cat_int, mx_cat_ref, if_true, if_false, not_true_eq_false, not_false_eq_true, T, i, ho, fi, show ¬ (1 : Int32) = 0 by decide]
    simp only [Bool.true_and] at L
    exact L
/-- what give changes -/
theorem rm_give (S : rm_TK h ts) {k t : Nat} (hk : k < 4) (hv : vOk ts t) (ho : tI ts t 123 = true) (hg : (kd ts t).all (gl ts) = true) : ∃ h', mx_G (d + 4) 269 0 [some (.ref 76), some (.int (nI k)), some (.int (nI t)), none, none] [] h = some (none, h') ∧ mf P79 h h' ∧
    (∀ i, mi h' 77 i = if 660 + 14 * k ≤ i ∧ i < 660 + 14 * k + 13 then (match (itO ts t).1 with | some v => te v (i - (660 + 14 * k)) | none => mi h 77 i) else if i = 660 + 14 * k + 13 then (match (itO ts t).2 with | some p => nI (pB (some p)) | none => mi h 77 i) else mi h 77 i) ∧
    ∀ i, mi h' 99 i = if i = k then (match (itO ts t).2 with | some p => (if p = true then 1 else 0) | none => mi h 99 i) else mi h 99 i := by
  have T := S.1.1
  have hl := S.1.2.1
  have mv := rm_member (d := d) S hv ho w_v_ok.2.2 w_v_ok.1 w_v_ok.2.1
  have mp := rm_member (d := d) S hv ho w_p_ok.2.2 w_p_ok.1 w_p_ok.2.1
  have im := rm_item (d := d + 3) (h := h) (k := k)
  unfold mbi at mv mp
  have vk := (vOk_obj hv ho).2
  have first : ∃ h1, mx_G (d + 4) 269 0 [some (.ref 76), some (.int (nI k)), some (.int (nI t)), none, none] [] h = mx_G (d + 4) 269 33 [some (.ref 76), some (.int (nI k)), some (.int (nI t)), some (.int (mbi ts (kd ts t) w_v)), some (.int (mbi ts (kd ts t) w_p))] [] h1 ∧ mf P77 h h1 ∧
      ∀ i, mi h1 77 i = if 660 + 14 * k ≤ i ∧ i < 660 + 14 * k + 13 then (match (itO ts t).1 with | some v => te v (i - (660 + 14 * k)) | none => mi h 77 i) else mi h 77 i := by
    unfold itO mbi
    cases z : fnd ts (kd ts t) w_v with
    | none =>
      rw [z] at mv
      refine ⟨h, ?_, mf_rfl T, fun i => by simp⟩
      simp only [r269_0, r269_1, r269_2, r269_5, r269_8, r269_9, r269_10, r269_11, r269_14, r269_17, r269_19, r269_20, r269_23, r269_24, r269_25, r269_26, r269_29, r269_30, mx_isr_ref, mx_isr_null, mx_wt_nil, mx_wt_1, mx_wt_2, mx_wt_3, Option.bind_some, Option.toList_some, Option.toList_none, List.cons_append, List.nil_append, mx_nl_int, mx_nl_ref, mx_nl_null, mx_nl_none, mx_nb0, mx_nb1, mx_fb0, mx_fb1, mx_cat_int, mx_cat_ref, if_true, if_false, not_true_eq_false, not_false_eq_true, T, mv, mp, show (-1 : Int32) < 0 by decide]
    | some m =>
      rw [z] at mv
      have hm := fnd_mem z
      have ml := vOk_lt (vk m hm.1).2
      have gm := List.all_eq_true.1 hg m hm.1
      have h3 : (tA ts (m + 2)).1 = 3 := by
        unfold gl at gm
        have h2 : ¬ nmf ts m = w_p := by rw [hm.2]; decide
        rw [decide_eq_true hm.2, decide_eq_false h2] at gm
        exact ftx_3 (by simpa using gm)
      have n1 : ¬ nI (m + 2) < 0 := nI_pos (by omega)
      obtain ⟨h1, r, m1, g⟩ := rm_setText (d := d + 2) S (t := m + 2) (o := 20 + 14 * k) h3 (by omega)
      refine ⟨h1, ?_, m1, fun i => ?_⟩
      · simp only [r269_0, r269_1, r269_2, r269_5, r269_8, r269_9, r269_10, r269_11, r269_14, r269_17, r269_19, r269_20, r269_23, r269_24, r269_25, r269_26, r269_29, r269_30, mx_isr_ref, mx_isr_null, mx_wt_nil, mx_wt_1, mx_wt_2, mx_wt_3, Option.bind_some, Option.toList_some, Option.toList_none, List.cons_append, List.nil_append, mx_nl_int, mx_nl_ref, mx_nl_null, mx_nl_none, mx_nb0, mx_nb1, mx_fb0, mx_fb1, mx_cat_int, mx_cat_ref, if_true, if_false, not_true_eq_false, not_false_eq_true, T, mv, mp, n1, im, r]
      · rw [g, show 640 + (20 + 14 * k) = 660 + 14 * k by omega]
        rfl
  obtain ⟨h1, r1, m1, g1⟩ := first
  have T1 := m1.1
  have S1 := TK_mf S m1 tk77
  have w7 : ∀ a k, P79 a k = false → P77 a k = false := fun a k e => by unfold P79 at e; unfold P77; simp at e ⊢; exact e.1
  rw [r1]
  unfold itO mbi at *
  cases z : fnd ts (kd ts t) w_p with
  | none =>
    refine ⟨h1, ?_, mf_mono w7 m1, fun i => ?_, fun i => ?_⟩
    · simp only [r269_33, r269_35, r269_38, r269_39, r269_40, r269_41, r269_43, r269_46, r269_49, mx_isr_ref, mx_isr_null, mx_wt_nil, mx_wt_1, mx_wt_2, mx_wt_3, Option.bind_some, Option.toList_some, Option.toList_none, List.cons_append, List.nil_append, mx_nl_int, mx_nl_ref, mx_nl_null, mx_nl_none, mx_nb0, mx_nb1, mx_fb0, mx_fb1, mx_cat_int, mx_cat_ref, if_true, if_false, not_true_eq_false, not_false_eq_true, show (-1 : Int32) < 0 by decide]
    · rw [g1]
      simp
    · rw [m1.2.1 99 i rfl]; simp
  | some m =>
    have hm := fnd_mem z
    have ml := vOk_lt (vk m hm.1).2
    have n1 : ¬ nI (m + 2) < 0 := nI_pos (by omega)
    have tr := rm_truthOf (d := d + 2) S1 (t := m + 2) (by omega)
    obtain ⟨h2, r2, m2, g2, g3⟩ := rm_setTruth (d := d + 2) T1 (k := k) (p := pB (some (tb ts (m + 2)))) (by omega) (by cases tb ts (m + 2) <;> decide)
    refine ⟨h2, ?_, mf_trans (mf_mono w7 m1) m2, fun i => ?_, fun i => ?_⟩
    · simp only [r269_33, r269_35, r269_38, r269_39, r269_40, r269_41, r269_43, r269_46, r269_49, mx_isr_ref, mx_isr_null, mx_wt_nil, mx_wt_1, mx_wt_2, mx_wt_3, Option.bind_some, Option.toList_some, Option.toList_none, List.cons_append, List.nil_append, mx_nl_int, mx_nl_ref, mx_nl_null, mx_nl_none, mx_nb0, mx_nb1, mx_fb0, mx_fb1, mx_cat_int, mx_cat_ref, if_true, if_false, not_true_eq_false, not_false_eq_true, T1, n1, tr, r2]
    · rw [g2, g1]
      simp only [Option.map_some]
      by_cases c1 : i = 640 + 20 + 14 * k + 13
      · rw [if_pos c1, if_neg (by omega), if_pos (by omega)]
      · rw [if_neg c1]
        by_cases c2 : 660 + 14 * k ≤ i ∧ i < 660 + 14 * k + 13
        · rw [if_pos c2, if_pos c2]
        · rw [if_neg c2, if_neg c2, if_neg (by omega)]
    · rw [g3]
      simp only [Option.map_some]
      by_cases c1 : i = k
      · rw [if_pos c1, if_pos c1]
        cases tb ts (m + 2) <;> rfl
      · rw [if_neg c1, if_neg c1, m1.2.1 99 i rfl]
end
