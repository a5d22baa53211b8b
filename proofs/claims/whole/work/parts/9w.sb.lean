/-! StringBuilder. -/
theorem bs_len (us : List Nat) : (nvs us).length = us.length := List.length_map ..
theorem bs_get (us : List Nat) (k : Nat) (hk : k < us.length) : (nvs us).getD k .null = .int (nI (us.getD k 0)) := by simp [nvs, List.getD_eq_getElem?_getD, hk]
theorem bs_set (us : List Nat) (k c : Nat) : (nvs us).set k (.int (nI c)) = nvs (us.set k c) := by simp [nvs, List.map_set]
theorem bs_rep (n : Nat) : List.replicate n (Value.int 0) = nvs (List.replicate n 0) := by
  rw [nvs, List.map_replicate]
  rfl
theorem gd_lt {us : List Nat} (hu : ∀ c ∈ us, c < 128) (k : Nat) : us.getD k 0 < 128 := by
  rw [List.getD_eq_getElem?_getD]
  cases hk : us[k]? with
  | none => decide
  | some c => exact hu c (List.mem_of_getElem? hk)
theorem bs_fits {us : List Nat} (hu : ∀ c ∈ us, c < 128) : (nvs us).all (fits .byte) = true := by
  have key : ∀ c, c < 128 → fits .byte (.int (nI c)) = true := by decide +kernel
  rw [List.all_eq_true]
  intro v hv
  obtain ⟨c, hc, rfl⟩ := List.mem_map.mp hv
  exact key c (hu c hc)
theorem cA_bs {h : mx_H} {x : Nat} {us : List Nat} (ex : h[x]? = some (.inr .byte, nvs us)) (hu : ∀ c ∈ us, c < 128) {sp n : Nat} (hn : sp + n ≤ us.length) : mx_cA h .byte x sp n := by
  have key : ∀ c, c < 128 → mx_cel [] .byte (.int (nI c)) = true := by decide +kernel
  intro k hk
  rw [ce_e ex, bs_get us _ (by omega)]
  exact key _ (gd_lt hu _)
theorem bs_cpy {us ws : List Nat} {sp dp n : Nat} (h1 : sp + n ≤ us.length) (h2 : dp + n ≤ ws.length) : mx_cpy (nvs us) (nvs ws) sp dp n = nvs (ws.take dp ++ (us.drop sp).take n ++ ws.drop (dp + n)) := by
  apply List.ext_getElem?
  intro j
  have hl : (mx_cpy (nvs us) (nvs ws) sp dp n).length = ws.length := by rw [mx_cpy_len, bs_len]
  have hl2 : (nvs (ws.take dp ++ (us.drop sp).take n ++ ws.drop (dp + n))).length = ws.length := by
    rw [bs_len]
    simp
    omega
  by_cases hj : j < ws.length
  · have e1 := mx_cpy_get (nvs us) (nvs ws) sp dp n j
    rw [List.getD_eq_getElem?_getD, List.getElem?_eq_getElem (by omega)] at e1
    rw [List.getElem?_eq_getElem (by omega), List.getElem?_eq_getElem (by omega)]
    simp only [Option.getD_some] at e1
    rw [e1]
    have e2 := bs_get (ws.take dp ++ (us.drop sp).take n ++ ws.drop (dp + n)) j (by rw [bs_len] at hl2; omega)
    rw [List.getD_eq_getElem?_getD, List.getElem?_eq_getElem (by omega)] at e2
    simp only [Option.getD_some] at e2
    rw [e2]
    rw [bs_len]
    congr 1
    by_cases c1 : dp ≤ j ∧ j < dp + n
    · rw [if_pos ⟨hj, c1⟩, bs_get us _ (by omega)]
      congr 2
      rw [List.getD_eq_getElem?_getD, List.getD_eq_getElem?_getD, List.getElem?_append_left (by simp; omega), List.getElem?_append_right (by simp; omega)]
      have : (ws.take dp).length = dp := by simp; omega
      rw [this, List.getElem?_take, if_pos (by omega), List.getElem?_drop]
    · rw [if_neg (fun z => c1 z.2), bs_get ws _ hj]
      congr 2
      rw [List.getD_eq_getElem?_getD, List.getD_eq_getElem?_getD]
      have l1 : (ws.take dp).length = dp := by simp; omega
      have l2 : ((us.drop sp).take n).length = n := by simp; omega
      by_cases c2 : j < dp
      · rw [List.getElem?_append_left (by simp; omega), List.getElem?_append_left (by omega), List.getElem?_take, if_pos c2]
      · rw [List.getElem?_append_right (by rw [List.length_append]; omega), List.length_append, l1, l2, List.getElem?_drop]
        congr 2
        omega
  · rw [List.getElem?_eq_none (by omega), List.getElem?_eq_none (by omega)]
/-- the builder at p with its row at x, n of us in use -/
def SB (h : mx_H) (p x n : Nat) (us : List Nat) : Prop := (∃ m, h[p]? = some (.inl 2, [.ref x, .int 0, .int m, .int (nI n)])) ∧ h[x]? = some (.inr .byte, nvs us) ∧ (∀ c ∈ us, c < 128) ∧ n ≤ us.length ∧ us.length ≤ 1000 ∧ 63 ≤ x ∧ 63 ≤ p ∧ 16 ≤ us.length
theorem SB_f {h : mx_H} {p x n : Nat} {us : List Nat} (S : SB h p x n us) : mx_tag h p = some (.inl 2) ∧ mx_ln h p = 4 ∧ mx_el h p 0 = .ref x ∧ mx_el h p 1 = .int 0 ∧ mx_el h p 3 = .int (nI n) ∧ mx_tag h x = some (.inr .byte) ∧ mx_ln h x = us.length ∧ mt_nO ≤ x ∧ mt_nO ≤ p ∧ x ≠ p := by
  obtain ⟨⟨m, e1⟩, e2, -, -, -, e3, e4⟩ := S
  have hn : mt_nO = 63 := by decide
  refine ⟨ce_t e1, by rw [ce_n e1]; rfl, by rw [ce_e e1]; rfl, by rw [ce_e e1]; rfl, by rw [ce_e e1]; rfl, ce_t e2, by rw [ce_n e2, bs_len], by omega, by omega, ?_⟩
  rintro rfl
  rw [e1] at e2
  cases e2
theorem SB_fr {F : List Nat} {h h' : mx_H} {p x n : Nat} {us : List Nat} (S : SB h p x n us) (f : Fr F h h') (hp : p ∉ F) (hx : x ∉ F) : SB h' p x n us := by
  obtain ⟨⟨m, e1⟩, e2, e3⟩ := S
  exact ⟨⟨m, f.at e1 hp⟩, f.at e2 hx, e3⟩
/-- how a builder goes on -/
def SBx (h : mx_H) (p x : Nat) (us : List Nat) (h' : mx_H) (x' : Nat) (us' : List Nat) : Prop := Fr [p, x] h h' ∧ (x' = x ∨ h.length ≤ x') ∧ mw h' + 3 * us.length ≤ mw h + 3 * us'.length
theorem SBx.trans {h h' h'' : mx_H} {p x x' x'' : Nat} {us us' us'' : List Nat} (a : SBx h p x us h' x' us') (b : SBx h' p x' us' h'' x'' us'') : SBx h p x us h'' x'' us'' := by
  obtain ⟨a1, a2, a3⟩ := a
  obtain ⟨b1, b2, b3⟩ := b
  refine ⟨a1.trans b1 (fun q hq => ?_), ?_, by omega⟩
  · simp only [List.mem_cons, List.not_mem_nil, or_false] at hq ⊢
    rcases hq with rfl | rfl
    · exact Or.inl (Or.inl rfl)
    · exact a2.elim (fun z => Or.inl (Or.inr z)) (fun z => Or.inr z)
  · have := a1.1
    rcases b2 with rfl | z
    · exact a2
    · exact Or.inr (by omega)
theorem nI_subl {a b : Nat} (ha : a < 2 ^ 30) (hb : b < 2 ^ 30) : (nI a - nI b ≤ 0) = (a ≤ b) := by
  rw [Int32.le_iff_toInt_le, nI_subI ha hb]
  apply propext
  show (a : Int) - b ≤ 0 ↔ _
  omega
theorem nI_sub {a b : Nat} (h : b ≤ a) : nI a - nI b = nI (a - b) := by
  have : a = (a - b) + b := by omega
  rw [this, ← nI_add, Int32.add_sub_cancel, Nat.add_sub_cancel]
theorem shl0 (x : Int32) : x <<< ((0 : Int32) &&& 31) = x := by
  rw [show (0 : Int32) &&& 31 = 0 by decide]
  apply Int32.toBitVec_inj.1
  simp
section
variable {d : Nat} {h : mx_H} {p x n : Nat} {us : List Nat}
theorem jb_copyOf (hl : 63 ≤ h.length) (ex : h[x]? = some (.inr .byte, nvs us)) (hu : ∀ c ∈ us, c < 128) {N : Nat} (hN : us.length < N) (hN2 : N ≤ 1000) :
    ∃ h', mx_G (d + 2) 62 0 [some (.ref x), some (.int (nI N)), none] [] h = some (some (.ref h.length), h') ∧ h'[h.length]? = some (.inr .byte, nvs (us ++ List.replicate (N - us.length) 0)) ∧ Fr [] h h' ∧ mw h' = mw h + 12 + N := by
  have hx := ce_l ex
  have e0 : (h ++ [((.inr .byte : Nat ⊕ FieldType), List.replicate N (Value.int 0))])[x]? = some (.inr .byte, nvs us) := by rw [c_appn hx]; exact ex
  have e1 : (h ++ [((.inr .byte : Nat ⊕ FieldType), List.replicate N (Value.int 0))])[h.length]? = some (.inr .byte, nvs (List.replicate N 0)) := by rw [c_app, bs_rep]
  have m1 := js_min (d := d + 1) (h := h ++ [((.inr .byte : Nat ⊕ FieldType), List.replicate N (Value.int 0))]) us.length N (by omega) (by omega)
  rw [show min us.length N = us.length by omega] at m1
  have hn : mt_nO ≤ h.length := by rw [show mt_nO = 63 by decide]; exact hl
  refine ⟨mx_cp (h ++ [((.inr .byte : Nat ⊕ FieldType), List.replicate N (Value.int 0))]) x 0 h.length 0 us.length, ?_, ?_, ?_, ?_⟩
  · have q1 : ¬ nI N = nI us.length := fun z => by have := (nI_eq (by omega) (by omega)).mp z; omega
    have q2 := cA_bs e0 hu (sp := 0) (n := us.length) (by omega)
    simp only [g62_0, g62_1, g62_2, g62_2c, g62_2i, g62_2q, g62_3, g62_6, g62_7, g62_10n, g62_10, g62_13, g62_14, g62_15, g62_17, g62_18, g62_19, g62_20, g62_21, g62_22, g62_23, g62_23c, g62_23i, g62_23q, g62_24, g62_25, g62_28, g62_31, g62_32, mx_isr_ref, mx_isr_null, mx_wt_nil, mx_wt_1, mx_wt_2, mx_wt_3, Option.bind_some, Option.toList_some, Option.toList_none, List.cons_append, List.nil_append, mx_nl_int, mx_nl_ref, mx_nl_null, mx_nl_none, mx_nb0, mx_nb1, mx_fb0, mx_fb1, mx_cat_int, mx_cat_ref, if_true, if_false, not_true_eq_false, not_false_eq_true, mx_wt_4, mx_w4_0, mx_w9_0, mx_w9_1, mx_kn_int, mx_kn_ref, mx_kn_null, Nat.reduceLT, ofn, n10, ce_t ex, ce_n ex, bs_len, q1, nI_pos' (show N < 2 ^ 31 by omega), nI_clamp (show N < 2 ^ 31 by omega), show N ≤ 1000000 by omega, show defaultValue FieldType.byte = Value.int 0 from rfl, ce_t e0, ce_n e0, ce_t e1, ce_n e1, m1, hn, nI_pos' (show us.length < 2 ^ 31 by omega), nI_clamp (show us.length < 2 ^ 31 by omega), show (0 : Int32) ≤ 0 by decide, show (0 : Int32).toNatClampNeg = 0 by decide, q2, Nat.zero_add, Nat.le_refl, List.length_replicate, Nat.le_of_lt hN]
  · rw [c_cp e0 e1, bs_cpy (by omega) (by simp; omega)]
    simp
  · exact (Fr.app [] h _).trans (Fr.cp (F := [h.length]) List.mem_cons_self) (fun a ha => by
      rw [List.mem_singleton] at ha
      exact Or.inr (by omega))
  · rw [mw_cp, mw_app]
    simp
    omega
theorem jb_newLen {a m q : Nat} (ha : a ≤ 1000) (hm : m ≤ 1000) (hq : q ≤ 2000) (h0 : 0 < a + max m q) : mx_G (d + 1) 60 0 [some (.int (nI a)), some (.int (nI m)), some (.int (nI q)), none] [] h = some (some (.int (nI (a + max m q))), h) := by
  have m1 := js_max (d := d) (h := h) m q (by omega) (by omega)
  have q1 : ¬ nI (a + max m q) ≤ (0 : Int32) := nI_nle h0 (by omega)
  have q2 : ¬ (2147483639 : Int32) < nI (a + max m q) := by
    rw [show (2147483639 : Int32) = nI 2147483639 by rfl, nI_ltI (by omega) (by omega)]
    omega
  simp only [g60_0, g60_1, g60_2, g60_3, g60_6, g60_7, g60_8, g60_9, g60_10, g60_13, g60_14, g60_16, g60_19, g60_20, g60_21, g60_22, g60_23, g60_26, mx_isr_ref, mx_isr_null, mx_wt_nil, mx_wt_1, mx_wt_2, mx_wt_3, Option.bind_some, Option.toList_some, Option.toList_none, List.cons_append, List.nil_append, mx_nl_int, mx_nl_ref, mx_nl_null, mx_nl_none, mx_nb0, mx_nb1, mx_fb0, mx_fb1, mx_cat_int, mx_cat_ref, if_true, if_false, not_true_eq_false, not_false_eq_true, mx_wt_4, mx_w4_0, mx_w9_0, mx_w9_1, mx_kn_int, mx_kn_ref, mx_kn_null, Nat.reduceLT, ofn, n10, m1, nI_add, q1, q2]
theorem jb_newCap (S : SB h p x n us) {k : Nat} (hk : us.length < k) (hk2 : k ≤ 450) : mx_G (d + 2) 59 0 [some (.ref p), some (.int (nI k)), none, none, none, none] [] h = some (some (.int (nI (us.length + max (k - us.length) (us.length + 2)))), h) := by
  obtain ⟨f1, f2, f3, f4, f5, f6, f7, f8, f9, f10⟩ := SB_f S
  have m1 := jb_newLen (d := d) (h := h) (a := us.length) (m := k - us.length) (q := us.length + 2) (by omega) (by omega) (by omega) (by omega)
  have q1 : ¬ nI (us.length + max (k - us.length) (us.length + 2)) = (2147483647 : Int32) := fun z => by
    have := (nI_eq (b := 2147483647) (by omega) (by omega)).mp z
    omega
  simp only [g59_0, g59_1, g59_4, g59_4c, g59_4i, g59_4q, g59_5, g59_6, g59_7, g59_8, g59_11, g59_12, g59_13, g59_14, g59_15, g59_16, g59_18, g59_19, g59_21, g59_22, g59_23, g59_24, g59_27, g59_28, g59_29, g59_32, g59_34, g59_36, g59_38, g59_44, g59_51, g59_53, g59_54, g59_57, g59_58, mx_isr_ref, mx_isr_null, mx_wt_nil, mx_wt_1, mx_wt_2, mx_wt_3, Option.bind_some, Option.toList_some, Option.toList_none, List.cons_append, List.nil_append, mx_nl_int, mx_nl_ref, mx_nl_null, mx_nl_none, mx_nb0, mx_nb1, mx_fb0, mx_fb1, mx_cat_int, mx_cat_ref, if_true, if_false, not_true_eq_false, not_false_eq_true, mx_wt_4, mx_w4_0, mx_w9_0, mx_w9_1, mx_kn_int, mx_kn_ref, mx_kn_null, Nat.reduceLT, ofn, n10, f1, f2, f3, f4, f6, f7, shl0, sh0, nI_sub (Nat.le_of_lt hk), nI_add, show nI us.length + 2 = nI (us.length + 2) from nI_add _ 2, m1, q1]
theorem jb_ens (S : SB h p x n us) {k : Nat} (hk2 : k ≤ 450) :
    ∃ h' x' us', mx_G (d + 3) 58 0 [some (.ref p), some (.int (nI k)), none] [] h = some (none, h') ∧ SB h' p x' n us' ∧ us'.take n = us.take n ∧ k ≤ us'.length ∧ SBx h p x us h' x' us' := by
  obtain ⟨f1, f2, f3, f4, f5, f6, f7, f8, f9, f10⟩ := SB_f S
  by_cases hk : k ≤ us.length
  · refine ⟨h, x, us, ?_, S, rfl, hk, Fr.rfl _ _, Or.inl rfl, Nat.le_refl _⟩
    have q1 := nI_subl (a := k) (b := us.length) (by omega) (by have := S.2.2.2.2.1; omega)
    simp only [g58_0, g58_1, g58_4, g58_4c, g58_4i, g58_4q, g58_5, g58_6, g58_9, g58_10, g58_11, g58_12, g58_13, g58_14, g58_17, g58_18, g58_19, g58_22, g58_23, g58_24, g58_27, g58_28, g58_31, g58_32, g58_35, g58_38, mx_isr_ref, mx_isr_null, mx_wt_nil, mx_wt_1, mx_wt_2, mx_wt_3, Option.bind_some, Option.toList_some, Option.toList_none, List.cons_append, List.nil_append, mx_nl_int, mx_nl_ref, mx_nl_null, mx_nl_none, mx_nb0, mx_nb1, mx_fb0, mx_fb1, mx_cat_int, mx_cat_ref, if_true, if_false, not_true_eq_false, not_false_eq_true, mx_wt_4, mx_w4_0, mx_w9_0, mx_w9_1, mx_kn_int, mx_kn_ref, mx_kn_null, Nat.reduceLT, ofn, n10, f1, f2, f3, f4, f6, f7, sh0, q1, hk]
  · have hl : 63 ≤ h.length := by
      have := S.2.2.2.2.2.2
      obtain ⟨⟨m, e⟩, -⟩ := S
      have := ce_l e
      omega
    obtain ⟨⟨m, ep⟩, ex, hu, hn, h1000, hx63, hp63⟩ := S
    have S : SB h p x n us := ⟨⟨m, ep⟩, ex, hu, hn, h1000, hx63, hp63⟩
    obtain ⟨h1, c1, c2, c3, c4⟩ := jb_copyOf (d := d) hl ex hu (N := us.length + max (k - us.length) (us.length + 2)) (by omega) (by omega)
    have m1 := jb_newCap (d := d) S (k := k) (by omega) hk2
    have q1 := nI_subl (a := k) (b := us.length) (by omega) (by omega)
    have ep1 := c3.at ep (by simp)
    have hpl := ce_l ep
    refine ⟨mx_up h1 p 0 (.ref h.length), h.length, us ++ List.replicate (us.length + max (k - us.length) (us.length + 2) - us.length) 0, ?_, ⟨⟨m, c_up ep1⟩, ?_, ?_, ?_, ?_, hl, hp63.1, by rw [List.length_append]; omega⟩, ?_, ?_, ?_, Or.inr (Nat.le_refl _), ?_⟩
    · simp only [g58_0, g58_1, g58_4, g58_4c, g58_4i, g58_4q, g58_5, g58_6, g58_9, g58_10, g58_11, g58_12, g58_13, g58_14, g58_17, g58_18, g58_19, g58_22, g58_23, g58_24, g58_27, g58_28, g58_31, g58_32, g58_35, g58_38, mx_isr_ref, mx_isr_null, mx_wt_nil, mx_wt_1, mx_wt_2, mx_wt_3, Option.bind_some, Option.toList_some, Option.toList_none, List.cons_append, List.nil_append, mx_nl_int, mx_nl_ref, mx_nl_null, mx_nl_none, mx_nb0, mx_nb1, mx_fb0, mx_fb1, mx_cat_int, mx_cat_ref, if_true, if_false, not_true_eq_false, not_false_eq_true, mx_wt_4, mx_w4_0, mx_w9_0, mx_w9_1, mx_kn_int, mx_kn_ref, mx_kn_null, Nat.reduceLT, ofn, n10, f1, f2, f3, f4, f6, f7, sh0, shl0, q1, hk, m1, c1, ce_t ep1, f9]
    · rw [c_upn (by omega)]
      exact c2
    · intro c hc
      rcases List.mem_append.mp hc with z | z
      · exact hu c z
      · rw [(List.mem_replicate.mp z).2]; decide
    · rw [List.length_append]; omega
    · rw [List.length_append, List.length_replicate]; omega
    · rw [List.take_append_of_le_length hn]
    · rw [List.length_append, List.length_replicate]; omega
    · exact (c3.mono (fun _ z => absurd z (by simp))).trans (Fr.up (F := [p]) List.mem_cons_self) (fun a ha => Or.inl (by rw [List.mem_singleton] at ha; simp [ha]))
    · rw [mw_up, c4, List.length_append, List.length_replicate]; omega
theorem jb_latin (S : SB h p x n us) : mx_G d 63 0 [some (.ref p)] [] h = some (some (.int 1), h) := by
  obtain ⟨f1, f2, f3, f4, f5, f6, f7, f8, f9, f10⟩ := SB_f S
  simp only [g63_0, g63_3, g63_6, g63_7, g63_10, g63_13, g63_14, g63_17, g63_18, mx_isr_ref, mx_isr_null, mx_wt_nil, mx_wt_1, mx_wt_2, mx_wt_3, Option.bind_some, Option.toList_some, Option.toList_none, List.cons_append, List.nil_append, mx_nl_int, mx_nl_ref, mx_nl_null, mx_nl_none, mx_nb0, mx_nb1, mx_fb0, mx_fb1, mx_cat_int, mx_cat_ref, if_true, if_false, not_true_eq_false, not_false_eq_true, mx_wt_4, mx_w4_0, mx_w9_0, mx_w9_1, mx_kn_int, mx_kn_ref, mx_kn_null, Nat.reduceLT, ofn, n10, f1, f2, f4]
theorem jb_set0 (S : SB h p x n us) : ∃ h', mx_G (d + 5) 56 0 [some (.ref p), some (.int 0)] [] h = some (none, h') ∧ SB h' p x 0 us ∧ Fr [p] h h' ∧ mw h' = mw h := by
  obtain ⟨f1, f2, f3, f4, f5, f6, f7, f8, f9, f10⟩ := SB_f S
  obtain ⟨⟨m, ep⟩, ex, hu, hn, h1000, hx63, hp63⟩ := S
  have q1 := nI_subl (a := 0) (b := us.length) (by omega) (by omega)
  rw [nI_0] at q1
  have k58 : mx_G (d + 3) 58 0 [some (.ref p), some (.int 0), none] [] h = some (none, h) := by
    simp only [g58_0, g58_1, g58_4, g58_4c, g58_4i, g58_4q, g58_5, g58_6, g58_9, g58_10, g58_11, g58_12, g58_13, g58_14, g58_17, g58_18, g58_19, g58_22, g58_23, g58_24, g58_27, g58_28, g58_31, g58_32, g58_35, g58_38, mx_isr_ref, mx_isr_null, mx_wt_nil, mx_wt_1, mx_wt_2, mx_wt_3, Option.bind_some, Option.toList_some, Option.toList_none, List.cons_append, List.nil_append, mx_nl_int, mx_nl_ref, mx_nl_null, mx_nl_none, mx_nb0, mx_nb1, mx_fb0, mx_fb1, mx_cat_int, mx_cat_ref, if_true, if_false, not_true_eq_false, not_false_eq_true, mx_wt_4, mx_w4_0, mx_w9_0, mx_w9_1, mx_kn_int, mx_kn_ref, mx_kn_null, Nat.reduceLT, ofn, n10, f1, f2, f3, f4, f6, f7, sh0, q1, Nat.zero_le]
  by_cases h0 : nI n ≤ (0 : Int32)
  · refine ⟨mx_up h p 3 (.int 0), ?_, ⟨⟨m, c_up ep⟩, by rw [c_upn f10]; exact ex, hu, Nat.zero_le _, h1000, hx63, hp63⟩, Fr.up List.mem_cons_self, mw_up _ _ _ _⟩
    have k57 : mx_G (d + 4) 57 0 [some (.ref p), some (.int 0)] [] h = some (none, mx_up h p 3 (.int 0)) := by
      simp only [g57_0, g57_1, g57_7, g57_8, g57_13, g57_14, g57_15, g57_18, g57_19, g57_22, g57_23, g57_26, g57_27, g57_30, g57_33, g57_34, g57_37, g57_38, g57_41, g57_42, g57_45, g57_48, g57_49, g57_52, g57_53, g57_56, g57_57, g57_60, g57_63, g57_64, g57_67, g57_68, g57_71, g57_72, g57_73, g57_76, g57_77, g57_78, g57_81, mx_isr_ref, mx_isr_null, mx_wt_nil, mx_wt_1, mx_wt_2, mx_wt_3, Option.bind_some, Option.toList_some, Option.toList_none, List.cons_append, List.nil_append, mx_nl_int, mx_nl_ref, mx_nl_null, mx_nl_none, mx_nb0, mx_nb1, mx_fb0, mx_fb1, mx_cat_int, mx_cat_ref, if_true, if_false, not_true_eq_false, not_false_eq_true, mx_wt_4, mx_w4_0, mx_w9_0, mx_w9_1, mx_kn_int, mx_kn_ref, mx_kn_null, Nat.reduceLT, ofn, n10, show (0 : Int32) ≤ 0 by decide, f1, f2, f5, k58, nI_pos' (show n < 2 ^ 31 by omega), h0, f9]
    simp only [g56_0, g56_1, g56_2, g56_5, mx_isr_ref, mx_isr_null, mx_wt_nil, mx_wt_1, mx_wt_2, mx_wt_3, Option.bind_some, Option.toList_some, Option.toList_none, List.cons_append, List.nil_append, mx_nl_int, mx_nl_ref, mx_nl_null, mx_nl_none, mx_nb0, mx_nb1, mx_fb0, mx_fb1, mx_cat_int, mx_cat_ref, if_true, if_false, not_true_eq_false, not_false_eq_true, mx_wt_4, mx_w4_0, mx_w9_0, mx_w9_1, mx_kn_int, mx_kn_ref, mx_kn_null, Nat.reduceLT, ofn, n10, f1, k57]
  · refine ⟨mx_up (mx_up h p 2 (.int 1)) p 3 (.int 0), ?_, ⟨⟨1, c_up (c_up ep)⟩, by rw [c_upn f10, c_upn f10]; exact ex, hu, Nat.zero_le _, h1000, hx63, hp63⟩, (Fr.up List.mem_cons_self).trans (Fr.up (F := [p]) List.mem_cons_self) (fun a ha => Or.inl ha), by rw [mw_up, mw_up]⟩
    have k57 : mx_G (d + 4) 57 0 [some (.ref p), some (.int 0)] [] h = some (none, mx_up (mx_up h p 2 (.int 1)) p 3 (.int 0)) := by
      simp only [g57_0, g57_1, g57_7, g57_8, g57_13, g57_14, g57_15, g57_18, g57_19, g57_22, g57_23, g57_26, g57_27, g57_30, g57_33, g57_34, g57_37, g57_38, g57_41, g57_42, g57_45, g57_48, g57_49, g57_52, g57_53, g57_56, g57_57, g57_60, g57_63, g57_64, g57_67, g57_68, g57_71, g57_72, g57_73, g57_76, g57_77, g57_78, g57_81, mx_isr_ref, mx_isr_null, mx_wt_nil, mx_wt_1, mx_wt_2, mx_wt_3, Option.bind_some, Option.toList_some, Option.toList_none, List.cons_append, List.nil_append, mx_nl_int, mx_nl_ref, mx_nl_null, mx_nl_none, mx_nb0, mx_nb1, mx_fb0, mx_fb1, mx_cat_int, mx_cat_ref, if_true, if_false, not_true_eq_false, not_false_eq_true, mx_wt_4, mx_w4_0, mx_w9_0, mx_w9_1, mx_kn_int, mx_kn_ref, mx_kn_null, Nat.reduceLT, ofn, n10, show (0 : Int32) ≤ 0 by decide, f1, f2, f5, k58, nI_pos' (show n < 2 ^ 31 by omega), h0, f9, mx_tag_up]
    simp only [g56_0, g56_1, g56_2, g56_5, mx_isr_ref, mx_isr_null, mx_wt_nil, mx_wt_1, mx_wt_2, mx_wt_3, Option.bind_some, Option.toList_some, Option.toList_none, List.cons_append, List.nil_append, mx_nl_int, mx_nl_ref, mx_nl_null, mx_nl_none, mx_nb0, mx_nb1, mx_fb0, mx_fb1, mx_cat_int, mx_cat_ref, if_true, if_false, not_true_eq_false, not_false_eq_true, mx_wt_4, mx_w4_0, mx_w9_0, mx_w9_1, mx_kn_int, mx_kn_ref, mx_kn_null, Nat.reduceLT, ofn, n10, f1, k57]
theorem jb_app (S : SB h p x n us) {c : Nat} (hc : c < 128) (hn : n + 1 ≤ 450) :
    ∃ h' x' us', mx_G (d + 5) 68 0 [some (.ref p), some (.int (nI c))] [] h = some (some (.ref p), h') ∧ SB h' p x' (n + 1) us' ∧ us'.take (n + 1) = us.take n ++ [c] ∧ SBx h p x us h' x' us' := by
  obtain ⟨h1, x1, u1, g1, S1, t1, l1, X1⟩ := jb_ens (d := d) S (k := n + 1) hn
  obtain ⟨f1, f2, f3, f4, f5, f6, f7, f8, f9, f10⟩ := SB_f S
  obtain ⟨k1, k2, k3, k4, k5, k6, k7, k8, k9, k10⟩ := SB_f S1
  obtain ⟨⟨m, ep⟩, ex, hu, hn1, h1000, hx63, hp63⟩ := S1
  have S1 : SB h1 p x1 n u1 := ⟨⟨m, ep⟩, ex, hu, hn1, h1000, hx63, hp63⟩
  have k70 : mx_G (d + 3) 70 0 [some (.int (nI c))] [] h1 = some (some (.int 1), h1) := by
    simp only [g70_0, g70_1, g70_4, g70_7, g70_8, g70_11, g70_12, mx_isr_ref, mx_isr_null, mx_wt_nil, mx_wt_1, mx_wt_2, mx_wt_3, Option.bind_some, Option.toList_some, Option.toList_none, List.cons_append, List.nil_append, mx_nl_int, mx_nl_ref, mx_nl_null, mx_nl_none, mx_nb0, mx_nb1, mx_fb0, mx_fb1, mx_cat_int, mx_cat_ref, if_true, if_false, not_true_eq_false, not_false_eq_true, mx_wt_4, mx_w4_0, mx_w9_0, mx_w9_1, mx_kn_int, mx_kn_ref, mx_kn_null, Nat.reduceLT, ofn, n10, show ¬ (255 : Int32) < nI c by rw [show (255 : Int32) = nI 255 by rfl, nI_ltI (by omega) (by omega)]; omega]
  have k69 : mx_G (d + 4) 69 0 [some (.ref p), some (.int (nI c))] [] h = some (some (.ref p), mx_up (mx_up h1 p 3 (.int (nI (n + 1)))) x1 n (.int (nI c))) := by
    simp only [g69_0, g69_1, g69_2, g69_5, g69_6, g69_7, g69_10, g69_11, g69_14, g69_17, g69_18, g69_21, g69_24, g69_25, g69_28, g69_29, g69_30, g69_33, g69_34, g69_35, g69_36, g69_39, g69_40, g69_41, g69_41z, g69_42, g69_45, g69_46, g69_49, g69_52, g69_53, g69_56, g69_57, g69_60, g69_61, g69_62, g69_65, g69_66, g69_67, g69_68, g69_71, g69_72, g69_75, g69_76, mx_isr_ref, mx_isr_null, mx_wt_nil, mx_wt_1, mx_wt_2, mx_wt_3, Option.bind_some, Option.toList_some, Option.toList_none, List.cons_append, List.nil_append, mx_nl_int, mx_nl_ref, mx_nl_null, mx_nl_none, mx_nb0, mx_nb1, mx_fb0, mx_fb1, mx_cat_int, mx_cat_ref, if_true, if_false, not_true_eq_false, not_false_eq_true, mx_wt_4, mx_w4_0, mx_w9_0, mx_w9_1, mx_kn_int, mx_kn_ref, mx_kn_null, Nat.reduceLT, ofn, n10, f1, f2, f5, nI_1, g1, jb_latin S1, k70, k1, k2, k3, k5, k6, k7, k8, k9, mx_tag_up, mx_ln_up, (nI_c hc).2.1, nI_pos' (show n < 2 ^ 31 by omega), nI_clamp (show n < 2 ^ 31 by omega), show n < u1.length by omega, (nI_c hc).2.2.2.1]
  refine ⟨mx_up (mx_up h1 p 3 (.int (nI (n + 1)))) x1 n (.int (nI c)), x1, u1.set n c, ?_, ⟨⟨m, ?_⟩, ?_, ?_, ?_, ?_, hx63, hp63.1, by rw [List.length_set]; exact hp63.2⟩, ?_, ?_⟩
  · simp only [g68_0, g68_1, g68_2, g68_5, g68_6, g68_7, mx_isr_ref, mx_isr_null, mx_wt_nil, mx_wt_1, mx_wt_2, mx_wt_3, Option.bind_some, Option.toList_some, Option.toList_none, List.cons_append, List.nil_append, mx_nl_int, mx_nl_ref, mx_nl_null, mx_nl_none, mx_nb0, mx_nb1, mx_fb0, mx_fb1, mx_cat_int, mx_cat_ref, if_true, if_false, not_true_eq_false, not_false_eq_true, mx_wt_4, mx_w4_0, mx_w9_0, mx_w9_1, mx_kn_int, mx_kn_ref, mx_kn_null, Nat.reduceLT, ofn, n10, f1, k69]
  · rw [c_upn (Ne.symm k10)]
    exact c_up ep
  · rw [c_up (by rw [c_upn k10]; exact ex), bs_set]
  · intro q hq
    rcases List.mem_or_eq_of_mem_set hq with z | z
    · exact hu q z
    · rw [z]; exact hc
  · rw [List.length_set]; exact l1
  · rw [List.length_set]; exact h1000
  · rw [← t1, List.take_add_one, List.take_set_of_le (Nat.le_refl _)]
    simp [List.getElem?_set_self (show n < u1.length by omega)]
  · refine X1.trans ⟨(Fr.up (by simp)).trans (Fr.up (F := [p, x1]) (by simp)) (fun a ha => Or.inl ha), Or.inl rfl, by rw [mw_up, mw_up, List.length_set]; exact Nat.le_refl _⟩
/-- what toString gives -/
theorem jb_range (hl : 63 ≤ h.length) (ex : h[x]? = some (.inr .byte, nvs us)) (hx63 : 63 ≤ x) (hu : ∀ c ∈ us, c < 128) (hn : n ≤ us.length) (h1000 : us.length ≤ 1000) :
    ∃ h', mx_G (d + 4) 88 0 [some (.ref x), some (.int 0), some (.int (nI n))] [] h = some (some (.ref h.length), h') ∧ h'[h.length]? = some (.inr .byte, nvs (us.take n)) ∧ Fr [] h h' ∧ mw h' = mw h + 12 + n := by
  have hnO : ∀ k, 63 ≤ k → mt_nO ≤ k := fun k hk => by rw [show mt_nO = 63 by decide]; exact hk
  by_cases e : n = us.length
  · subst e
    have e1 : (h ++ [((.inr .byte : Nat ⊕ FieldType), nvs us)])[h.length]? = some (.inr .byte, nvs us) := c_app _ _
    refine ⟨h ++ [(.inr .byte, nvs us)], ?_, by rw [List.take_length]; exact e1, Fr.app _ _ _, by rw [mw_app, bs_len]; omega⟩
    simp only [g88_0, g88_1, g88_4, g88_5, g88_6, g88_6c, g88_6i, g88_6q, g88_7, g88_10, g88_11, g88_12, g88_13, g88_16, g88_17, g88_18, g88_21n, g88_21, g88_24, mx_isr_ref, mx_isr_null, mx_wt_nil, mx_wt_1, mx_wt_2, mx_wt_3, Option.bind_some, Option.toList_some, Option.toList_none, List.cons_append, List.nil_append, mx_nl_int, mx_nl_ref, mx_nl_null, mx_nl_none, mx_nb0, mx_nb1, mx_fb0, mx_fb1, mx_cat_int, mx_cat_ref, if_true, if_false, not_true_eq_false, not_false_eq_true, mx_wt_4, mx_w4_0, mx_w9_0, mx_w9_1, mx_kn_int, mx_kn_ref, mx_kn_null, Nat.reduceLT, ofn, n10, ce_t ex, ce_n ex, bs_len, ce_v ex, bs_fits hu, hnO x hx63, ce_t e1, hnO h.length hl]
  · have hx := ce_l ex
    have e0 : (h ++ [((.inr .byte : Nat ⊕ FieldType), List.replicate n (Value.int 0))])[x]? = some (.inr .byte, nvs us) := by rw [c_appn hx]; exact ex
    have e1 : (h ++ [((.inr .byte : Nat ⊕ FieldType), List.replicate n (Value.int 0))])[h.length]? = some (.inr .byte, nvs (List.replicate n 0)) := by rw [c_app, bs_rep]
    have m1 := js_min (d := d + 2) (h := h ++ [((.inr .byte : Nat ⊕ FieldType), List.replicate n (Value.int 0))]) us.length n (by omega) (by omega)
    rw [show min us.length n = n by omega] at m1
    have k90 : mx_G (d + 2) 90 0 [some (.int 0), some (.int (nI n))] [] h = some (none, h) := by
      simp only [g90_0, g90_1, g90_2, g90_8, g90_12, g90_16, g90_26, g90_37, mx_isr_ref, mx_isr_null, mx_wt_nil, mx_wt_1, mx_wt_2, mx_wt_3, Option.bind_some, Option.toList_some, Option.toList_none, List.cons_append, List.nil_append, mx_nl_int, mx_nl_ref, mx_nl_null, mx_nl_none, mx_nb0, mx_nb1, mx_fb0, mx_fb1, mx_cat_int, mx_cat_ref, if_true, if_false, not_true_eq_false, not_false_eq_true, mx_wt_4, mx_w4_0, mx_w9_0, mx_w9_1, mx_kn_int, mx_kn_ref, mx_kn_null, Nat.reduceLT, ofn, n10, nI_pos' (show n < 2 ^ 31 by omega)]
    have q2 := cA_bs e0 hu (sp := 0) (n := n) (by omega)
    have z1 : nI n - 0 = nI n := by rw [show (0 : Int32) = nI 0 by rfl, nI_sub (Nat.zero_le _), Nat.sub_zero]
    have z2 : nI us.length - 0 = nI us.length := by rw [show (0 : Int32) = nI 0 by rfl, nI_sub (Nat.zero_le _), Nat.sub_zero]
    have k89 : mx_G (d + 3) 89 0 [some (.ref x), some (.int 0), some (.int (nI n)), none, none] [] h = some (some (.ref h.length), mx_cp (h ++ [((.inr .byte : Nat ⊕ FieldType), List.replicate n (Value.int 0))]) x 0 h.length 0 n) := by
      simp only [g89_0, g89_1, g89_2, g89_5, g89_6, g89_7, g89_8, g89_9, g89_10, g89_12, g89_14, g89_15, g89_16, g89_18, g89_19, g89_20, g89_20c, g89_20i, g89_20q, g89_21, g89_22, g89_23, g89_24, g89_27, g89_30, g89_32, mx_isr_ref, mx_isr_null, mx_wt_nil, mx_wt_1, mx_wt_2, mx_wt_3, Option.bind_some, Option.toList_some, Option.toList_none, List.cons_append, List.nil_append, mx_nl_int, mx_nl_ref, mx_nl_null, mx_nl_none, mx_nb0, mx_nb1, mx_fb0, mx_fb1, mx_cat_int, mx_cat_ref, if_true, if_false, not_true_eq_false, not_false_eq_true, mx_wt_4, mx_w4_0, mx_w9_0, mx_w9_1, mx_kn_int, mx_kn_ref, mx_kn_null, Nat.reduceLT, ofn, n10, k90, z1, z2, nI_pos' (show n < 2 ^ 31 by omega), nI_clamp (show n < 2 ^ 31 by omega), show n ≤ 1000000 by omega, show defaultValue FieldType.byte = Value.int 0 from rfl, ce_t e0, ce_n e0, ce_t e1, ce_n e1, bs_len, m1, hnO h.length hl, show (0 : Int32) ≤ 0 by decide, show (0 : Int32).toNatClampNeg = 0 by decide, q2, Nat.zero_add, Nat.le_refl, List.length_replicate, hn]
    refine ⟨mx_cp (h ++ [((.inr .byte : Nat ⊕ FieldType), List.replicate n (Value.int 0))]) x 0 h.length 0 n, ?_, ?_, ?_, ?_⟩
    · have q1 : ¬ nI n = nI us.length := fun z => e ((nI_eq (by omega) (by omega)).mp z)
      simp only [g88_0, g88_1, g88_4, g88_5, g88_6, g88_6c, g88_6i, g88_6q, g88_7, g88_10, g88_11, g88_12, g88_13, g88_16, g88_17, g88_18, g88_21n, g88_21, g88_24, mx_isr_ref, mx_isr_null, mx_wt_nil, mx_wt_1, mx_wt_2, mx_wt_3, Option.bind_some, Option.toList_some, Option.toList_none, List.cons_append, List.nil_append, mx_nl_int, mx_nl_ref, mx_nl_null, mx_nl_none, mx_nb0, mx_nb1, mx_fb0, mx_fb1, mx_cat_int, mx_cat_ref, if_true, if_false, not_true_eq_false, not_false_eq_true, mx_wt_4, mx_w4_0, mx_w9_0, mx_w9_1, mx_kn_int, mx_kn_ref, mx_kn_null, Nat.reduceLT, ofn, n10, ce_t ex, ce_n ex, bs_len, q1, k89]
    · rw [c_cp e0 e1, bs_cpy (by omega) (by simp)]
      simp
    · exact (Fr.app [] h _).trans (Fr.cp (F := [h.length]) List.mem_cons_self) (fun a ha => by
        rw [List.mem_singleton] at ha
        exact Or.inr (by omega))
    · rw [mw_cp, mw_app]
      simp
      omega
theorem jb_str (S : SB h p x n us) : ∃ h', mx_G (d + 7) 82 0 [some (.ref p)] [] h = some (some (.ref h.length), h') ∧ sB h' h.length (h.length + 1) (us.take n) ∧ Fr [] h h' ∧ mw h' = mw h + 28 + n := by
  obtain ⟨f1, f2, f3, f4, f5, f6, f7, f8, f9, f10⟩ := SB_f S
  obtain ⟨⟨m, ep⟩, ex, hu, hn, h1000, hx63, hp63⟩ := S
  have hpl := ce_l ep
  have hxl := ce_l ex
  generalize hh : h ++ [((.inl 5 : Nat ⊕ FieldType), [Value.null, .int 0, .int 0, .int 0])] = h0
  have l0 : h0.length = h.length + 1 := by rw [← hh]; simp
  have es : h0[h.length]? = some (.inl 5, [.null, .int 0, .int 0, .int 0]) := by rw [← hh, c_app]
  have S0 : SB h0 p x n us := by
    refine SB_fr ⟨⟨m, ep⟩, ex, hu, hn, h1000, hx63, hp63⟩ (F := []) ?_ (by simp) (by simp)
    rw [← hh]
    exact Fr.app _ _ _
  have hnl : mt_nO ≤ h.length := by rw [show mt_nO = 63 by decide]; omega
  have S1 : SB (mx_up h0 h.length 1 (.int 0)) p x n us := SB_fr S0 (F := [h.length]) (Fr.up List.mem_cons_self) (by simp; omega) (by simp; omega)
  obtain ⟨h2, r1, r2, r3, r4⟩ := jb_range (d := d) (h := mx_up h0 h.length 1 (.int 0)) (x := x) (us := us) (n := n) (by rw [mx_len_up]; omega) S1.2.1 hx63 hu hn h1000
  obtain ⟨k1, k2, k3, k4, k5, k6, k7, k8, k9, k10⟩ := SB_f S0
  rw [mx_len_up, l0] at r1 r2
  have es2 : h2[h.length]? = some (.inl 5, [.null, .int 0, .int 0, .int 0]) := r3.at (c_up es) (by simp)
  refine ⟨mx_up h2 h.length 0 (.ref (h.length + 1)), ?_, ⟨⟨_, _, c_up es2⟩, by rw [c_upn (by omega)]; exact r2, fun c hc => hu c (List.mem_of_mem_take hc), by rw [List.length_take]; omega, Or.inl (by omega)⟩, ?_, ?_⟩
  · have k85 : mx_G (d + 4) 85 0 [some (.ref p)] [] h0 = some (some (.ref x), h0) := by
      simp only [g85_0, g85_1, g85_4, mx_isr_ref, mx_isr_null, mx_wt_nil, mx_wt_1, mx_wt_2, mx_wt_3, Option.bind_some, Option.toList_some, Option.toList_none, List.cons_append, List.nil_append, mx_nl_int, mx_nl_ref, mx_nl_null, mx_nl_none, mx_nb0, mx_nb1, mx_fb0, mx_fb1, mx_cat_int, mx_cat_ref, if_true, if_false, not_true_eq_false, not_false_eq_true, mx_wt_4, mx_w4_0, mx_w9_0, mx_w9_1, mx_kn_int, mx_kn_ref, mx_kn_null, Nat.reduceLT, ofn, n10, k1, k2, k3]
    have k87 : mx_G (d + 3) 87 0 [some (.ref p)] [] h0 = some (some (.int (nI n)), h0) := by
      simp only [g87_0, g87_1, g87_4, mx_isr_ref, mx_isr_null, mx_wt_nil, mx_wt_1, mx_wt_2, mx_wt_3, Option.bind_some, Option.toList_some, Option.toList_none, List.cons_append, List.nil_append, mx_nl_int, mx_nl_ref, mx_nl_null, mx_nl_none, mx_nb0, mx_nb1, mx_fb0, mx_fb1, mx_cat_int, mx_cat_ref, if_true, if_false, not_true_eq_false, not_false_eq_true, mx_wt_4, mx_w4_0, mx_w9_0, mx_w9_1, mx_kn_int, mx_kn_ref, mx_kn_null, Nat.reduceLT, ofn, n10, k1, k2, k5]
    have k86 : mx_G (d + 4) 86 0 [some (.ref p)] [] h0 = some (some (.int (nI n)), h0) := by
      simp only [g86_0, g86_1, g86_4, mx_isr_ref, mx_isr_null, mx_wt_nil, mx_wt_1, mx_wt_2, mx_wt_3, Option.bind_some, Option.toList_some, Option.toList_none, List.cons_append, List.nil_append, mx_nl_int, mx_nl_ref, mx_nl_null, mx_nl_none, mx_nb0, mx_nb1, mx_fb0, mx_fb1, mx_cat_int, mx_cat_ref, if_true, if_false, not_true_eq_false, not_false_eq_true, mx_wt_4, mx_w4_0, mx_w9_0, mx_w9_1, mx_kn_int, mx_kn_ref, mx_kn_null, Nat.reduceLT, ofn, n10, k1, k87]
    have k84 : mx_G (d + 5) 84 0 [some (.ref h.length), some (.ref p), some .null, none, none] [] h0 = some (none, mx_up h2 h.length 0 (.ref (h.length + 1))) := by
      simp only [g84_0, g84_1, g84_4, g84_5, g84_8, g84_9, g84_10, g84_13, g84_15, g84_16, g84_19, g84_22, g84_23, g84_24, g84_27, g84_28, g84_29, g84_30, g84_32, g84_35, g84_38, g84_41, g84_44, g84_47, g84_48, g84_51, g84_54, g84_55, g84_56, g84_57, g84_59, g84_62, g84_65, g84_66, g84_67, g84_70, g84_72, g84_75, g84_78, g84_79, g84_80, g84_81, g84_84, g84_85, g84_86, g84_87, g84_89, g84_90, g84_91, g84_94, g84_97, mx_isr_ref, mx_isr_null, mx_wt_nil, mx_wt_1, mx_wt_2, mx_wt_3, Option.bind_some, Option.toList_some, Option.toList_none, List.cons_append, List.nil_append, mx_nl_int, mx_nl_ref, mx_nl_null, mx_nl_none, mx_nb0, mx_nb1, mx_fb0, mx_fb1, mx_cat_int, mx_cat_ref, if_true, if_false, not_true_eq_false, not_false_eq_true, mx_wt_4, mx_w4_0, mx_w9_0, mx_w9_1, mx_kn_int, mx_kn_ref, mx_kn_null, Nat.reduceLT, ofn, n10, k1, k85, k86, jb_latin S0, ce_t es, hnl, show narrow .byte (.int 0) = .int 0 by decide, show fits .byte (.int 0) = true by decide, r1, ce_t es2, mx_tag_up]
    have k83 : mx_G (d + 6) 83 0 [some (.ref h.length), some (.ref p)] [] h0 = some (none, mx_up h2 h.length 0 (.ref (h.length + 1))) := by
      simp only [g83_0, g83_1, g83_2, g83_3, g83_6, mx_isr_ref, mx_isr_null, mx_wt_nil, mx_wt_1, mx_wt_2, mx_wt_3, Option.bind_some, Option.toList_some, Option.toList_none, List.cons_append, List.nil_append, mx_nl_int, mx_nl_ref, mx_nl_null, mx_nl_none, mx_nb0, mx_nb1, mx_fb0, mx_fb1, mx_cat_int, mx_cat_ref, if_true, if_false, not_true_eq_false, not_false_eq_true, mx_wt_4, mx_w4_0, mx_w9_0, mx_w9_1, mx_kn_int, mx_kn_ref, mx_kn_null, Nat.reduceLT, ofn, n10, ce_t es, k84]
    simp only [g82_0, g82_3, g82_4, g82_5, g82_8, mx_isr_ref, mx_isr_null, mx_wt_nil, mx_wt_1, mx_wt_2, mx_wt_3, Option.bind_some, Option.toList_some, Option.toList_none, List.cons_append, List.nil_append, mx_nl_int, mx_nl_ref, mx_nl_null, mx_nl_none, mx_nb0, mx_nb1, mx_fb0, mx_fb1, mx_cat_int, mx_cat_ref, if_true, if_false, not_true_eq_false, not_false_eq_true, mx_wt_4, mx_w4_0, mx_w9_0, mx_w9_1, mx_kn_int, mx_kn_ref, mx_kn_null, Nat.reduceLT, ofn, n10, hh, ce_t es, k83]
  · refine (show Fr [] h h0 by rw [← hh]; exact Fr.app _ _ _).trans (((Fr.up (F := [h.length]) List.mem_cons_self).trans r3 (fun a ha => absurd ha (by simp))).trans (Fr.up (F := [h.length]) List.mem_cons_self) (fun a ha => Or.inl ha)) (fun a ha => ?_)
    rw [List.mem_singleton] at ha
    exact Or.inr (by omega)
  · rw [mw_up, r4, mw_up, ← hh, mw_app]
    show mw h + (12 + 4) + 12 + n = _
    omega
theorem jb_length (S : SB h p x n us) : mx_G (d + 1) 86 0 [some (.ref p)] [] h = some (some (.int (nI n)), h) := by
  obtain ⟨k1, k2, k3, k4, k5, k6, k7, k8, k9, k10⟩ := SB_f S
  have k87 : mx_G d 87 0 [some (.ref p)] [] h = some (some (.int (nI n)), h) := by
    simp only [g87_0, g87_1, g87_4, mx_isr_ref, mx_isr_null, mx_wt_nil, mx_wt_1, mx_wt_2, mx_wt_3, Option.bind_some, Option.toList_some, Option.toList_none, List.cons_append, List.nil_append, mx_nl_int, mx_nl_ref, mx_nl_null, mx_nl_none, mx_nb0, mx_nb1, mx_fb0, mx_fb1, mx_cat_int, mx_cat_ref, if_true, if_false, not_true_eq_false, not_false_eq_true, mx_wt_4, mx_w4_0, mx_w9_0, mx_w9_1, mx_kn_int, mx_kn_ref, mx_kn_null, Nat.reduceLT, ofn, n10, k1, k2, k5]
  simp only [g86_0, g86_1, g86_4, mx_isr_ref, mx_isr_null, mx_wt_nil, mx_wt_1, mx_wt_2, mx_wt_3, Option.bind_some, Option.toList_some, Option.toList_none, List.cons_append, List.nil_append, mx_nl_int, mx_nl_ref, mx_nl_null, mx_nl_none, mx_nb0, mx_nb1, mx_fb0, mx_fb1, mx_cat_int, mx_cat_ref, if_true, if_false, not_true_eq_false, not_false_eq_true, mx_wt_4, mx_w4_0, mx_w9_0, mx_w9_1, mx_kn_int, mx_kn_ref, mx_kn_null, Nat.reduceLT, ofn, n10, k1, k87]
end
