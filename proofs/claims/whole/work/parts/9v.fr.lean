/-! Frames, room, and what is never changed: texts. -/
def mw (h : mx_H) : Nat := 12 * h.length + mx_tot h
theorem mw_app (h : mx_H) (q : mx_C) : mw (h ++ [q]) = mw h + (12 + q.2.length) := by
  unfold mw
  rw [mx_tot_app, List.length_append]
  simp [mx_tot]
  omega
theorem mw_up (h : mx_H) (a k : Nat) (v : Value) : mw (mx_up h a k v) = mw h := by unfold mw; rw [mx_tot_up, mx_len_up]
theorem mw_cp (h : mx_H) (a0 sp a dp n : Nat) : mw (mx_cp h a0 sp a dp n) = mw h := by
  unfold mw
  rw [mx_len_cp]
  unfold mx_cp
  split
  · rename_i q hq
    rw [mx_tot_set hq (mx_cpy_len _ _ _ _ _)]
  · rfl
/-- nothing else is changed -/
def Fr (F : List Nat) (h h' : mx_H) : Prop := h.length ≤ h'.length ∧ ∀ a, a < h.length → a ∉ F → h'[a]? = h[a]?
theorem Fr.rfl (F : List Nat) (h : mx_H) : Fr F h h := ⟨Nat.le_refl _, fun _ _ _ => Eq.refl _⟩
theorem Fr.up {F : List Nat} {h : mx_H} {a k : Nat} {v : Value} (ha : a ∈ F) : Fr F h (mx_up h a k v) := ⟨by rw [mx_len_up]; exact Nat.le_refl _, fun b _ hb => c_upn (fun z => hb (z ▸ ha))⟩
theorem Fr.app (F : List Nat) (h : mx_H) (q : mx_C) : Fr F h (h ++ [q]) := ⟨by rw [List.length_append]; omega, fun b hb _ => c_appn hb⟩
theorem Fr.cp {F : List Nat} {h : mx_H} {a0 sp a dp n : Nat} (ha : a ∈ F) : Fr F h (mx_cp h a0 sp a dp n) := ⟨by rw [mx_len_cp]; exact Nat.le_refl _, fun b _ hb => c_cpn (fun z => hb (z ▸ ha))⟩
theorem Fr.trans {F F' : List Nat} {h h' h'' : mx_H} (x : Fr F h h') (y : Fr F' h' h'') (hF : ∀ a ∈ F', a ∈ F ∨ h.length ≤ a) : Fr F h h'' :=
  ⟨Nat.le_trans x.1 y.1, fun a ha hb => (y.2 a (Nat.lt_of_lt_of_le ha x.1) (fun z => (hF a z).elim hb (fun w => absurd ha (by omega)))).trans (x.2 a ha hb)⟩
theorem Fr.mono {F F' : List Nat} {h h' : mx_H} (x : Fr F h h') (hF : ∀ a ∈ F, a ∈ F') : Fr F' h h' := ⟨x.1, fun a ha hb => x.2 a ha (fun z => hb (hF a z))⟩
theorem Fr.at {F : List Nat} {h h' : mx_H} (x : Fr F h h') {a : Nat} {q : mx_C} (e : h[a]? = some q) (ha : a ∉ F) : h'[a]? = some q := by rw [x.2 a (ce_l e) ha]; exact e
/-- a is none of the places that may be written -/
def fz (M : List Nat) (a : Nat) : Prop := ¬ (63 ≤ a ∧ a < 102) ∧ a ∉ M
/-- what stands fast stays -/
def Ex (M : List Nat) (h : mx_H) (M' : List Nat) (h' : mx_H) : Prop := h.length ≤ h'.length ∧ ∀ a, a < h.length → fz M a → h'[a]? = h[a]? ∧ fz M' a
theorem Ex.rfl (M : List Nat) (h : mx_H) : Ex M h M h := ⟨Nat.le_refl _, fun _ _ z => ⟨Eq.refl _, z⟩⟩
theorem Ex.trans {M M' M'' : List Nat} {h h' h'' : mx_H} (x : Ex M h M' h') (y : Ex M' h' M'' h'') : Ex M h M'' h'' :=
  ⟨Nat.le_trans x.1 y.1, fun a ha hf => ⟨(y.2 a (Nat.lt_of_lt_of_le ha x.1) (x.2 a ha hf).2).1.trans (x.2 a ha hf).1, (y.2 a (Nat.lt_of_lt_of_le ha x.1) (x.2 a ha hf).2).2⟩⟩
theorem Fr.ex {F M M' : List Nat} {h h' : mx_H} (x : Fr F h h') (hF : ∀ a ∈ F, ¬ fz M a) (hM : ∀ a ∈ M', a ∈ M ∨ h.length ≤ a) : Ex M h M' h' :=
  ⟨x.1, fun a ha hf => ⟨x.2 a ha (fun z => hF a z hf), hf.1, fun z => (hM a z).elim hf.2 (fun w => absurd ha (by omega))⟩⟩
theorem Ex.at {M M' : List Nat} {h h' : mx_H} (x : Ex M h M' h') {a : Nat} {q : mx_C} (e : h[a]? = some q) (ha : fz M a) : h'[a]? = some q ∧ fz M' a := ⟨by rw [(x.2 a (ce_l e) ha).1]; exact e, (x.2 a (ce_l e) ha).2⟩
def nvs (us : List Nat) : List Value := us.map fun c => .int (nI c)
/-- a String object and its row of bytes -/
def sB (h : mx_H) (s b : Nat) (cs : List Nat) : Prop := (∃ v2 v3, h[s]? = some (.inl 5, [.ref b, .int 0, v2, v3])) ∧ h[b]? = some (.inr .byte, nvs cs) ∧ (∀ c ∈ cs, c < 128) ∧ cs.length ≤ 1000 ∧ (63 ≤ s ∨ mx_str s = true)
theorem sB_f {h : mx_H} {s b : Nat} {cs : List Nat} (S : sB h s b cs) : mx_tag h s = some (.inl 5) ∧ mx_ln h s = 4 ∧ mx_el h s 0 = .ref b ∧ mx_el h s 1 = .int 0 ∧ mx_tag h b = some (.inr .byte) ∧ mx_ln h b = cs.length ∧ ∀ k, k < cs.length → mx_el h b k = .int (nI (cs.getD k 0)) := by
  obtain ⟨⟨v2, v3, e1⟩, e2, -⟩ := S
  refine ⟨ce_t e1, by rw [ce_n e1]; rfl, by rw [ce_e e1]; rfl, by rw [ce_e e1]; rfl, ce_t e2, by rw [ce_n e2]; simp [nvs], fun k hk => ?_⟩
  rw [ce_e e2]
  simp [nvs, List.getD_eq_getElem?_getD, hk]
theorem sB_lt {h : mx_H} {s b : Nat} {cs : List Nat} (S : sB h s b cs) (k : Nat) : cs.getD k 0 < 128 := by
  rw [List.getD_eq_getElem?_getD]
  cases hk : cs[k]? with
  | none => decide
  | some c => exact S.2.2.1 c (List.mem_of_getElem? hk)
def Str (M : List Nat) (h : mx_H) (s : Nat) (cs : List Nat) : Prop := ∃ b, fz M s ∧ fz M b ∧ sB h s b cs
theorem Str.ex {M M' : List Nat} {h h' : mx_H} {s : Nat} {cs : List Nat} (S : Str M h s cs) (x : Ex M h M' h') : Str M' h' s cs := by
  obtain ⟨b, f1, f2, ⟨v2, v3, e1⟩, e2, e3⟩ := S
  exact ⟨b, (x.at e1 f1).2, (x.at e2 f2).2, ⟨v2, v3, (x.at e1 f1).1⟩, (x.at e2 f2).1, e3⟩
theorem sep_str {h : mx_H} {s b s' b' : Nat} {cs cs' : List Nat} (S : sB h s b cs) (S' : sB h s' b' cs') : mx_sepv (.ref s) (.ref s') = true := by
  have k1 : ∀ {s b cs}, sB h s b cs → s ≠ 1 := fun {s b cs} S z => by
    rcases S.2.2.2.2 with w | w
    · omega
    · rw [z] at w; exact absurd w (by decide)
  have hn : mt_nO = 63 := by decide
  show mx_sep s s' = true
  unfold mx_sep
  rw [hn]
  rcases S.2.2.2.2 with w | w <;> rcases S'.2.2.2.2 with w' | w' <;> simp [k1 S, k1 S', w, w']
/-! the methods of texts -/
theorem nI_c {c : Nat} (h : c < 128) : ((nI c &&& 255).toUInt32 % 65536).toInt32 = nI c ∧ (nI c).toInt8.toInt32 = nI c ∧ nI c &&& 255 = nI c ∧ narrow .byte (.int (nI c)) = .int (nI c) ∧ narrow .char (.int (nI c)) = .int (nI c) ∧ ((nI c).toUInt32 % 65536).toInt32 = nI c := by
  have key : ∀ c, c < 128 → ((nI c &&& 255).toUInt32 % 65536).toInt32 = nI c ∧ (nI c).toInt8.toInt32 = nI c ∧ nI c &&& 255 = nI c ∧ narrow .byte (.int (nI c)) = .int (nI c) ∧ narrow .char (.int (nI c)) = .int (nI c) ∧ ((nI c).toUInt32 % 65536).toInt32 = nI c := by decide +kernel
  exact key c h
theorem sh0 (x : Int32) : x >>> ((0 : Int32) &&& 31) = x := by
  rw [show (0 : Int32) &&& 31 = 0 by decide]
  apply Int32.toBitVec_inj.1
  simp
section
variable {d : Nat} {h : mx_H} {s b : Nat} {cs : List Nat}
theorem js_latin (S : sB h s b cs) : mx_G d 22 0 [some (.ref s)] [] h = some (some (.int 1), h) := by
  obtain ⟨t, l, e0, e1, tb, lb, eb⟩ := sB_f S
  simp only [g22_0, g22_3, g22_6, g22_7, g22_10, g22_13, g22_14, g22_17, g22_18, mx_isr_ref, mx_isr_null, mx_wt_nil, mx_wt_1, mx_wt_2, mx_wt_3, Option.bind_some, Option.toList_some, Option.toList_none, List.cons_append, List.nil_append, mx_nl_int, mx_nl_ref, mx_nl_null, mx_nl_none, mx_nb0, mx_nb1, mx_fb0, mx_fb1, mx_cat_int, mx_cat_ref, if_true, if_false, not_true_eq_false, not_false_eq_true, mx_wt_4, mx_w4_0, mx_w9_0, mx_w9_1, mx_kn_int, mx_kn_ref, mx_kn_null, Nat.reduceLT, ofn, n10, t, l, e1]
theorem js_coder (S : sB h s b cs) : mx_G d 24 0 [some (.ref s)] [] h = some (some (.int 0), h) := by
  obtain ⟨t, l, e0, e1, tb, lb, eb⟩ := sB_f S
  simp only [g24_0, g24_3, g24_6, g24_7, g24_10, g24_13, g24_14, mx_isr_ref, mx_isr_null, mx_wt_nil, mx_wt_1, mx_wt_2, mx_wt_3, Option.bind_some, Option.toList_some, Option.toList_none, List.cons_append, List.nil_append, mx_nl_int, mx_nl_ref, mx_nl_null, mx_nl_none, mx_nb0, mx_nb1, mx_fb0, mx_fb1, mx_cat_int, mx_cat_ref, if_true, if_false, not_true_eq_false, not_false_eq_true, mx_wt_4, mx_w4_0, mx_w9_0, mx_w9_1, mx_kn_int, mx_kn_ref, mx_kn_null, Nat.reduceLT, ofn, n10, t, l, e1, show narrow .byte (.int 0) = .int 0 by decide]
theorem js_len (S : sB h s b cs) : mx_G (d + 1) 23 0 [some (.ref s)] [] h = some (some (.int (nI cs.length)), h) := by
  obtain ⟨t, l, e0, e1, tb, lb, eb⟩ := sB_f S
  simp only [g23_0, g23_1, g23_4, g23_4c, g23_4i, g23_4q, g23_5, g23_6, g23_9, g23_10, mx_isr_ref, mx_isr_null, mx_wt_nil, mx_wt_1, mx_wt_2, mx_wt_3, Option.bind_some, Option.toList_some, Option.toList_none, List.cons_append, List.nil_append, mx_nl_int, mx_nl_ref, mx_nl_null, mx_nl_none, mx_nb0, mx_nb1, mx_fb0, mx_fb1, mx_cat_int, mx_cat_ref, if_true, if_false, not_true_eq_false, not_false_eq_true, mx_wt_4, mx_w4_0, mx_w9_0, mx_w9_1, mx_kn_int, mx_kn_ref, mx_kn_null, Nat.reduceLT, ofn, n10, t, l, e0, tb, lb, js_coder S, sh0]
theorem js_min (x y : Nat) (hx : x < 2 ^ 31) (hy : y < 2 ^ 31) : mx_G d 28 0 [some (.int (nI x)), some (.int (nI y))] [] h = some (some (.int (nI (min x y))), h) := by
  by_cases e : y < x
  · simp only [g28_0, g28_1, g28_2, g28_5, g28_6, g28_9, g28_10, mx_isr_ref, mx_isr_null, mx_wt_nil, mx_wt_1, mx_wt_2, mx_wt_3, Option.bind_some, Option.toList_some, Option.toList_none, List.cons_append, List.nil_append, mx_nl_int, mx_nl_ref, mx_nl_null, mx_nl_none, mx_nb0, mx_nb1, mx_fb0, mx_fb1, mx_cat_int, mx_cat_ref, if_true, if_false, not_true_eq_false, not_false_eq_true, mx_wt_4, mx_w4_0, mx_w9_0, mx_w9_1, mx_kn_int, mx_kn_ref, mx_kn_null, Nat.reduceLT, ofn, n10, nI_ltI hy hx, e, show min x y = y by omega]
  · simp only [g28_0, g28_1, g28_2, g28_5, g28_6, g28_9, g28_10, mx_isr_ref, mx_isr_null, mx_wt_nil, mx_wt_1, mx_wt_2, mx_wt_3, Option.bind_some, Option.toList_some, Option.toList_none, List.cons_append, List.nil_append, mx_nl_int, mx_nl_ref, mx_nl_null, mx_nl_none, mx_nb0, mx_nb1, mx_fb0, mx_fb1, mx_cat_int, mx_cat_ref, if_true, if_false, not_true_eq_false, not_false_eq_true, mx_wt_4, mx_w4_0, mx_w9_0, mx_w9_1, mx_kn_int, mx_kn_ref, mx_kn_null, Nat.reduceLT, ofn, n10, nI_ltI hy hx, e, show min x y = x by omega]
theorem js_max (x y : Nat) (hx : x < 2 ^ 31) (hy : y < 2 ^ 31) : mx_G d 27 0 [some (.int (nI x)), some (.int (nI y))] [] h = some (some (.int (nI (max x y))), h) := by
  by_cases e : x < y
  · simp only [g27_0, g27_1, g27_2, g27_5, g27_6, g27_9, g27_10, mx_isr_ref, mx_isr_null, mx_wt_nil, mx_wt_1, mx_wt_2, mx_wt_3, Option.bind_some, Option.toList_some, Option.toList_none, List.cons_append, List.nil_append, mx_nl_int, mx_nl_ref, mx_nl_null, mx_nl_none, mx_nb0, mx_nb1, mx_fb0, mx_fb1, mx_cat_int, mx_cat_ref, if_true, if_false, not_true_eq_false, not_false_eq_true, mx_wt_4, mx_w4_0, mx_w9_0, mx_w9_1, mx_kn_int, mx_kn_ref, mx_kn_null, Nat.reduceLT, ofn, n10, nI_ltI hx hy, e, show max x y = y by omega]
  · simp only [g27_0, g27_1, g27_2, g27_5, g27_6, g27_9, g27_10, mx_isr_ref, mx_isr_null, mx_wt_nil, mx_wt_1, mx_wt_2, mx_wt_3, Option.bind_some, Option.toList_some, Option.toList_none, List.cons_append, List.nil_append, mx_nl_int, mx_nl_ref, mx_nl_null, mx_nl_none, mx_nb0, mx_nb1, mx_fb0, mx_fb1, mx_cat_int, mx_cat_ref, if_true, if_false, not_true_eq_false, not_false_eq_true, mx_wt_4, mx_w4_0, mx_w9_0, mx_w9_1, mx_kn_int, mx_kn_ref, mx_kn_null, Nat.reduceLT, ofn, n10, nI_ltI hx hy, e, show max x y = x by omega]
theorem js_idx {k n : Nat} (hk : k < n) (hn : n < 2 ^ 31) (v : Value) : mx_G d 81 0 [some (.int (nI k)), some (.int (nI n)), some v] [] h = some (some (.int (nI k)), h) := by
  simp only [g81_0, g81_1, g81_4, g81_5, g81_6, g81_9, g81_10, g81_11, g81_16, g81_17, mx_isr_ref, mx_isr_null, mx_wt_nil, mx_wt_1, mx_wt_2, mx_wt_3, Option.bind_some, Option.toList_some, Option.toList_none, List.cons_append, List.nil_append, mx_nl_int, mx_nl_ref, mx_nl_null, mx_nl_none, mx_nb0, mx_nb1, mx_fb0, mx_fb1, mx_cat_int, mx_cat_ref, if_true, if_false, not_true_eq_false, not_false_eq_true, mx_wt_4, mx_w4_0, mx_w9_0, mx_w9_1, mx_kn_int, mx_kn_ref, mx_kn_null, Nat.reduceLT, ofn, n10, nI_pos (show k < 2 ^ 31 by omega), nI_lt hk hn]
theorem js_sidx {k n : Nat} (hk : k < n) (hn : n < 2 ^ 31) : mx_G (d + 1) 80 0 [some (.int (nI k)), some (.int (nI n))] [] h = some (none, h) := by
  simp only [g80_0, g80_1, g80_2, g80_5, g80_8, g80_9, mx_isr_ref, mx_isr_null, mx_wt_nil, mx_wt_1, mx_wt_2, mx_wt_3, Option.bind_some, Option.toList_some, Option.toList_none, List.cons_append, List.nil_append, mx_nl_int, mx_nl_ref, mx_nl_null, mx_nl_none, mx_nb0, mx_nb1, mx_fb0, mx_fb1, mx_cat_int, mx_cat_ref, if_true, if_false, not_true_eq_false, not_false_eq_true, mx_wt_4, mx_w4_0, mx_w9_0, mx_w9_1, mx_kn_int, mx_kn_ref, mx_kn_null, Nat.reduceLT, ofn, n10, js_idx hk hn, show (Value.retAddr 0).category = 1 by rfl]
theorem js_lchar {k : Nat} (S : sB h s b cs) (hk : k < cs.length) : mx_G (d + 2) 112 0 [some (.ref b), some (.int (nI k))] [] h = some (some (.int (nI (cs.getD k 0))), h) := by
  obtain ⟨t, l, e0, e1, tb, lb, eb⟩ := sB_f S
  have hl := S.2.2.2.1
  have c := nI_c (sB_lt S k)
  simp only [g112_0, g112_1, g112_2, g112_2c, g112_2i, g112_2q, g112_3, g112_6, g112_7, g112_8, g112_8z, g112_9, g112_12, g112_13, g112_14, mx_isr_ref, mx_isr_null, mx_wt_nil, mx_wt_1, mx_wt_2, mx_wt_3, Option.bind_some, Option.toList_some, Option.toList_none, List.cons_append, List.nil_append, mx_nl_int, mx_nl_ref, mx_nl_null, mx_nl_none, mx_nb0, mx_nb1, mx_fb0, mx_fb1, mx_cat_int, mx_cat_ref, if_true, if_false, not_true_eq_false, not_false_eq_true, mx_wt_4, mx_w4_0, mx_w9_0, mx_w9_1, mx_kn_int, mx_kn_ref, mx_kn_null, Nat.reduceLT, ofn, n10, tb, lb, js_sidx hk (by omega), nI_pos' (show k < 2 ^ 31 by omega), nI_clamp (show k < 2 ^ 31 by omega), hk, eb k hk, c.1, c.2.2.2.2.1]
theorem js_char {k : Nat} (S : sB h s b cs) (hk : k < cs.length) : mx_G (d + 3) 111 0 [some (.ref s), some (.int (nI k))] [] h = some (some (.int (nI (cs.getD k 0))), h) := by
  obtain ⟨t, l, e0, e1, tb, lb, eb⟩ := sB_f S
  simp only [g111_0, g111_1, g111_4, g111_7, g111_8, g111_11, g111_12, g111_15, g111_16, g111_17, g111_20, g111_21, g111_24, mx_isr_ref, mx_isr_null, mx_wt_nil, mx_wt_1, mx_wt_2, mx_wt_3, Option.bind_some, Option.toList_some, Option.toList_none, List.cons_append, List.nil_append, mx_nl_int, mx_nl_ref, mx_nl_null, mx_nl_none, mx_nb0, mx_nb1, mx_fb0, mx_fb1, mx_cat_int, mx_cat_ref, if_true, if_false, not_true_eq_false, not_false_eq_true, mx_wt_4, mx_w4_0, mx_w9_0, mx_w9_1, mx_kn_int, mx_kn_ref, mx_kn_null, Nat.reduceLT, ofn, n10, t, l, e0, js_latin S, js_lchar S hk, (nI_c (sB_lt S k)).2.2.2.2.1]
/-- the first place of c from k on -/
theorem js_iocL (S : sB h s b cs) {c : Nat} (hc : c < 128) (x y : Int32) : ∀ n k, n + k = cs.length → mx_G d 29 7 [some (.ref b), some (.int x), some (.int y), some (.int (nI cs.length)), some (.int (nI c)), some (.int (nI k))] [] h = some (some (.int (if (cs.drop k).contains c = true then nI (k + (cs.drop k).idxOf c) else -1)), h) := by
  obtain ⟨t, l, e0, e1, tb, lb, eb⟩ := sB_f S
  have hl := S.2.2.2.1
  intro n
  induction n with
  | zero =>
    intro k hk
    rw [List.drop_of_length_le (by omega)]
    simp only [g29_0, g29_1, g29_2, g29_4, g29_5, g29_7, g29_9, g29_10, g29_13, g29_14, g29_16, g29_16z, g29_17, g29_19, g29_22, g29_24, g29_25, g29_28, g29_31, g29_32, mx_isr_ref, mx_isr_null, mx_wt_nil, mx_wt_1, mx_wt_2, mx_wt_3, Option.bind_some, Option.toList_some, Option.toList_none, List.cons_append, List.nil_append, mx_nl_int, mx_nl_ref, mx_nl_null, mx_nl_none, mx_nb0, mx_nb1, mx_fb0, mx_fb1, mx_cat_int, mx_cat_ref, if_true, if_false, not_true_eq_false, not_false_eq_true, mx_wt_4, mx_w4_0, mx_w9_0, mx_w9_1, mx_kn_int, mx_kn_ref, mx_kn_null, Nat.reduceLT, ofn, n10, show nI cs.length ≤ nI k by exact nI_le (by omega) (by omega), show ([] : List Nat).contains c = false by rfl, Bool.false_eq_true]
  | succ n ih =>
    intro k hk
    have hk2 : k < cs.length := by omega
    rw [g29_7]
    have hd : cs.drop k = cs.getD k 0 :: cs.drop (k + 1) := by
      rw [List.drop_eq_getElem_cons hk2]
      simp [List.getD_eq_getElem?_getD, hk2]
    by_cases e : cs.getD k 0 = c
    · simp only [g29_9, g29_10, g29_13, g29_14, g29_16, g29_16z, g29_17, g29_19, g29_22, g29_24, g29_25, g29_28, g29_31, g29_32, mx_isr_ref, mx_isr_null, mx_wt_nil, mx_wt_1, mx_wt_2, mx_wt_3, Option.bind_some, Option.toList_some, Option.toList_none, List.cons_append, List.nil_append, mx_nl_int, mx_nl_ref, mx_nl_null, mx_nl_none, mx_nb0, mx_nb1, mx_fb0, mx_fb1, mx_cat_int, mx_cat_ref, if_true, if_false, not_true_eq_false, not_false_eq_true, mx_wt_4, mx_w4_0, mx_w9_0, mx_w9_1, mx_kn_int, mx_kn_ref, mx_kn_null, Nat.reduceLT, ofn, n10, nI_ge hk2 (show cs.length < 2 ^ 31 by omega), tb, lb, nI_pos' (show k < 2 ^ 31 by omega), nI_clamp (show k < 2 ^ 31 by omega), hk2, eb k hk2, e]
      rw [hd, e]
      simp
    · have e' : ¬ nI (cs.getD k 0) = nI c := fun z => e ((nI_eq (by have := sB_lt S k; omega) (by omega)).mp z)
      simp only [g29_9, g29_10, g29_13, g29_14, g29_16, g29_16z, g29_17, g29_19, g29_22, g29_24, g29_25, g29_28, mx_isr_ref, mx_isr_null, mx_wt_nil, mx_wt_1, mx_wt_2, mx_wt_3, Option.bind_some, Option.toList_some, Option.toList_none, List.cons_append, List.nil_append, mx_nl_int, mx_nl_ref, mx_nl_null, mx_nl_none, mx_nb0, mx_nb1, mx_fb0, mx_fb1, mx_cat_int, mx_cat_ref, if_true, if_false, not_true_eq_false, not_false_eq_true, mx_wt_4, mx_w4_0, mx_w9_0, mx_w9_1, mx_kn_int, mx_kn_ref, mx_kn_null, Nat.reduceLT, ofn, n10, nI_ge hk2 (show cs.length < 2 ^ 31 by omega), tb, lb, nI_pos' (show k < 2 ^ 31 by omega), nI_clamp (show k < 2 ^ 31 by omega), hk2, eb k hk2, e', nI_1]
      rw [ih (k + 1) (by omega), hd]
      have e2 : ¬ c = cs.getD k 0 := fun z => e z.symm
      by_cases hm : (cs.drop (k + 1)).contains c = true
      · rw [if_pos hm, if_pos (by rw [List.contains_cons, hm]; simp), List.idxOf_cons]
        rw [show (cs.getD k 0 == c) = false by simpa using e]
        simp [Nat.add_assoc, Nat.add_comm 1]
      · rw [if_neg hm, if_neg (by rw [List.contains_cons]; simp only [Bool.or_eq_true, beq_iff_eq]; exact fun z => z.elim e2 hm)]
theorem js_indexOf (S : sB h s b cs) {c : Nat} (hc : c < 128) : mx_G (d + 4) 20 0 [some (.ref s), some (.int (nI c))] [] h = some (some (.int (if cs.contains c = true then nI (cs.idxOf c) else -1)), h) := by
  obtain ⟨t, l, e0, e1, tb, lb, eb⟩ := sB_f S
  have hl := S.2.2.2.1
  have k26 : mx_G (d + 1) 26 0 [some (.int (nI c))] [] h = some (some (.int 1), h) := by
    simp only [g26_0, g26_1, g26_4, g26_5, g26_8, g26_11, g26_12, g26_15, g26_16, mx_isr_ref, mx_isr_null, mx_wt_nil, mx_wt_1, mx_wt_2, mx_wt_3, Option.bind_some, Option.toList_some, Option.toList_none, List.cons_append, List.nil_append, mx_nl_int, mx_nl_ref, mx_nl_null, mx_nl_none, mx_nb0, mx_nb1, mx_fb0, mx_fb1, mx_cat_int, mx_cat_ref, if_true, if_false, not_true_eq_false, not_false_eq_true, mx_wt_4, mx_w4_0, mx_w9_0, mx_w9_1, mx_kn_int, mx_kn_ref, mx_kn_null, Nat.reduceLT, ofn, n10, nI_pos (show c < 2 ^ 31 by omega), show ¬ (255 : Int32) < nI c from nI_nlt (b := 255) (a := c) |> fun _ => by rw [show (255 : Int32) = nI 255 by rfl, nI_ltI (by omega) (by omega)]; omega]
  have k29 : mx_G (d + 1) 29 0 [some (.ref b), some (.int (nI c)), some (.int (nI 0)), some (.int (nI cs.length)), none, none] [] h = some (some (.int (if cs.contains c = true then nI (cs.idxOf c) else -1)), h) := by
    have := js_iocL (d := d + 1) S hc (nI c) (nI 0) cs.length 0 (by omega)
    simp only [g29_0, g29_1, g29_2, g29_4, g29_5, mx_isr_ref, mx_isr_null, mx_wt_nil, mx_wt_1, mx_wt_2, mx_wt_3, Option.bind_some, Option.toList_some, Option.toList_none, List.cons_append, List.nil_append, mx_nl_int, mx_nl_ref, mx_nl_null, mx_nl_none, mx_nb0, mx_nb1, mx_fb0, mx_fb1, mx_cat_int, mx_cat_ref, if_true, if_false, not_true_eq_false, not_false_eq_true, mx_wt_4, mx_w4_0, mx_w9_0, mx_w9_1, mx_kn_int, mx_kn_ref, mx_kn_null, Nat.reduceLT, ofn, n10, (nI_c hc).2.1]
    rw [this]
    simp
  have k25 : mx_G (d + 2) 25 0 [some (.ref b), some (.int (nI c)), some (.int 0), some (.int (nI cs.length))] [] h = some (some (.int (if cs.contains c = true then nI (cs.idxOf c) else -1)), h) := by
    have m1 := js_max (d := d + 1) (h := h) 0 0 (by omega) (by omega)
    have m2 := js_min (d := d + 1) (h := h) cs.length cs.length (by omega) (by omega)
    rw [Nat.max_self] at m1
    rw [Nat.min_self] at m2
    rw [nI_0] at m1 k29
    by_cases h0 : (0 : Int32) < nI cs.length
    · simp only [g25_0, g25_1, g25_4, g25_7, g25_8, g25_9, g25_10, g25_11, g25_14, g25_15, g25_16, g25_17, g25_17c, g25_17i, g25_17q, g25_18, g25_21, g25_22, g25_23, g25_24, g25_27, g25_28, g25_29, g25_30, g25_31, g25_32, g25_33, g25_36, mx_isr_ref, mx_isr_null, mx_wt_nil, mx_wt_1, mx_wt_2, mx_wt_3, Option.bind_some, Option.toList_some, Option.toList_none, List.cons_append, List.nil_append, mx_nl_int, mx_nl_ref, mx_nl_null, mx_nl_none, mx_nb0, mx_nb1, mx_fb0, mx_fb1, mx_cat_int, mx_cat_ref, if_true, if_false, not_true_eq_false, not_false_eq_true, mx_wt_4, mx_w4_0, mx_w9_0, mx_w9_1, mx_kn_int, mx_kn_ref, mx_kn_null, Nat.reduceLT, ofn, n10, k26, m1, tb, lb, m2, h0, k29]
    · have : cs = [] := by
        apply List.eq_nil_of_length_eq_zero
        rw [show (0 : Int32) = nI 0 from rfl, nI_ltI (by omega) (by omega)] at h0
        omega
      subst this
      simp only [g25_0, g25_1, g25_4, g25_7, g25_8, g25_9, g25_10, g25_11, g25_14, g25_15, g25_16, g25_17, g25_17c, g25_17i, g25_17q, g25_18, g25_21, g25_22, g25_23, g25_24, g25_27, g25_28, g25_29, g25_30, g25_31, g25_32, g25_33, g25_36, mx_isr_ref, mx_isr_null, mx_wt_nil, mx_wt_1, mx_wt_2, mx_wt_3, Option.bind_some, Option.toList_some, Option.toList_none, List.cons_append, List.nil_append, mx_nl_int, mx_nl_ref, mx_nl_null, mx_nl_none, mx_nb0, mx_nb1, mx_fb0, mx_fb1, mx_cat_int, mx_cat_ref, if_true, if_false, not_true_eq_false, not_false_eq_true, mx_wt_4, mx_w4_0, mx_w9_0, mx_w9_1, mx_kn_int, mx_kn_ref, mx_kn_null, Nat.reduceLT, ofn, n10, k26, m1, tb, lb, m2, h0]
      simp
  have k21 : mx_G (d + 3) 21 0 [some (.ref s), some (.int (nI c)), some (.int 0)] [] h = some (some (.int (if cs.contains c = true then nI (cs.idxOf c) else -1)), h) := by
    simp only [g21_0, g21_1, g21_4, g21_7, g21_8, g21_11, g21_12, g21_13, g21_14, g21_17, g21_20, g21_23, g21_24, g21_27, g21_28, g21_29, g21_30, g21_33, g21_36, mx_isr_ref, mx_isr_null, mx_wt_nil, mx_wt_1, mx_wt_2, mx_wt_3, Option.bind_some, Option.toList_some, Option.toList_none, List.cons_append, List.nil_append, mx_nl_int, mx_nl_ref, mx_nl_null, mx_nl_none, mx_nb0, mx_nb1, mx_fb0, mx_fb1, mx_cat_int, mx_cat_ref, if_true, if_false, not_true_eq_false, not_false_eq_true, mx_wt_4, mx_w4_0, mx_w9_0, mx_w9_1, mx_kn_int, mx_kn_ref, mx_kn_null, Nat.reduceLT, ofn, n10, js_latin S, t, l, e0, js_len S, k25]
  simp only [g20_0, g20_1, g20_2, g20_3, g20_6, mx_isr_ref, mx_isr_null, mx_wt_nil, mx_wt_1, mx_wt_2, mx_wt_3, Option.bind_some, Option.toList_some, Option.toList_none, List.cons_append, List.nil_append, mx_nl_int, mx_nl_ref, mx_nl_null, mx_nl_none, mx_nb0, mx_nb1, mx_fb0, mx_fb1, mx_cat_int, mx_cat_ref, if_true, if_false, not_true_eq_false, not_false_eq_true, mx_wt_4, mx_w4_0, mx_w9_0, mx_w9_1, mx_kn_int, mx_kn_ref, mx_kn_null, Nat.reduceLT, ofn, n10, t, k21]
end
