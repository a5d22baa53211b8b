section
variable {d : Nat} {h : mx_H} {ts : List tk}
def PB (b a k : Nat) : Bool := a == 77 && (decide (80 * b ≤ k) && decide (k < 80 * b + 80))
theorem PB_t {b k : Nat} (h1 : 80 * b ≤ k) (h2 : k < 80 * b + 80) : PB b 77 k = true := by unfold PB; simp [h1, h2]
theorem rm_copyL {a b : Nat} (ha : a ≤ 8) (hb : b ≤ 8) (hab : a ≠ b) : ∀ n k h1, k + n = 80 → (∀ o, o < 80 → mi h1 77 (80 * a + o) = mi h 77 (80 * a + o)) → mf (PB b) h h1 →
    ∃ h', mx_G (d + 1) 278 2 [some (.ref 76), some (.int (nI a)), some (.int (nI b)), some (.int (nI k))] [] h1 = some (none, h') ∧ mf (PB b) h h' ∧ ∀ i, mi h' 77 i = if 80 * b + k ≤ i ∧ i < 80 * b + 80 then mi h 77 (80 * a + (i - 80 * b)) else mi h1 77 i := by
  intro n
  induction n with
  | zero =>
    intro k h1 hk _ m
    have : k = 80 := by omega
    subst this
    refine ⟨h1, ?_, m, fun i => by rw [if_neg (by omega)]⟩
    simp only [r278_2, r278_3, r278_5, r278_26, mx_isr_ref, mx_isr_null, mx_wt_nil, mx_wt_1, mx_wt_2, mx_wt_3, Option.bind_some, Option.toList_some, Option.toList_none, List.cons_append, List.nil_append, mx_nl_int, mx_nl_ref, mx_nl_null, mx_nl_none, mx_nb0, mx_nb1, mx_fb0, mx_fb1, mx_cat_int, mx_cat_ref, if_true, if_false, not_true_eq_false, not_false_eq_true, show (80 : Int32) ≤ nI 80 by decide]
  | succ n ih =>
    intro k h1 hk hr m
    have T := m.1
    have e1 : ¬ (80 : Int32) ≤ nI k := nI_ge (b := 80) (by omega) (by decide)
    have fa := rm_f (d := d) T (s := a) (o := k) (by omega)
    rw [hr k (by omega)] at fa
    have st := rm_set (d := d) T (s := b) (o := k) (v := mi h 77 (80 * a + k)) (by omega)
    have m1 : mf (PB b) h (mx_up h1 77 (80 * b + k) (.int (mi h 77 (80 * a + k)))) := mf_up m (by decide) (PB_t (by omega) (by omega))
    have rd := fun i => mi_r T (k := 80 * b + k) (by omega) (mi h 77 (80 * a + k)) i
    obtain ⟨h', r, m', g⟩ := ih (k + 1) _ (by omega) (fun o ho => by rw [rd, if_neg (by omega), hr o ho]) m1
    refine ⟨h', ?_, m', fun i => ?_⟩
    · rw [← r, r278_2]
      simp only [r278_3, r278_5, r278_8, r278_9, r278_10, r278_11, r278_12, r278_13, r278_14, r278_17, r278_20, r278_23, mx_isr_ref, mx_isr_null, mx_wt_nil, mx_wt_1, mx_wt_2, mx_wt_3, Option.bind_some, Option.toList_some, Option.toList_none, List.cons_append, List.nil_append, mx_nl_int, mx_nl_ref, mx_nl_null, mx_nl_none, mx_nb0, mx_nb1, mx_fb0, mx_fb1, mx_cat_int, mx_cat_ref, if_true, if_false, not_true_eq_false, not_false_eq_true, T, e1, fa, st, nI_1]
    · rw [g, rd]
      by_cases c : 80 * b + k ≤ i ∧ i < 80 * b + 80
      · rw [if_pos c]
        by_cases c2 : i = 80 * b + k
        · rw [if_neg (by omega), if_pos c2]
          congr 1
          omega
        · rw [if_pos (by omega)]
      · rw [if_neg c, if_neg (by omega), if_neg (by omega)]
theorem rm_copy (T : mr_T h) {a b : Nat} (ha : a ≤ 8) (hb : b ≤ 8) (hab : a ≠ b) : ∃ h', mx_G (d + 1) 278 0 [some (.ref 76), some (.int (nI a)), some (.int (nI b)), none] [] h = some (none, h') ∧ mf (PB b) h h' ∧ ∀ i, mi h' 77 i = if 80 * b ≤ i ∧ i < 80 * b + 80 then mi h 77 (80 * a + (i - 80 * b)) else mi h 77 i := by
  obtain ⟨h', r, m, g⟩ := rm_copyL (d := d) ha hb hab 80 0 h rfl (fun _ _ => rfl) (mf_rfl T)
  refine ⟨h', ?_, m, g⟩
  rw [← r]
  simp only [r278_0, r278_1, mx_isr_ref, mx_isr_null, mx_wt_nil, mx_wt_1, mx_wt_2, mx_wt_3, Option.bind_some, Option.toList_some, Option.toList_none, List.cons_append, List.nil_append, mx_nl_int, mx_nl_ref, mx_nl_null, mx_nl_none, mx_nb0, mx_nb1, mx_fb0, mx_fb1, mx_cat_int, mx_cat_ref, if_true, if_false, not_true_eq_false, not_false_eq_true]
  rfl
theorem rc_copy {h h' : mx_H} {a b : Nat} {p : prs} (R : rcP h a p) (h4 : (pit p).length ≤ 4) (e : ∀ o, o < 80 → mi h' 77 (80 * b + o) = mi h 77 (80 * a + o)) : rcP h' b p := by
  refine ⟨fun o ho => (e o (by omega)).trans (R.1 o ho), fun k hk j hj => ?_⟩
  have := e (20 + 14 * k + j) (by omega)
  rw [show 80 * b + 20 + 14 * k + j = 80 * b + (20 + 14 * k + j) by omega, this, show 80 * a + (20 + 14 * k + j) = 80 * a + 20 + 14 * k + j by omega]
  exact R.2 k hk j hj
theorem pe_id {p : prs} {i v o : Nat} (h0 : o ≠ 0) (h1 : o ≠ 1) : pe (sId p i v) o = pe p o := by
  unfold pe
  rw [if_neg h0, if_neg h1, if_neg h0, if_neg h1]; rfl
/-- the model holds the people -/
def mSt (h : mx_H) (sl : slt) (s : sto) : Prop := mr_T h ∧ hld sl s.1 ∧ sls h sl ∧ (mi h 76 1 = nI s.2.1 ∧ s.2.1 < 2 ^ 20 ∧ ∀ p ∈ s.1, p.1 ≤ s.2.1) ∧ mi h 76 34 = nI s.2.2.length ∧ s.2.2.length ≤ 8 ∧ ∀ k, k < s.2.2.length → mi h 100 k = nI (s.2.2.getD k 0)
def stP (P : Nat → Nat → Bool) : Prop := (∀ k, k < 640 → P 77 k = false) ∧ P 76 1 = false ∧ P 76 34 = false ∧ ∀ k, P 100 k = false
theorem mSt_mf {P : Nat → Nat → Bool} {h h' : mx_H} {sl : slt} {s : sto} (M : mSt h sl s) (m : mf P h h') (hP : stP P) : mSt h' sl s := by
  obtain ⟨-, H, E, ⟨a, b⟩, c, e, f⟩ := M
  exact ⟨m.1, H, sls_keep E fun i hi => m.2.1 _ _ (hP.1 i hi), ⟨(m.2.1 _ _ hP.2.1).trans a, b⟩, (m.2.1 _ _ hP.2.2.1).trans c, e, fun k hk => (m.2.1 _ _ (hP.2.2.2 k)).trans (f k hk)⟩
def Pct (a k : Nat) : Bool := a == 79 || (a == 80 || (a == 81 || (a == 82 || (a == 83 || (a == 76 && (k == 3 || (k == 4 || k == 10)))))))
theorem fr_mf {h h' : mx_H} (T : mr_T h') (F : rm_fr h h') : mf Pct h h' := by
  refine ⟨T, fun a k e => F.1 a k ?_ ?_ ?_ ?_ ?_ ?_, fun a k z e => ?_⟩
  · intro y; subst y; simp [Pct] at e
  · intro y; subst y; simp [Pct] at e
  · intro y; subst y; simp [Pct] at e
  · intro y; subst y; simp [Pct] at e
  · intro y; subst y; simp [Pct] at e
  · rintro ⟨y, z⟩; subst y; simp [Pct] at e; omega
  · rcases z with z | z
    · subst z; simp [Pct] at e
    · subst z; exact F.2 k
theorem stct : stP Pct := ⟨fun _ _ => rfl, rfl, rfl, fun _ => rfl⟩
theorem st84 : stP P84 := ⟨fun _ _ => rfl, rfl, rfl, fun _ => rfl⟩
theorem st79 : stP P79 := ⟨fun k hk => by unfold P79; simp; omega, rfl, rfl, fun _ => rfl⟩
theorem st77 : stP P77 := ⟨fun k hk => by unfold P77; simp; omega, rfl, rfl, fun _ => rfl⟩
theorem TK_of {bs : List Nat} (B : ∀ c ∈ bs, c < 128) (S : lx_good (lx bs.length bs) = true → rm_TS h (lx bs.length bs)) (g : lx_good (lx bs.length bs) = true) : rm_TK h (lx bs.length bs) ∧ tkOK (lx bs.length bs) := by
  have S := S g
  have ok : ∀ q ∈ lx bs.length bs, tk_ok q := fun q hq => lx_ok _ bs B q hq (by
    have := List.all_eq_true.1 g q hq
    exact of_decide_eq_true this)
  exact ⟨⟨S, ok⟩, S.2.1, fun q hq => ⟨ok q hq, lx_okN _ bs q hq⟩⟩
theorem buf_128 {bs : List Nat} (B : rm_buf h bs) : ∀ c ∈ bs, c < 128 := by
  intro c hc
  obtain ⟨k, hk, e⟩ := List.getElem_of_mem hc
  have := (B.2.2.2 k hk).2
  rw [List.getD_eq_getElem?_getD, List.getElem?_eq_getElem hk] at this
  rw [← e]; exact this
theorem ppl_len : ∀ sl : slt, (ppl sl).length ≤ sl.length ∧ ((∃ k, k < sl.length ∧ sl.getD k none = none) → (ppl sl).length < sl.length) ∧ ((∀ k, k < sl.length → sl.getD k none ≠ none) → (ppl sl).length = sl.length) := by
  intro sl
  induction sl with
  | nil => exact ⟨Nat.le_refl _, fun ⟨k, hk, _⟩ => absurd hk (by simp), fun _ => rfl⟩
  | cons o sl ih =>
    obtain ⟨i1, i2, i3⟩ := ih
    cases o with
    | none =>
      have e : ppl (none :: sl) = ppl sl := rfl
      rw [e, List.length_cons]
      exact ⟨by omega, fun _ => by omega, fun z => absurd rfl (z 0 (by simp))⟩
    | some p =>
      have e : ppl (some p :: sl) = p :: ppl sl := rfl
      rw [e, List.length_cons, List.length_cons]
      refine ⟨by omega, fun ⟨k, hk, z⟩ => ?_, fun z => ?_⟩
      · cases k with
        | zero => cases z
        | succ k => have := i2 ⟨k, by omega, z⟩; omega
      · have := i3 fun k hk => z (k + 1) (by omega); omega
theorem rm_free (T : mr_T h) {sl : slt} (E : sls h sl) {l1 : Int32} : ∀ n s, s + n = 8 → (∀ k, k < s → sl.getD k none ≠ none) →
    (∃ k, k < 8 ∧ sl.getD k none = none ∧ mx_G (d + 1) 239 76 [some (.ref 76), some (.int l1), some (.int (nI s))] [] h = mx_G (d + 1) 239 97 [some (.ref 76), some (.int l1), some (.int (nI k))] [] h) ∨
    ((∀ k, k < 8 → sl.getD k none ≠ none) ∧ mx_G (d + 1) 239 76 [some (.ref 76), some (.int l1), some (.int (nI s))] [] h = mx_G (d + 1) 239 97 [some (.ref 76), some (.int l1), some (.int (nI 8))] [] h) := by
  intro n
  induction n with
  | zero =>
    intro s hs hk
    have : s = 8 := by omega
    subst this
    right
    refine ⟨hk, ?_⟩
    simp only [r239_76, r239_77, r239_79, mx_isr_ref, mx_isr_null, mx_wt_nil, mx_wt_1, mx_wt_2, mx_wt_3, Option.bind_some, Option.toList_some, Option.toList_none, List.cons_append, List.nil_append, mx_nl_int, mx_nl_ref, mx_nl_null, mx_nl_none, mx_nb0, mx_nb1, mx_fb0, mx_fb1, mx_cat_int, mx_cat_ref, if_true, if_false, not_true_eq_false, not_false_eq_true, show (8 : Int32) ≤ nI 8 by decide]
  | succ n ih =>
    intro s hs hk
    have e1 : ¬ (8 : Int32) ≤ nI s := nI_ge (b := 8) (by omega) (by decide)
    have f0 := rm_f (d := d) T (s := s) (o := 0) (by omega)
    rw [show nI 0 = 0 from rfl, Nat.add_zero, slE_id (E s (by omega))] at f0
    cases z : sl.getD s none with
    | none =>
      rw [z, show oid none = 0 from rfl] at f0
      left
      refine ⟨s, by omega, z, ?_⟩
      simp only [r239_76, r239_77, r239_79, r239_82, r239_83, r239_84, r239_85, r239_88, mx_isr_ref, mx_isr_null, mx_wt_nil, mx_wt_1, mx_wt_2, mx_wt_3, Option.bind_some, Option.toList_some, Option.toList_none, List.cons_append, List.nil_append, mx_nl_int, mx_nl_ref, mx_nl_null, mx_nl_none, mx_nb0, mx_nb1, mx_fb0, mx_fb1, mx_cat_int, mx_cat_ref, if_true, if_false, not_true_eq_false, not_false_eq_true, T, e1, f0, show nI 0 ≤ 0 by decide]
    | some p =>
      have Ep := E s (by omega)
      rw [z, show oid (some p) = p.1 from rfl] at f0
      rw [z] at Ep
      have e2 : ¬ nI p.1 ≤ 0 := nI_nle Ep.2.2.1 (by have := Ep.2.2.2.1; omega)
      have st : mx_G (d + 1) 239 76 [some (.ref 76), some (.int l1), some (.int (nI s))] [] h = mx_G (d + 1) 239 76 [some (.ref 76), some (.int l1), some (.int (nI (s + 1)))] [] h := by
        rw [r239_76]
        simp only [r239_77, r239_79, r239_82, r239_83, r239_84, r239_85, r239_88, r239_91, r239_94, mx_isr_ref, mx_isr_null, mx_wt_nil, mx_wt_1, mx_wt_2, mx_wt_3, Option.bind_some, Option.toList_some, Option.toList_none, List.cons_append, List.nil_append, mx_nl_int, mx_nl_ref, mx_nl_null, mx_nl_none, mx_nb0, mx_nb1, mx_fb0, mx_fb1, mx_cat_int, mx_cat_ref, if_true, if_false, not_true_eq_false, not_false_eq_true, T, e1, f0, e2, nI_1]
      rw [st]
      refine ih (s + 1) (by omega) fun k hks => ?_
      by_cases c : k = s
      · subst c; rw [z]; exact fun y => by cases y
      · exact hk k (by omega)
theorem nmW_of {p : prs} (R : rcP h 8 p) (hp : txOk (pnm p)) (hi : p.1 < 2 ^ 20) : nmW h (pnm p) p.1 := by
  refine ⟨hp, hi, R.1 0 (by decide), fun o h1 h2 => ?_⟩
  have := R.1 o (by omega)
  rw [show 640 + o = 80 * 8 + o from rfl, this]
  unfold pe
  rw [if_neg (by omega), if_neg (by omega), if_pos h2]
theorem PB_st {b : Nat} : (∀ a k, a ≠ 77 → PB b a k = false) := fun a k e => by unfold PB; simp [e]
theorem getD_set {sl : slt} {k j : Nat} {o : Option prs} (hl : sl.length = 8) (hk : k < 8) : (sl.set k o).getD j none = if j = k then o else sl.getD j none := by
  rw [List.getD_eq_getElem?_getD, List.getD_eq_getElem?_getD, List.getElem?_set]
  by_cases c : k = j
  · rw [if_pos c, if_pos c.symm, if_pos (by omega)]; rfl
  · rw [if_neg c, if_neg (fun y => c y.symm)]
/-- the tokens of the buffer's text, when it is one object -/
theorem rm_isObj (S : rm_TK h ts) : ∃ h', mf P84 h h' ∧ mx_G (d + 4) 250 0 [some (.ref 76), some (.int 0), none] [] h = some (some (.int (match pV ts 3 0 with | some e => nI e | none => -1)), h') ∧ (oB ts = true ↔ tI ts 0 123 = true ∧ (match pV ts 3 0 with | some e => nI e | none => (-1 : Int32)) = nI ts.length) := by
  have hl := S.1.2.1
  obtain ⟨h', r, m⟩ := rm_valueAt (d := d) S (t := 0) (Nat.zero_le _)
  refine ⟨h', m, r, ?_⟩
  unfold oB
  rw [Bool.and_eq_true]
  cases z : pV ts 3 0 with
  | none =>
    refine ⟨fun y => absurd y.2 (by simp), fun y => ?_⟩
    have y2 : (-1 : Int32) = nI ts.length := y.2
    have := congrArg Int32.toInt y2
    rw [nI_toInt (by omega)] at this
    have : (-1 : Int32).toInt = -1 := by decide
    omega
  | some e =>
    have bd := pE_bd _ _ _ (pV_pE 3 0 e (by omega) z)
    simp only
    rw [nI_eq (by omega) (by omega)]
    simp
end
