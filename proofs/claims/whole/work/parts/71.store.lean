section
variable {d : Nat} {h : mx_H} {ts : List tk}
def sId (p : prs) (i v : Nat) : prs := (i, v, p.2.2)
theorem fS_id (i v : Nat) : ∀ l p, fS ts l (sId p i v) = (fS ts l p).map fun q => sId q i v := by
  intro l
  induction l with
  | nil => intro p; rfl
  | cons m l ih =>
    intro p
    rw [fS, fS]
    split
    · exact ih p
    · split
      · split
        · exact ih (sNm p (tx ts (m + 2)))
        · rfl
      · split
        · split
          · exact ih (sAg p (some (tv ts (m + 2))))
          · rfl
        · split
          · split
            · exact ih (sOn p (some (tb ts (m + 2))))
            · rfl
          · split
            · cases iA ts (m + 2) with
              | none => rfl
              | some x =>
                show (if x.length ≤ 4 ∧ twn x = false ∧ trs x < 2 then fS ts l (sIt (sId p i v) x) else none) = (if x.length ≤ 4 ∧ twn x = false ∧ trs x < 2 then fS ts l (sIt p x) else none).map fun q => sId q i v
                split
                · exact ih (sIt p x)
                · rfl
            · rfl
theorem fP_id (t i v j w : Nat) : fP ts t i v = (fP ts t j w).map fun q => sId q i v := by
  unfold fP
  have := fS_id (ts := ts) i v (kd ts t) (j, w, [], none, none, [])
  rw [show sId (j, w, [], none, none, []) i v = (i, v, [], none, none, []) from rfl] at this
  rw [this]
  cases fS ts (kd ts t) (j, w, [], none, none, []) with
  | none => rfl
  | some q =>
    show (if pnm (sId q i v) = [] then none else some (sId q i v)) = (if pnm q = [] then none else some q).map fun q => sId q i v
    rw [show pnm (sId q i v) = pnm q from rfl]
    split <;> rfl
def slE (h : mx_H) (k : Nat) (o : Option prs) : Prop := match o with | none => mi h 77 (80 * k) = 0 | some p => rcP h k p ∧ wfP p ∧ 0 < p.1 ∧ p.1 < 2 ^ 20 ∧ p.2.1 < 2 ^ 20
def sls (h : mx_H) (sl : slt) : Prop := ∀ k, k < 8 → slE h k (sl.getD k none)
theorem slE_keep {h h' : mx_H} {k : Nat} {o : Option prs} (E : slE h k o) (e : ∀ i, 80 * k ≤ i → i < 80 * k + 80 → mi h' 77 i = mi h 77 i) : slE h' k o := by
  cases o with
  | none => exact (e _ (by omega) (by omega)).trans E
  | some p =>
    obtain ⟨⟨a, b⟩, c⟩ := E
    have h4 := c.1.2.2.1
    exact ⟨⟨fun o ho => (e _ (by omega) (by omega)).trans (a o ho), fun j hj => itR_keep (b j hj) fun i hi => e _ (by omega) (by omega)⟩, c⟩
theorem sls_keep {h h' : mx_H} {sl : slt} (E : sls h sl) (e : ∀ i, i < 640 → mi h' 77 i = mi h 77 i) : sls h' sl := fun k hk => slE_keep (E k hk) fun i _ h2 => e i (by omega)
def oid (o : Option prs) : Nat := match o with | none => 0 | some p => p.1
theorem slE_id {k : Nat} {o : Option prs} (E : slE h k o) : mi h 77 (80 * k) = nI (oid o) := by
  cases o with
  | none => exact E
  | some p => exact E.1.1 0 (by decide)
theorem rm_slotL (T : mr_T h) {sl : slt} (E : sls h sl) {id : Int32} : ∀ n s, s + n = 8 → (∀ k p, k < s → sl.getD k none = some p → nI p.1 ≠ id) →
    (∃ k p, k < 8 ∧ sl.getD k none = some p ∧ nI p.1 = id ∧ mx_G (d + 1) 280 2 [some (.ref 76), some (.int id), some (.int (nI s))] [] h = some (some (.int (nI k)), h)) ∨
    ((∀ k p, k < 8 → sl.getD k none = some p → nI p.1 ≠ id) ∧ mx_G (d + 1) 280 2 [some (.ref 76), some (.int id), some (.int (nI s))] [] h = some (some (.int (-1)), h)) := by
  intro n
  induction n with
  | zero =>
    intro s hs hk
    have : s = 8 := by omega
    subst this
    right
    refine ⟨hk, ?_⟩
    simp only [r280_2, r280_3, r280_5, r280_30, r280_31, mx_isr_ref, mx_isr_null, mx_wt_nil, mx_wt_1, mx_wt_2, mx_wt_3, Option.bind_some, Option.toList_some, Option.toList_none, List.cons_append, List.nil_append, mx_nl_int, mx_nl_ref, mx_nl_null, mx_nl_none, mx_nb0, mx_nb1, mx_fb0, mx_fb1, mx_cat_int, mx_cat_ref, if_true, if_false, not_true_eq_false, not_false_eq_true, show (8 : Int32) ≤ nI 8 by decide]
  | succ n ih =>
    intro s hs hk
    have e1 : ¬ (8 : Int32) ≤ nI s := nI_ge (b := 8) (by omega) (by decide)
    have f0 := rm_f (d := d) T (s := s) (o := 0) (by omega)
    rw [show nI 0 = 0 from rfl, Nat.add_zero, slE_id (E s (by omega))] at f0
    have step : (∀ p, sl.getD s none = some p → nI p.1 ≠ id) → mx_G (d + 1) 280 2 [some (.ref 76), some (.int id), some (.int (nI s))] [] h = mx_G (d + 1) 280 2 [some (.ref 76), some (.int id), some (.int (nI (s + 1)))] [] h → 
        (∃ k p, k < 8 ∧ sl.getD k none = some p ∧ nI p.1 = id ∧ mx_G (d + 1) 280 2 [some (.ref 76), some (.int id), some (.int (nI s))] [] h = some (some (.int (nI k)), h)) ∨
        ((∀ k p, k < 8 → sl.getD k none = some p → nI p.1 ≠ id) ∧ mx_G (d + 1) 280 2 [some (.ref 76), some (.int id), some (.int (nI s))] [] h = some (some (.int (-1)), h)) := by
      intro h1 h2
      rw [h2]
      refine ih (s + 1) (by omega) fun k p hks hp => ?_
      by_cases c : k = s
      · subst c; exact h1 p hp
      · exact hk k p (by omega) hp
    by_cases c0 : id ≤ 0
    · refine step (fun p hp z => ?_) ?_
      · have := E s (by omega)
        rw [hp] at this
        have pp := this.2.2
        rw [← z] at c0
        exact absurd c0 (nI_nle pp.1 (by omega))
      · rw [r280_2]
        simp only [r280_3, r280_5, r280_8, r280_9, r280_24, r280_27, mx_isr_ref, mx_isr_null, mx_wt_nil, mx_wt_1, mx_wt_2, mx_wt_3, Option.bind_some, Option.toList_some, Option.toList_none, List.cons_append, List.nil_append, mx_nl_int, mx_nl_ref, mx_nl_null, mx_nl_none, mx_nb0, mx_nb1, mx_fb0, mx_fb1, mx_cat_int, mx_cat_ref, if_true, if_false, not_true_eq_false, not_false_eq_true, e1, c0, nI_1]
    · cases z : sl.getD s none with
      | none =>
        rw [z, show oid none = 0 from rfl] at f0
        have ne : ¬ (nI 0 = id) := fun y => c0 (by rw [← y]; decide)
        refine step (fun p hp => by rw [z] at hp; cases hp) ?_
        rw [r280_2]
        simp only [r280_3, r280_5, r280_8, r280_9, r280_12, r280_13, r280_14, r280_15, r280_18, r280_19, r280_24, r280_27, mx_isr_ref, mx_isr_null, mx_wt_nil, mx_wt_1, mx_wt_2, mx_wt_3, Option.bind_some, Option.toList_some, Option.toList_none, List.cons_append, List.nil_append, mx_nl_int, mx_nl_ref, mx_nl_null, mx_nl_none, mx_nb0, mx_nb1, mx_fb0, mx_fb1, mx_cat_int, mx_cat_ref, if_true, if_false, not_true_eq_false, not_false_eq_true, T, e1, c0, f0, ne, nI_1]
      | some p =>
        rw [z, show oid (some p) = p.1 from rfl] at f0
        by_cases ce : nI p.1 = id
        · left
          refine ⟨s, p, by omega, z, ce, ?_⟩
          simp only [r280_2, r280_3, r280_5, r280_8, r280_9, r280_12, r280_13, r280_14, r280_15, r280_18, r280_19, r280_22, r280_23, mx_isr_ref, mx_isr_null, mx_wt_nil, mx_wt_1, mx_wt_2, mx_wt_3, Option.bind_some, Option.toList_some, Option.toList_none, List.cons_append, List.nil_append, mx_nl_int, mx_nl_ref, mx_nl_null, mx_nl_none, mx_nb0, mx_nb1, mx_fb0, mx_fb1, mx_cat_int, mx_cat_ref, if_true, if_false, not_true_eq_false, not_false_eq_true, T, e1, c0, f0, eq_true ce]
        · refine step (fun p' hp => by rw [z] at hp; cases hp; exact ce) ?_
          rw [r280_2]
          simp only [r280_3, r280_5, r280_8, r280_9, r280_12, r280_13, r280_14, r280_15, r280_18, r280_19, r280_24, r280_27, mx_isr_ref, mx_isr_null, mx_wt_nil, mx_wt_1, mx_wt_2, mx_wt_3, Option.bind_some, Option.toList_some, Option.toList_none, List.cons_append, List.nil_append, mx_nl_int, mx_nl_ref, mx_nl_null, mx_nl_none, mx_nb0, mx_nb1, mx_fb0, mx_fb1, mx_cat_int, mx_cat_ref, if_true, if_false, not_true_eq_false, not_false_eq_true, T, e1, c0, f0, ce, nI_1]
theorem rm_slot (T : mr_T h) {sl : slt} (E : sls h sl) {id : Int32} :
    (∃ k p, k < 8 ∧ sl.getD k none = some p ∧ nI p.1 = id ∧ mx_G (d + 1) 280 0 [some (.ref 76), some (.int id), none] [] h = some (some (.int (nI k)), h)) ∨
    ((∀ k p, k < 8 → sl.getD k none = some p → nI p.1 ≠ id) ∧ mx_G (d + 1) 280 0 [some (.ref 76), some (.int id), none] [] h = some (some (.int (-1)), h)) := by
  have L := rm_slotL (d := d) T E (id := id) 8 0 rfl (fun k p hk => by omega)
  have st : mx_G (d + 1) 280 0 [some (.ref 76), some (.int id), none] [] h = mx_G (d + 1) 280 2 [some (.ref 76), some (.int id), some (.int (nI 0))] [] h := by
    simp only [r280_0, r280_1, mx_isr_ref, mx_isr_null, mx_wt_nil, mx_wt_1, mx_wt_2, mx_wt_3, Option.bind_some, Option.toList_some, Option.toList_none, List.cons_append, List.nil_append, mx_nl_int, mx_nl_ref, mx_nl_null, mx_nl_none, mx_nb0, mx_nb1, mx_fb0, mx_fb1, mx_cat_int, mx_cat_ref, if_true, if_false, not_true_eq_false, not_false_eq_true]; rfl
  rw [st]
  exact L
/-- what the places say of an id -/
theorem sl_of {sl : slt} {ps : List prs} (H : hld sl ps) {k : Nat} {p : prs} (hk : k < 8) (e : sl.getD k none = some p) : sl[k]? = some (some p) := by
  rw [List.getD_eq_getElem?_getD] at e
  cases z : sl[k]? with
  | none => have := List.getElem?_eq_none_iff.1 z; have := H.1; omega
  | some o => rw [z] at e; rw [show o = some p from e]
theorem nI_int {n : Nat} {x : Int32} (hn : n < 2 ^ 31) : nI n = x ↔ (n : Int) = x.toInt := by
  constructor
  · intro e; rw [← e, nI_toInt hn]
  · intro e
    apply Int32.toInt_inj.1
    rw [nI_toInt hn, e]
theorem sl_yes {sl : slt} {ps : List prs} (H : hld sl ps) {k : Nat} {p : prs} {id : Int32} (hk : k < 8) (e : sl.getD k none = some p) (hp : p.1 < 2 ^ 20) (hi : nI p.1 = id) : pOf ps id.toInt = some p := by
  have := hld_of H (sl_of H hk e)
  rw [(nI_int (by omega)).1 hi] at this
  exact this
theorem sl_no {sl : slt} {ps : List prs} (H : hld sl ps) (E : sls h sl) {id : Int32} (hk : ∀ k p, k < 8 → sl.getD k none = some p → nI p.1 ≠ id) : pOf ps id.toInt = none := by
  refine hld_no H fun k p e z => ?_
  have kl : k < 8 := by
    rcases Nat.lt_or_ge k 8 with c | c
    · exact c
    · rw [List.getElem?_eq_none (by have := H.1; omega)] at e; cases e
  have e' : sl.getD k none = some p := by rw [List.getD_eq_getElem?_getD, e]; rfl
  have := E k kl
  rw [e'] at this
  exact hk k p kl e' ((nI_int (by have := this.2.2.2.1; omega)).2 z)
/-- the name of the draft is in places 2 .. 14 -/
def nmW (h : mx_H) (nm : List Nat) (wid : Nat) : Prop := txOk nm ∧ wid < 2 ^ 20 ∧ mi h 77 640 = nI wid ∧ ∀ o, 2 ≤ o → o < 15 → mi h 77 (640 + o) = te nm (o - 2)
theorem te_lt {l : List Nat} (hx : txOk l) (j : Nat) : ∃ c, c < 128 ∧ te l j = nI c ∧ te (l.map sml) j = nI (sml c) := by
  unfold te
  by_cases c : j = 0
  · refine ⟨l.length, by have := hx.2.1; omega, by rw [if_pos c], ?_⟩
    rw [if_pos c, List.length_map]
    have := hx.2.1
    congr 1
    unfold sml
    rw [if_neg (by omega)]
  · refine ⟨l.getD (j - 1) 0, getD_lt hx.2.2 _, by rw [if_neg c], ?_⟩
    rw [if_neg c]
    congr 1
    rw [List.getD_eq_getElem?_getD, List.getD_eq_getElem?_getD, List.getElem?_map]
    cases l[j - 1]? <;> rfl
theorem txOk_map {l : List Nat} (hx : txOk l) : txOk (l.map sml) := by
  refine ⟨by rw [List.length_map]; exact hx.1, by rw [List.length_map]; exact hx.2.1, fun c hc => ?_⟩
  obtain ⟨y, hy, e⟩ := List.mem_map.1 hc
  rw [← e]; exact sml_lt (hx.2.2 y hy)
theorem rm_tk0 {s : Int32} : ∀ n k, k + n = 15 → ∃ x, mx_G (d + 1) 277 41 [some (.ref 76), some (.int s), some (.int 0), some (.int (nI k))] [] h = mx_G (d + 1) 277 85 [some (.ref 76), some (.int s), some (.int 0), some (.int x)] [] h := by
  intro n k hk
  refine ⟨nI k, ?_⟩
  by_cases e1 : (15 : Int32) ≤ nI k
  · simp only [r277_41, r277_42, r277_44, mx_isr_ref, mx_isr_null, mx_wt_nil, mx_wt_1, mx_wt_2, mx_wt_3, Option.bind_some, Option.toList_some, Option.toList_none, List.cons_append, List.nil_append, mx_nl_int, mx_nl_ref, mx_nl_null, mx_nl_none, mx_nb0, mx_nb1, mx_fb0, mx_fb1, mx_cat_int, mx_cat_ref, if_true, if_false, not_true_eq_false, not_false_eq_true, e1]
  · simp only [r277_41, r277_42, r277_44, r277_47, r277_48, mx_isr_ref, mx_isr_null, mx_wt_nil, mx_wt_1, mx_wt_2, mx_wt_3, Option.bind_some, Option.toList_some, Option.toList_none, List.cons_append, List.nil_append, mx_nl_int, mx_nl_ref, mx_nl_null, mx_nl_none, mx_nb0, mx_nb1, mx_fb0, mx_fb1, mx_cat_int, mx_cat_ref, if_true, if_false, not_true_eq_false, not_false_eq_true, e1]
theorem rm_tkL (T : mr_T h) {s : Nat} {p : prs} {nm : List Nat} {wid : Nat} (hs : s < 8) (R : rcP h s p) (hp : txOk (pnm p)) (N : nmW h nm wid) : ∀ n k, k + n = 15 → 2 ≤ k →
    ((∀ j, k ≤ j → j < 15 → te ((pnm p).map sml) (j - 2) = te (nm.map sml) (j - 2)) → ∃ x, mx_G (d + 1) 277 41 [some (.ref 76), some (.int (nI s)), some (.int 1), some (.int (nI k))] [] h = mx_G (d + 1) 277 85 [some (.ref 76), some (.int (nI s)), some (.int 1), some (.int x)] [] h) ∧
    (¬ (∀ j, k ≤ j → j < 15 → te ((pnm p).map sml) (j - 2) = te (nm.map sml) (j - 2)) → ∃ x, mx_G (d + 1) 277 41 [some (.ref 76), some (.int (nI s)), some (.int 1), some (.int (nI k))] [] h = mx_G (d + 1) 277 85 [some (.ref 76), some (.int (nI s)), some (.int 0), some (.int x)] [] h) := by
  intro n
  induction n with
  | zero =>
    intro k hk h2
    have : k = 15 := by omega
    subst this
    refine ⟨fun _ => ⟨nI 15, ?_⟩, fun z => absurd (fun j h1 h2 => by omega) z⟩
    simp only [r277_41, r277_42, r277_44, mx_isr_ref, mx_isr_null, mx_wt_nil, mx_wt_1, mx_wt_2, mx_wt_3, Option.bind_some, Option.toList_some, Option.toList_none, List.cons_append, List.nil_append, mx_nl_int, mx_nl_ref, mx_nl_null, mx_nl_none, mx_nb0, mx_nb1, mx_fb0, mx_fb1, mx_cat_int, mx_cat_ref, if_true, if_false, not_true_eq_false, not_false_eq_true, show (15 : Int32) ≤ nI 15 by decide]
  | succ n ih =>
    intro k hk h2
    have e1 : ¬ (15 : Int32) ≤ nI k := nI_ge (b := 15) (by omega) (by decide)
    obtain ⟨c, c1, c2, c3⟩ := te_lt hp (k - 2)
    obtain ⟨g, g1, g2, g3⟩ := te_lt N.1 (k - 2)
    have fa := rm_f (d := d) T (s := s) (o := k) (by omega)
    have fb := rm_f (d := d) T (s := 8) (o := k) (by omega)
    have pk : pe p k = te (pnm p) (k - 2) := by unfold pe; rw [if_neg (by omega), if_neg (by omega), if_pos (by omega)]
    rw [R.1 k (by omega), pk, c2] at fa
    rw [show 80 * 8 + k = 640 + k from rfl, N.2.2.2 k h2 (by omega), g2, show nI 8 = 8 from rfl] at fb
    by_cases e : sml c = sml g
    · have st : mx_G (d + 1) 277 41 [some (.ref 76), some (.int (nI s)), some (.int 1), some (.int (nI k))] [] h = mx_G (d + 1) 277 41 [some (.ref 76), some (.int (nI s)), some (.int 1), some (.int (nI (k + 1)))] [] h := by
        rw [r277_41]
        simp only [r277_42, r277_44, r277_47, r277_48, r277_51, r277_52, r277_53, r277_54, r277_57, r277_60, r277_61, r277_63, r277_64, r277_67, r277_70, r277_73, r277_74, r277_77, r277_78, r277_79, r277_82, mx_isr_ref, mx_isr_null, mx_wt_nil, mx_wt_1, mx_wt_2, mx_wt_3, Option.bind_some, Option.toList_some, Option.toList_none, List.cons_append, List.nil_append, mx_nl_int, mx_nl_ref, mx_nl_null, mx_nl_none, mx_nb0, mx_nb1, mx_fb0, mx_fb1, mx_cat_int, mx_cat_ref, if_true, if_false, not_true_eq_false, not_false_eq_true, T, e1, fa, fb, rm_small c1, rm_small g1, e, nI_1, show ¬ (1 : Int32) = 0 by decide]
      rw [st]
      obtain ⟨i1, i2⟩ := ih (k + 1) (by omega) (by omega)
      refine ⟨fun z => i1 fun j h1 h2 => z j (by omega) h2, fun z => i2 fun y => z fun j h1 h2 => ?_⟩
      by_cases cj : j = k
      · rw [cj, c3, g3, e]
      · exact y j (by omega) h2
    · have e' : ¬ nI (sml c) = nI (sml g) := by rw [sml_eq c1 g1]; exact e
      refine ⟨fun z => absurd (z k (Nat.le_refl _) (by omega)) (by rw [c3, g3]; exact e'), fun _ => ?_⟩
      obtain ⟨x, r⟩ := rm_tk0 (d := d) (h := h) (s := nI s) n (k + 1) (by omega)
      refine ⟨x, ?_⟩
      rw [← r, r277_41]
      simp only [r277_42, r277_44, r277_47, r277_48, r277_51, r277_52, r277_53, r277_54, r277_57, r277_60, r277_61, r277_63, r277_64, r277_67, r277_70, r277_73, r277_74, r277_77, r277_78, r277_79, r277_82, mx_isr_ref, mx_isr_null, mx_wt_nil, mx_wt_1, mx_wt_2, mx_wt_3, Option.bind_some, Option.toList_some, Option.toList_none, List.cons_append, List.nil_append, mx_nl_int, mx_nl_ref, mx_nl_null, mx_nl_none, mx_nb0, mx_nb1, mx_fb0, mx_fb1, mx_cat_int, mx_cat_ref, if_true, if_false, not_true_eq_false, not_false_eq_true, T, e1, fa, fb, rm_small c1, rm_small g1, e', nI_1, show ¬ (1 : Int32) = 0 by decide]
def tkB (nm : List Nat) (wid : Nat) (x : prs) : Prop := x.1 ≠ wid ∧ (pnm x).map sml = nm.map sml
theorem rm_tkS (T : mr_T h) {sl : slt} (E : sls h sl) {nm : List Nat} {wid : Nat} (N : nmW h nm wid) : ∀ n s (l2 l3 : Option Value), s + n = 8 →
    ((∃ k p, s ≤ k ∧ k < 8 ∧ sl.getD k none = some p ∧ tkB nm wid p) → mx_G (d + 1) 277 2 [some (.ref 76), some (.int (nI s)), l2, l3] [] h = some (some (.int 1), h)) ∧
    ((¬ ∃ k p, s ≤ k ∧ k < 8 ∧ sl.getD k none = some p ∧ tkB nm wid p) → mx_G (d + 1) 277 2 [some (.ref 76), some (.int (nI s)), l2, l3] [] h = some (some (.int 0), h)) := by
  intro n
  induction n with
  | zero =>
    intro s l2 l3 hs
    have : s = 8 := by omega
    subst this
    refine ⟨fun ⟨k, p, h1, h2, _⟩ => by omega, fun _ => ?_⟩
    simp only [r277_2, r277_3, r277_5, r277_97, r277_98, mx_isr_ref, mx_isr_null, mx_wt_nil, mx_wt_1, mx_wt_2, mx_wt_3, Option.bind_some, Option.toList_some, Option.toList_none, List.cons_append, List.nil_append, mx_nl_int, mx_nl_ref, mx_nl_null, mx_nl_none, mx_nb0, mx_nb1, mx_fb0, mx_fb1, mx_cat_int, mx_cat_ref, if_true, if_false, not_true_eq_false, not_false_eq_true, show (8 : Int32) ≤ nI 8 by decide]
  | succ n ih =>
    intro s l2 l3 hs
    have e1 : ¬ (8 : Int32) ≤ nI s := nI_ge (b := 8) (by omega) (by decide)
    have f0 := rm_f (d := d) T (s := s) (o := 0) (by omega)
    rw [show nI 0 = 0 from rfl, Nat.add_zero, slE_id (E s (by omega))] at f0
    have fw := rm_f (d := d) T (s := 8) (o := 0) (by omega)
    rw [show nI 8 = 8 from rfl, show nI 0 = 0 from rfl, show 80 * 8 + 0 = 640 from rfl, N.2.2.1] at fw
    have nxt : ∀ x : Int32, mx_G (d + 1) 277 85 [some (.ref 76), some (.int (nI s)), some (.int 0), some (.int x)] [] h = mx_G (d + 1) 277 2 [some (.ref 76), some (.int (nI (s + 1))), some (.int 0), some (.int x)] [] h := by
      intro x
      simp only [r277_85, r277_86, r277_89, r277_90, r277_91, r277_94, mx_isr_ref, mx_isr_null, mx_wt_nil, mx_wt_1, mx_wt_2, mx_wt_3, Option.bind_some, Option.toList_some, Option.toList_none, List.cons_append, List.nil_append, mx_nl_int, mx_nl_ref, mx_nl_null, mx_nl_none, mx_nb0, mx_nb1, mx_fb0, mx_fb1, mx_cat_int, mx_cat_ref, if_true, if_false, not_true_eq_false, not_false_eq_true, nI_1]
    have skip : ∀ x : Int32, (∀ p, sl.getD s none = some p → ¬ tkB nm wid p) → mx_G (d + 1) 277 2 [some (.ref 76), some (.int (nI s)), l2, l3] [] h = mx_G (d + 1) 277 85 [some (.ref 76), some (.int (nI s)), some (.int 0), some (.int x)] [] h →
        ((∃ k p, s ≤ k ∧ k < 8 ∧ sl.getD k none = some p ∧ tkB nm wid p) → mx_G (d + 1) 277 2 [some (.ref 76), some (.int (nI s)), l2, l3] [] h = some (some (.int 1), h)) ∧
        ((¬ ∃ k p, s ≤ k ∧ k < 8 ∧ sl.getD k none = some p ∧ tkB nm wid p) → mx_G (d + 1) 277 2 [some (.ref 76), some (.int (nI s)), l2, l3] [] h = some (some (.int 0), h)) := by
      intro x hno st
      rw [st, nxt]
      obtain ⟨i1, i2⟩ := ih (s + 1) (some (.int 0)) (some (.int x)) (by omega)
      refine ⟨fun ⟨k, p, h1, h2, h3, h4⟩ => i1 ⟨k, p, ?_, h2, h3, h4⟩, fun z => i2 fun ⟨k, p, h1, h2⟩ => z ⟨k, p, by omega, h2⟩⟩
      rcases Nat.lt_or_ge s k with c | c
      · exact c
      · have : k = s := by omega
        subst this
        exact absurd h4 (hno p h3)
    have zero : ∃ x, mx_G (d + 1) 277 37 [some (.ref 76), some (.int (nI s)), l2, l3] [] h = mx_G (d + 1) 277 85 [some (.ref 76), some (.int (nI s)), some (.int 0), some (.int x)] [] h := by
      obtain ⟨x, r⟩ := rm_tk0 (d := d) (h := h) (s := nI s) 13 2 (by omega)
      refine ⟨x, ?_⟩
      rw [← r]
      simp only [r277_37, r277_38, r277_39, r277_40, mx_isr_ref, mx_isr_null, mx_wt_nil, mx_wt_1, mx_wt_2, mx_wt_3, Option.bind_some, Option.toList_some, Option.toList_none, List.cons_append, List.nil_append, mx_nl_int, mx_nl_ref, mx_nl_null, mx_nl_none, mx_nb0, mx_nb1, mx_fb0, mx_fb1, mx_cat_int, mx_cat_ref, if_true, if_false, not_true_eq_false, not_false_eq_true]
      rfl
    cases z : sl.getD s none with
    | none =>
      rw [z, show oid none = 0 from rfl] at f0
      obtain ⟨x, r⟩ := zero
      refine skip x (fun p hp => by rw [z] at hp; cases hp) ?_
      rw [← r]
      simp only [r277_2, r277_3, r277_5, r277_8, r277_9, r277_10, r277_11, r277_14, mx_isr_ref, mx_isr_null, mx_wt_nil, mx_wt_1, mx_wt_2, mx_wt_3, Option.bind_some, Option.toList_some, Option.toList_none, List.cons_append, List.nil_append, mx_nl_int, mx_nl_ref, mx_nl_null, mx_nl_none, mx_nb0, mx_nb1, mx_fb0, mx_fb1, mx_cat_int, mx_cat_ref, if_true, if_false, not_true_eq_false, not_false_eq_true, T, e1, f0, show nI 0 ≤ 0 by decide]
    | some p =>
      have Ep := E s (by omega)
      rw [z, show oid (some p) = p.1 from rfl] at f0
      rw [z] at Ep
      have pp := Ep.2.2
      have e2 : ¬ nI p.1 ≤ 0 := nI_nle pp.1 (by omega)
      by_cases ci : p.1 = wid
      · have e3 : nI p.1 = nI wid := by rw [ci]
        obtain ⟨x, r⟩ := zero
        refine skip x (fun q hq => by rw [z] at hq; cases hq; exact fun y => y.1 ci) ?_
        rw [← r]
        simp only [r277_2, r277_3, r277_5, r277_8, r277_9, r277_10, r277_11, r277_14, r277_17, r277_18, r277_19, r277_20, r277_23, r277_24, r277_26, r277_27, r277_30, mx_isr_ref, mx_isr_null, mx_wt_nil, mx_wt_1, mx_wt_2, mx_wt_3, Option.bind_some, Option.toList_some, Option.toList_none, List.cons_append, List.nil_append, mx_nl_int, mx_nl_ref, mx_nl_null, mx_nl_none, mx_nb0, mx_nb1, mx_fb0, mx_fb1, mx_cat_int, mx_cat_ref, if_true, if_false, not_true_eq_false, not_false_eq_true, T, e1, f0, fw, e2, eq_true e3]
      · have e3 : ¬ nI p.1 = nI wid := fun y => ci ((nI_eq (by omega) (by have := N.2.1; omega)).mp y)
        have st : mx_G (d + 1) 277 2 [some (.ref 76), some (.int (nI s)), l2, l3] [] h = mx_G (d + 1) 277 41 [some (.ref 76), some (.int (nI s)), some (.int 1), some (.int (nI 2))] [] h := by
          simp only [r277_2, r277_3, r277_5, r277_8, r277_9, r277_10, r277_11, r277_14, r277_17, r277_18, r277_19, r277_20, r277_23, r277_24, r277_26, r277_27, r277_30, r277_33, r277_34, r277_37, r277_38, r277_39, r277_40, mx_isr_ref, mx_isr_null, mx_wt_nil, mx_wt_1, mx_wt_2, mx_wt_3, Option.bind_some, Option.toList_some, Option.toList_none, List.cons_append, List.nil_append, mx_nl_int, mx_nl_ref, mx_nl_null, mx_nl_none, mx_nb0, mx_nb1, mx_fb0, mx_fb1, mx_cat_int, mx_cat_ref, if_true, if_false, not_true_eq_false, not_false_eq_true, T, e1, f0, fw, e2, e3]
          rfl
        have L := rm_tkL (d := d) T (s := s) (by omega) Ep.1 Ep.2.1.1 N 13 2 rfl (by decide)
        by_cases cn : (pnm p).map sml = nm.map sml
        · obtain ⟨x, r⟩ := L.1 fun j _ _ => by rw [cn]
          refine ⟨fun _ => ?_, fun y => absurd ⟨s, p, Nat.le_refl _, by omega, z, ci, cn⟩ y⟩
          rw [st, r]
          simp only [r277_85, r277_86, r277_89, r277_90, mx_isr_ref, mx_isr_null, mx_wt_nil, mx_wt_1, mx_wt_2, mx_wt_3, Option.bind_some, Option.toList_some, Option.toList_none, List.cons_append, List.nil_append, mx_nl_int, mx_nl_ref, mx_nl_null, mx_nl_none, mx_nb0, mx_nb1, mx_fb0, mx_fb1, mx_cat_int, mx_cat_ref, if_true, if_false, not_true_eq_false, not_false_eq_true, show ¬ (1 : Int32) = 0 by decide]
        · obtain ⟨x, r⟩ := L.2 fun y => cn (te_inj (txOk_map Ep.2.1.1) (txOk_map N.1) fun j hj => by
            have := y (j + 2) (by omega) (by omega)
            rw [Nat.add_sub_cancel] at this
            exact this)
          exact skip x (fun q hq => by rw [z] at hq; cases hq; exact fun y => cn y.2) (by rw [st, r])
theorem rm_taken (T : mr_T h) {sl : slt} {ps : List prs} (H : hld sl ps) (E : sls h sl) {p : prs} {wid : Nat} (N : nmW h (pnm p) wid) (hw : ∀ x ∈ ps, (x.1 ≠ wid ↔ x.1 ≠ p.1)) : mx_G (d + 1) 277 0 [some (.ref 76), none, none, none] [] h = some (some (.int (if tkn ps p = true then 1 else 0)), h) := by
  have L := rm_tkS (d := d) T E N 8 0 none none rfl
  have st : mx_G (d + 1) 277 0 [some (.ref 76), none, none, none] [] h = mx_G (d + 1) 277 2 [some (.ref 76), some (.int (nI 0)), none, none] [] h := by simp only [r277_0, r277_1, mx_isr_ref, mx_isr_null, mx_wt_nil, mx_wt_1, mx_wt_2, mx_wt_3, Option.bind_some, Option.toList_some, Option.toList_none, List.cons_append, List.nil_append, mx_nl_int, mx_nl_ref, mx_nl_null, mx_nl_none, mx_nb0, mx_nb1, mx_fb0, mx_fb1, mx_cat_int, mx_cat_ref, if_true, if_false, not_true_eq_false, not_false_eq_true]; rfl
  have key : tkn ps p = true ↔ ∃ k q, 0 ≤ k ∧ k < 8 ∧ sl.getD k none = some q ∧ tkB (pnm p) wid q := by
    unfold tkn
    rw [List.any_eq_true]
    constructor
    · rintro ⟨x, hx, e⟩
      obtain ⟨k, hk⟩ := (hld_mem H).1 hx
      have kl : k < 8 := by
        rcases Nat.lt_or_ge k 8 with c | c
        · exact c
        · rw [List.getElem?_eq_none (by have := H.1; omega)] at hk; cases hk
      rw [Bool.and_eq_true] at e
      exact ⟨k, x, Nat.zero_le _, kl, by rw [List.getD_eq_getElem?_getD, hk]; rfl, (hw x hx).2 (of_decide_eq_true e.1), beq_iff_eq.1 e.2⟩
    · rintro ⟨k, x, -, hk, e, t1, t2⟩
      have hx := (hld_mem H).2 ⟨k, sl_of H hk e⟩
      refine ⟨x, hx, ?_⟩
      rw [Bool.and_eq_true]
      exact ⟨decide_eq_true ((hw x hx).1 t1), beq_iff_eq.2 t2⟩
  rw [st]
  by_cases c : tkn ps p = true
  · rw [if_pos c]; exact L.1 (key.1 c)
  · rw [if_neg c]; exact L.2 fun z => c (key.2 z)
end
