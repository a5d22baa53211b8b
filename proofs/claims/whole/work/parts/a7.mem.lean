/-! Objects and arrays of the class: rows of parts; members and elements read. -/
/-- a row of parts, from f to g -/
def pG (V : Nat → Nat → Prop) (ts : List tk) (o : Bool) (M : List Nat) (h : mx_H) : Value → List Nat → Value → Prop
  | f, [], g => f = g
  | f, m :: l, g => ∃ (p s w : Nat) (f' : Value), f = .ref p ∧ h[p]? = some (.inl 6, [.ref s, .ref w, f']) ∧ fz M p ∧ Str M h s (if o = true then nmf ts m else []) ∧ V w (mv o m) ∧ pG V ts o M h f' l g
def cVl (ts : List tk) : Nat → List Nat → mx_H → Nat → Nat → Prop
  | 0, M, h, v, t => 0 < sc ts t ∧ VP M h v (pk ts t)
  | n + 1, M, h, v, t =>
    if tI ts t 123 = true then ∃ f s, h[v]? = some (.inl 4, [.int 3, .int 0, .ref s, f]) ∧ fz M v ∧ Str M h s [] ∧ pG (cVl ts n M h) ts true M h f (kd ts t) .null
    else if tI ts t 91 = true then ∃ f s, h[v]? = some (.inl 4, [.int 4, .int 0, .ref s, f]) ∧ fz M v ∧ Str M h s [] ∧ pG (cVl ts n M h) ts false M h f (kd ts t) .null
    else 0 < sc ts t ∧ VP M h v (pk ts t)
theorem pG.ex {V V' : Nat → Nat → Prop} {ts : List tk} {o : Bool} {M M' : List Nat} {h h' : mx_H} (hV : ∀ w u, V w u → V' w u) (x : Ex M h M' h') : ∀ (l : List Nat) (f g : Value), pG V ts o M h f l g → pG V' ts o M' h' f l g := by
  intro l
  induction l with
  | nil => intro f g e; exact e
  | cons m l ih =>
    rintro f g ⟨p, s, w, f', e1, e2, e3, e4, e5, e6⟩
    exact ⟨p, s, w, f', e1, (x.at e2 e3).1, (x.at e2 e3).2, e4.ex x, hV _ _ e5, ih _ _ e6⟩
theorem cVl.ex {ts : List tk} {M M' : List Nat} {h h' : mx_H} (x : Ex M h M' h') : ∀ (n v t : Nat), cVl ts n M h v t → cVl ts n M' h' v t := by
  intro n
  induction n with
  | zero => rintro v t ⟨a, b⟩; exact ⟨a, b.ex x⟩
  | succ n ih =>
    intro v t c
    rw [cVl] at c ⊢
    split at c
    · rename_i hI
      rw [if_pos hI]
      obtain ⟨f, s, a1, a2, a3, a4⟩ := c
      exact ⟨f, s, (x.at a1 a2).1, (x.at a1 a2).2, a3.ex x, pG.ex (ih) x _ _ _ a4⟩
    · rename_i hI
      rw [if_neg hI]
      split at c
      · rename_i hI2
        rw [if_pos hI2]
        obtain ⟨f, s, a1, a2, a3, a4⟩ := c
        exact ⟨f, s, (x.at a1 a2).1, (x.at a1 a2).2, a3.ex x, pG.ex (ih) x _ _ _ a4⟩
      · rename_i hI2
        rw [if_neg hI2]
        exact ⟨c.1, c.2.ex x⟩
theorem pG_app {V : Nat → Nat → Prop} {ts : List tk} {o : Bool} {M : List Nat} {h : mx_H} : ∀ (l : List Nat) (f g k : Value) (r : List Nat), pG V ts o M h f l g → pG V ts o M h g r k → pG V ts o M h f (l ++ r) k := by
  intro l
  induction l with
  | nil => intro f g k r e1 e2; cases e1; exact e2
  | cons m l ih =>
    rintro f g k r ⟨p, s, w, f', e1, e2, e3, e4, e5, e6⟩ e7
    exact ⟨p, s, w, f', e1, e2, e3, e4, e5, ih _ _ _ _ e6 e7⟩
theorem pG_isr {V : Nat → Nat → Prop} {ts : List tk} {o : Bool} {M : List Nat} {h : mx_H} {l : List Nat} {f g : Value} (e : pG V ts o M h f l g) (hg : mx_isr g = true) : mx_isr f = true := by
  cases l with
  | nil => cases e; exact hg
  | cons m l => obtain ⟨p, s, w, f', e1, -⟩ := e; rw [e1]; rfl
/-- how read does, n levels deep -/
def RD (d n : Nat) (ts : List tk) : Prop := ∀ (h : mx_H) (x cp c : Nat) (R : List Nat), BT h x cp ts c → RB R h →
  (∀ e, pV ts n c = some e → ∃ (h' : mx_H) (x' cp' v : Nat), mx_G d 48 0 [some (.ref 64), some (.int (nI (3 - n)))] [] h = some (some (.ref v), h') ∧ BT h' x' cp' ts e ∧ cVl ts n (x' :: R) h' v c ∧ h.length ≤ v ∧ PX ts h x cp c h' x' cp' e 50) ∧
  (pV ts n c = none → ∃ (h' : mx_H) (x' cp' c' : Nat), mx_G d 48 0 [some (.ref 64), some (.int (nI (3 - n)))] [] h = some (some .null, h') ∧ BT h' x' cp' ts c' ∧ PX ts h x cp c h' x' cp' c' 0)
def pN (ts : List tk) (h : mx_H) : Value → List Nat → Prop
  | f, [] => f = .null
  | f, m :: l => ∃ (p s b w : Nat) (f' : Value), f = .ref p ∧ h[p]? = some (.inl 6, [.ref s, .ref w, f']) ∧ sB h s b (nmf ts m) ∧ pN ts h f' l
theorem pN_isr {ts : List tk} {h : mx_H} {f : Value} {l : List Nat} (e : pN ts h f l) : mx_isr f = true := by
  cases l with
  | nil => rw [show f = .null from e]; rfl
  | cons m l => obtain ⟨p, s, b, w, f', e1, -⟩ := e; rw [e1]; rfl
theorem nl_isr {v : Value} (h : mx_isr v = true) : mx_nl (some v) = true := by cases v <;> first | rfl | (cases h; done)
theorem isr_kn {v : Value} (h : mx_isr v = true) : mx_known v = true := by cases v <;> first | rfl | (cases h; done)
section
variable {d : Nat} {ts : List tk}
theorem jv_dupL {h : mx_H} {s b : Nat} {nm : List Nat} (S : sB h s b nm) {y : Int32} {f0 : Value} (hf0 : mx_isr f0 = true) : ∀ (l : List Nat) (f : Value), pN ts h f l → mx_G (d + 2) 54 25 [some (.ref 64), some (.int y), some f0, some (.ref s), some f] [] h =
    if l.all (fun u => nmf ts u != nm) = true then mx_G (d + 2) 54 54 [some (.ref 64), some (.int y), some f0, some (.ref s), some .null] [] h else some (some .null, h) := by
  intro l
  induction l with
  | nil =>
    intro f e
    rw [show f = .null from e]
    simp only [g54_25, g54_27, g54_27n, mx_isr_ref, mx_isr_null, mx_wt_nil, mx_wt_1, mx_wt_2, mx_wt_3, Option.bind_some, Option.toList_some, Option.toList_none, List.cons_append, List.nil_append, mx_nl_int, mx_nl_ref, mx_nl_null, mx_nl_none, mx_nb0, mx_nb1, mx_fb0, mx_fb1, mx_cat_int, mx_cat_ref, if_true, if_false, not_true_eq_false, not_false_eq_true, mx_wt_4, mx_w4_0, mx_w9_0, mx_w9_1, mx_kn_int, mx_kn_ref, mx_kn_null, Nat.reduceLT, ofn, n10, List.all_nil]
  | cons m l ih =>
    rintro f ⟨p, s', b', w, f', rfl, e2, e3, e4⟩
    have hf := pN_isr e4
    have E := js_equals (d := d) e3 S
    have tg : mx_tag h p = some (.inl 6) := ce_t e2
    have ln : mx_ln h p = 3 := by rw [ce_n e2]; rfl
    have x0 : mx_el h p 0 = .ref s' := by rw [ce_e e2]; rfl
    have x2 : mx_el h p 2 = f' := by rw [ce_e e2]; rfl
    rw [g54_25 mx_isr_ref]
    by_cases c : nmf ts m = nm
    · rw [if_pos c] at E
      simp only [g54_27, g54_27n, g54_30, g54_32, g54_35, g54_36, g54_39, g54_42, g54_43, mx_isr_ref, mx_isr_null, mx_wt_nil, mx_wt_1, mx_wt_2, mx_wt_3, Option.bind_some, Option.toList_some, Option.toList_none, List.cons_append, List.nil_append, mx_nl_int, mx_nl_ref, mx_nl_null, mx_nl_none, mx_nb0, mx_nb1, mx_fb0, mx_fb1, mx_cat_int, mx_cat_ref, if_true, if_false, not_true_eq_false, not_false_eq_true, mx_wt_4, mx_w4_0, mx_w9_0, mx_w9_1, mx_kn_int, mx_kn_ref, mx_kn_null, Nat.reduceLT, ofn, n10, tg, ln, x0, (sB_f e3).1, E, List.all_cons, show (nmf ts m != nm) = false by simpa using c, Bool.false_and, Bool.false_eq_true]
    · rw [if_neg c] at E
      simp only [g54_27, g54_27n, g54_30, g54_32, g54_35, g54_36, g54_39, g54_42, g54_43, g54_44, g54_46, g54_49, g54_51, mx_isr_ref, mx_isr_null, mx_wt_nil, mx_wt_1, mx_wt_2, mx_wt_3, Option.bind_some, Option.toList_some, Option.toList_none, List.cons_append, List.nil_append, mx_nl_int, mx_nl_ref, mx_nl_null, mx_nl_none, mx_nb0, mx_nb1, mx_fb0, mx_fb1, mx_cat_int, mx_cat_ref, if_true, if_false, not_true_eq_false, not_false_eq_true, mx_wt_4, mx_w4_0, mx_w9_0, mx_w9_1, mx_kn_int, mx_kn_ref, mx_kn_null, Nat.reduceLT, ofn, n10, tg, ln, x0, x2, hf, isr_kn hf, (sB_f e3).1, E, List.all_cons, show (nmf ts m != nm) = true by simpa using c, Bool.true_and]
      exact ih f' e4
theorem jv_part {h : mx_H} {p s w : Nat} (hp : 63 ≤ p) (e : h[p]? = some (.inl 6, [.null, .null, .null])) : mx_G (d + 1) 107 0 [some (.ref p), some (.ref s), some (.ref w)] [] h = some (none, mx_up (mx_up h p 0 (.ref s)) p 1 (.ref w)) ∧ (mx_up (mx_up h p 0 (.ref s)) p 1 (.ref w))[p]? = some (.inl 6, [.ref s, .ref w, .null]) ∧ Fr [p] h (mx_up (mx_up h p 0 (.ref s)) p 1 (.ref w)) ∧ mw (mx_up (mx_up h p 0 (.ref s)) p 1 (.ref w)) = mw h := by
  have hn : mt_nO ≤ p := by rw [show mt_nO = 63 by decide]; exact hp
  refine ⟨?_, by rw [c_up (c_up e)]; rfl, (Fr.up (by simp)).trans (Fr.up (F := [p]) (by simp)) (fun a ha => Or.inl ha), by rw [mw_up, mw_up]⟩
  simp only [g107_0, g107_1, g107_4, g107_5, g107_6, g107_9, g107_10, g107_11, g107_14, mx_isr_ref, mx_isr_null, mx_wt_nil, mx_wt_1, mx_wt_2, mx_wt_3, Option.bind_some, Option.toList_some, Option.toList_none, List.cons_append, List.nil_append, mx_nl_int, mx_nl_ref, mx_nl_null, mx_nl_none, mx_nb0, mx_nb1, mx_fb0, mx_fb1, mx_cat_int, mx_cat_ref, if_true, if_false, not_true_eq_false, not_false_eq_true, mx_wt_4, mx_w4_0, mx_w9_0, mx_w9_1, mx_kn_int, mx_kn_ref, mx_kn_null, Nat.reduceLT, ofn, n10, ce_t e, hn, mx_tag_up]
/-- a part made behind all -/
theorem jv_mkPart {h : mx_H} (hl : 63 ≤ h.length) (s w : Nat) : ∃ h', mx_G (d + 1) 107 0 [some (.ref h.length), some (.ref s), some (.ref w)] [] (h ++ [(.inl 6, [.null, .null, .null])]) = some (none, h') ∧ h'[h.length]? = some (.inl 6, [.ref s, .ref w, .null]) ∧ Fr [] h h' ∧ mw h' = mw h + 15 ∧ h'.length = h.length + 1 := by
  obtain ⟨a1, a2, a3, a4⟩ := jv_part (d := d) (h := h ++ [((.inl 6 : Nat ⊕ FieldType), [Value.null, .null, .null])]) (p := h.length) (s := s) (w := w) hl (c_app _ _)
  refine ⟨_, a1, a2, (Fr.app [] h _).trans a3 (fun a ha => by rw [List.mem_singleton] at ha; exact Or.inr (by omega)), by rw [a4, mw_app]; rfl, by rw [mx_len_up, mx_len_up]; simp⟩
variable {h : mx_H} {x cp c : Nat}
theorem jv_elem {n : Nat} (rd : RD (d + 10) n ts) {R : List Nat} (T : BT h x cp ts c) (r : RB R h) :
    (∀ e, pV ts n c = some e → ∃ (h1 h' : mx_H) (x' cp' s w : Nat), mx_G (d + 11) 108 0 [some (.ref 64), some (.int (nI (3 - n))), none] [] h = some (some (.ref h1.length), h') ∧ Fr [] h1 h' ∧ h'[h1.length]? = some (.inl 6, [.ref s, .ref w, .null]) ∧ h'.length = h1.length + 1 ∧ mw h' = mw h1 + 15 ∧ BT h1 x' cp' ts e ∧ Str (x' :: R) h1 s [] ∧ cVl ts n (x' :: R) h1 w c ∧ PX ts h x cp c h1 x' cp' e 50) ∧
    (pV ts n c = none → ∃ (h' : mx_H) (x' cp' c' : Nat), mx_G (d + 11) 108 0 [some (.ref 64), some (.int (nI (3 - n))), none] [] h = some (some .null, h') ∧ BT h' x' cp' ts c' ∧ PX ts h x cp c h' x' cp' c' 0) := by
  obtain ⟨r1, r2⟩ := rd h x cp c R T r
  refine ⟨fun e he => ?_, fun he => ?_⟩
  · obtain ⟨h1, x', cp', v, a1, a2, a3, a4, a5⟩ := r1 e he
    obtain ⟨xl1, xl2, xl3, xl4, K, xl5⟩ := a2.xlt
    obtain ⟨h', b1, b2, b3, b4, b5⟩ := jv_mkPart (d := d + 9) (h := h1) (by omega) 11 v
    refine ⟨h1, h', x', cp', 11, v, ?_, b3, b2, b5, b4, a2, ?_, a3, a5⟩
    · simp only [g108_0, g108_1, g108_2, g108_5, g108_6, g108_7, g108_7n, g108_10, g108_11, g108_14, g108_17, g108_18, g108_20, g108_21, g108_24, mx_isr_ref, mx_isr_null, mx_wt_nil, mx_wt_1, mx_wt_2, mx_wt_3, Option.bind_some, Option.toList_some, Option.toList_none, List.cons_append, List.nil_append, mx_nl_int, mx_nl_ref, mx_nl_null, mx_nl_none, mx_nb0, mx_nb1, mx_fb0, mx_fb1, mx_cat_int, mx_cat_ref, if_true, if_false, not_true_eq_false, not_false_eq_true, mx_wt_4, mx_w4_0, mx_w9_0, mx_w9_1, mx_kn_int, mx_kn_ref, mx_kn_null, Nat.reduceLT, ofn, n10, a1, ce_t (c_app h1 ((.inl 6 : Nat ⊕ FieldType), [Value.null, .null, .null])), b1]
    · refine KS.str K (fun a ha => ?_) 2 (by decide)
      rcases List.mem_cons.mp ha with rfl | z
      · exact xl2
      · exact (r _ z).1
  · obtain ⟨h', x', cp', c', a1, a2, a3⟩ := r2 he
    refine ⟨h', x', cp', c', ?_, a2, a3⟩
    simp only [g108_0, g108_1, g108_2, g108_5, g108_6, g108_7, g108_7n, g108_10, g108_11, g108_14, g108_17, g108_18, g108_20, g108_21, g108_24, mx_isr_ref, mx_isr_null, mx_wt_nil, mx_wt_1, mx_wt_2, mx_wt_3, Option.bind_some, Option.toList_some, Option.toList_none, List.cons_append, List.nil_append, mx_nl_int, mx_nl_ref, mx_nl_null, mx_nl_none, mx_nb0, mx_nb1, mx_fb0, mx_fb1, mx_cat_int, mx_cat_ref, if_true, if_false, not_true_eq_false, not_false_eq_true, mx_wt_4, mx_w4_0, mx_w9_0, mx_w9_1, mx_kn_int, mx_kn_ref, mx_kn_null, Nat.reduceLT, ofn, n10, a1]
theorem jv_mem {n : Nat} (rd : RD (d + 10) n ts) {R : List Nat} (T : BT h x cp ts c) (r : RB R h) {f : Value} {l : List Nat} (hf : mx_isr f = true) (hN : ∀ h2, Fr [64, 69, x] h h2 → pN ts h2 f l) :
    (∀ e, isMem ts c = true → l.all (fun u => nmf ts u != nmf ts c) = true → pV ts n (c + 2) = some e → ∃ (h1 h' : mx_H) (x' cp' s w : Nat), mx_G (d + 11) 54 0 [some (.ref 64), some (.int (nI (3 - n))), some f, none, none] [] h = some (some (.ref h1.length), h') ∧ Fr [] h1 h' ∧ h'[h1.length]? = some (.inl 6, [.ref s, .ref w, .null]) ∧ h'.length = h1.length + 1 ∧ mw h' = mw h1 + 15 ∧ BT h1 x' cp' ts e ∧ Str (x' :: R) h1 s (nmf ts c) ∧ cVl ts n (x' :: R) h1 w (c + 2) ∧ PX ts h x cp c h1 x' cp' e 50) ∧
    (isMem ts c = false ∨ l.all (fun u => nmf ts u != nmf ts c) = false ∨ pV ts n (c + 2) = none → ∃ (h' : mx_H) (x' cp' c' : Nat), mx_G (d + 11) 54 0 [some (.ref 64), some (.int (nI (3 - n))), some f, none, none] [] h = some (some .null, h') ∧ BT h' x' cp' ts c' ∧ PX ts h x cp c h' x' cp' c' 0) := by
  have A := jt_isAt (d := d + 10) T (k := 3) (by decide)
  rw [show nI 3 = 3 from rfl] at A
  obtain ⟨f1, f2, f3, f4, f5, f6, f7, f8, f9, f10, f11, f12⟩ := T.kind
  by_cases c3 : (tA ts c).1 = 3
  · have i3 : tI ts c 3 = true := by simp [tI, c3]
    have hlt : c < ts.length := tI_ltN (by decide) i3
    rw [if_pos i3] at A
    obtain ⟨h1, x1, cp1, s1, b1, t1, t2, t3, t4, t5, t6, t7, t8⟩ := jt_text (d := d + 2) T (Or.inr c3)
    obtain ⟨xl1, xl2, xl3, xl4, K1, xl5⟩ := t2.xlt
    obtain ⟨h2, s2, b2, u1, u2, u3, u4, u5, u6⟩ := jf_foldAll (d := d + 5) K1 (by omega) t3
    have T2 := t2.fr u5 (by simp)
    obtain ⟨h3, v1, v2, v3, v4⟩ := jt_next (d := d + 10) T2
    rw [show min (c + 1) ts.length = c + 1 by omega] at v2
    have S3 : sB h3 s2 b2 (nmf ts c) := by
      obtain ⟨⟨z2, z3, q1⟩, q2, q3⟩ := u2
      exact ⟨⟨z2, z3, v3.at q1 (by have := t8.1.1; simp; omega)⟩, v3.at q2 (by have := t8.1.1; have := T.xlt.2.2.2.1; simp; omega), q3⟩
    have l1 := t8.1.1
    have l2 := u5.1
    have l3 := v3.1
    have hP3 : PX ts h x cp c h3 x1 cp1 (c + 1) 32 := by
      have := t8.2.2.2
      refine ⟨(t8.1.trans u5 (fun a ha => absurd ha (by simp))).trans v3 (fun a ha => Or.inl (by simp at ha; simp [ha])), t8.2.1, Nat.le_succ c, ?_⟩
      rw [Wt_succ hlt]
      omega
    have N3 := hN h3 hP3.1
    have L := jv_dupL (d := d + 9) S3 (y := nI (3 - n)) hf l f N3
    have pre : mx_G (d + 11) 54 0 [some (.ref 64), some (.int (nI (3 - n))), some f, none, none] [] h = mx_G (d + 11) 54 25 [some (.ref 64), some (.int (nI (3 - n))), some f, some (.ref s2), some f] [] h3 := by
      simp only [g54_0, g54_1, g54_2, g54_5, g54_8, g54_9, g54_10, g54_11, g54_14, g54_17, g54_18, g54_19, g54_22, g54_23, mx_isr_ref, mx_isr_null, mx_wt_nil, mx_wt_1, mx_wt_2, mx_wt_3, Option.bind_some, Option.toList_some, Option.toList_none, List.cons_append, List.nil_append, mx_nl_int, mx_nl_ref, mx_nl_null, mx_nl_none, mx_nb0, mx_nb1, mx_fb0, mx_fb1, mx_cat_int, mx_cat_ref, if_true, if_false, not_true_eq_false, not_false_eq_true, mx_wt_4, mx_w4_0, mx_w9_0, mx_w9_1, mx_kn_int, mx_kn_ref, mx_kn_null, Nat.reduceLT, ofn, n10, f1, A, t1, u1, (T2.kind).1, v1, hf, nl_isr hf]
    rw [pre, L]
    have f1' := (v2.kind).1
    have hfz : ∀ a, (a = 12 ∨ h1.length ≤ a) → a < h2.length → fz (x1 :: R) a := by
      intro a ha hal
      have := T.xlt.2.2.2.1
      refine ⟨by omega, fun z => ?_⟩
      rcases List.mem_cons.mp z with z | z
      · omega
      · have := r _ z; omega
    have Str3 : Str (x1 :: R) h3 s2 (nmf ts c) := by
      have e1 := S3.1
      obtain ⟨z2, z3, q1⟩ := u2.1
      refine ⟨b2, hfz _ (Or.inr u3) (ce_l q1), hfz _ u4 (ce_l u2.2.1), S3⟩
    by_cases hd : l.all (fun u => nmf ts u != nmf ts c) = true
    · rw [if_pos hd]
      obtain ⟨h4, w1, w2, w3, w4⟩ := jt_take (d := d + 9) v2 (k := 58) (by decide) (by decide)
      rw [show nI 58 = 58 from rfl] at w1
      by_cases c58 : tI ts (c + 1) 58 = true
      · rw [if_pos c58] at w1 w2
        have hM : isMem ts c = true := by unfold isMem; rw [decide_eq_true c3, c58]; rfl
        have hlt1 : c + 1 < ts.length := tI_ltN (by decide) c58
        have hP4 : PX ts h3 x1 cp1 (c + 1) h4 x1 cp1 (c + 2) 100 := (px_of64 v2 w3 w4 (Nat.le_succ _)).mono (by rw [Wt_succ hlt1]; omega)
        have P4 := hP3.trans hP4
        have l4 := w3.1
        obtain ⟨r1, r2⟩ := rd h4 x1 cp1 (c + 2) R w2 (r.le (by omega))
        refine ⟨fun e _ _ he => ?_, fun z => ?_⟩
        · obtain ⟨h5, x5, cp5, v, y1, y2, y3, y4, y5⟩ := r1 e he
          obtain ⟨h', z1, z2, z3, z4, z5⟩ := jv_mkPart (d := d + 9) (h := h5) (by have := y2.xlt.2.2.2.1; omega) s2 v
          refine ⟨h5, h', x5, cp5, s2, v, ?_, z3, z2, z5, z4, y2, ?_, y3, (P4.trans y5).mono (by omega)⟩
          · simp only [g54_54, g54_55, g54_57, g54_60, g54_63, g54_64, g54_65, g54_68, g54_71, g54_72, g54_74, g54_76, g54_76n, g54_79, g54_80, g54_83, g54_86, g54_87, g54_88, g54_90, g54_93, mx_isr_ref, mx_isr_null, mx_wt_nil, mx_wt_1, mx_wt_2, mx_wt_3, Option.bind_some, Option.toList_some, Option.toList_none, List.cons_append, List.nil_append, mx_nl_int, mx_nl_ref, mx_nl_null, mx_nl_none, mx_nb0, mx_nb1, mx_fb0, mx_fb1, mx_cat_int, mx_cat_ref, if_true, if_false, not_true_eq_false, not_false_eq_true, mx_wt_4, mx_w4_0, mx_w9_0, mx_w9_1, mx_kn_int, mx_kn_ref, mx_kn_null, Nat.reduceLT, ofn, n10, f1', w1, y1, ce_t (c_app h5 ((.inl 6 : Nat ⊕ FieldType), [Value.null, .null, .null])), z1]
          · exact (Str3.ex (hP4.ex (r.le (by omega)))).ex (y5.ex (r.le (by omega)))
        · have hno : pV ts n (c + 2) = none := by
            rcases z with z | z | z
            · rw [hM] at z; cases z
            · rw [hd] at z; cases z
            · exact z
          obtain ⟨h5, x5, cp5, c5, y1, y2, y3⟩ := r2 hno
          refine ⟨h5, x5, cp5, c5, ?_, y2, (P4.trans y3).mono (Nat.zero_le _)⟩
          simp only [g54_54, g54_55, g54_57, g54_60, g54_63, g54_64, g54_65, g54_68, g54_71, g54_72, g54_74, g54_76, g54_76n, g54_79, g54_80, g54_83, g54_86, g54_87, g54_88, g54_90, g54_93, mx_isr_ref, mx_isr_null, mx_wt_nil, mx_wt_1, mx_wt_2, mx_wt_3, Option.bind_some, Option.toList_some, Option.toList_none, List.cons_append, List.nil_append, mx_nl_int, mx_nl_ref, mx_nl_null, mx_nl_none, mx_nb0, mx_nb1, mx_fb0, mx_fb1, mx_cat_int, mx_cat_ref, if_true, if_false, not_true_eq_false, not_false_eq_true, mx_wt_4, mx_w4_0, mx_w9_0, mx_w9_1, mx_kn_int, mx_kn_ref, mx_kn_null, Nat.reduceLT, ofn, n10, f1', w1, y1]
      · rw [if_neg c58] at w1 w2
        have hM : isMem ts c = false := by unfold isMem; rw [show tI ts (c + 1) 58 = false by simpa using c58, Bool.and_false]
        refine ⟨fun e z => (by rw [hM] at z; cases z), fun _ => ⟨h4, x1, cp1, c + 1, ?_, w2, ?_⟩⟩
        · simp only [g54_54, g54_55, g54_57, g54_60, g54_63, g54_64, g54_65, g54_68, g54_71, g54_72, g54_74, g54_76, g54_76n, g54_79, g54_80, g54_83, g54_86, g54_87, g54_88, g54_90, g54_93, mx_isr_ref, mx_isr_null, mx_wt_nil, mx_wt_1, mx_wt_2, mx_wt_3, Option.bind_some, Option.toList_some, Option.toList_none, List.cons_append, List.nil_append, mx_nl_int, mx_nl_ref, mx_nl_null, mx_nl_none, mx_nb0, mx_nb1, mx_fb0, mx_fb1, mx_cat_int, mx_cat_ref, if_true, if_false, not_true_eq_false, not_false_eq_true, mx_wt_4, mx_w4_0, mx_w9_0, mx_w9_1, mx_kn_int, mx_kn_ref, mx_kn_null, Nat.reduceLT, ofn, n10, f1', w1]
        · exact (hP3.trans ((px_of64 v2 w3 w4 (Nat.le_refl _)).mono (Nat.zero_le _))).mono (Nat.zero_le _)
    · rw [if_neg hd]
      exact ⟨fun e _ z => absurd z hd, fun _ => ⟨h3, x1, cp1, c + 1, rfl, v2, hP3.mono (Nat.zero_le _)⟩⟩
  · have i3 : ¬ tI ts c 3 = true := by simpa [tI] using c3
    rw [if_neg i3] at A
    have hM : isMem ts c = false := by unfold isMem; rw [decide_eq_false c3, Bool.false_and]
    refine ⟨fun e z => (by rw [hM] at z; cases z), fun _ => ⟨h, x, cp, c, ?_, T, PX.rfl _ _ _ _ _⟩⟩
    simp only [g54_0, g54_1, g54_2, g54_5, g54_8, g54_9, mx_isr_ref, mx_isr_null, mx_wt_nil, mx_wt_1, mx_wt_2, mx_wt_3, Option.bind_some, Option.toList_some, Option.toList_none, List.cons_append, List.nil_append, mx_nl_int, mx_nl_ref, mx_nl_null, mx_nl_none, mx_nb0, mx_nb1, mx_fb0, mx_fb1, mx_cat_int, mx_cat_ref, if_true, if_false, not_true_eq_false, not_false_eq_true, mx_wt_4, mx_w4_0, mx_w9_0, mx_w9_1, mx_kn_int, mx_kn_ref, mx_kn_null, Nat.reduceLT, ofn, n10, f1, A]
end
