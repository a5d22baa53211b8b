/-! Values: what they are, how they are made, the plain ones read. -/
def Wt (ts : List tk) (a : Nat) : Nat := ((ts.take a).map fun q => 100 + 4 * q.2.length).sum
theorem Wt_succ {ts : List tk} {c : Nat} (h : c < ts.length) : Wt ts (c + 1) = Wt ts c + (100 + 4 * (tA ts c).2.length) := by
  have e : ts.take (c + 1) = ts.take c ++ [tA ts c] := by
    unfold tA
    rw [List.take_add_one, List.getD_eq_getElem?_getD, List.getElem?_eq_getElem h]
    rfl
  unfold Wt
  rw [e, List.map_append, List.sum_append]
  rfl
theorem Wt_mono {ts : List tk} {a b : Nat} (h : a ≤ b) : Wt ts a ≤ Wt ts b := by
  induction b with
  | zero => rw [show a = 0 by omega]; exact Nat.le_refl _
  | succ b ih =>
    by_cases e : a = b + 1
    · rw [e]; exact Nat.le_refl _
    · have := ih (by omega)
      by_cases hb : b < ts.length
      · rw [Wt_succ hb]; omega
      · have : Wt ts (b + 1) = Wt ts b := by
          unfold Wt
          rw [List.take_of_length_le (by omega), List.take_of_length_le (by omega)]
        omega
/-- how the reading goes on: k is left of the room that the tokens bring -/
def PX (ts : List tk) (h : mx_H) (x cp c : Nat) (h' : mx_H) (x' cp' c' k : Nat) : Prop := Fr [64, 69, x] h h' ∧ (x' = x ∨ h.length ≤ x') ∧ c ≤ c' ∧ mw h' + 3 * cp + Wt ts c + k ≤ mw h + 3 * cp' + Wt ts c'
theorem PX.rfl (ts : List tk) (h : mx_H) (x cp c : Nat) : PX ts h x cp c h x cp c 0 := ⟨Fr.rfl _ _, Or.inl (Eq.refl _), Nat.le_refl _, Nat.le_refl _⟩
theorem PX.trans {ts : List tk} {h h' h'' : mx_H} {x x' x'' cp cp' cp'' c c' c'' k k' : Nat} (a : PX ts h x cp c h' x' cp' c' k) (b : PX ts h' x' cp' c' h'' x'' cp'' c'' k') : PX ts h x cp c h'' x'' cp'' c'' (k + k') := by
  obtain ⟨a1, a2, a3, a4⟩ := a
  obtain ⟨b1, b2, b3, b4⟩ := b
  have := a1.1
  refine ⟨a1.trans b1 (fun q hq => ?_), ?_, by omega, by omega⟩
  · simp only [List.mem_cons, List.not_mem_nil, or_false] at hq ⊢
    rcases hq with rfl | rfl | rfl
    · exact Or.inl (Or.inl (Eq.refl _))
    · exact Or.inl (Or.inr (Or.inl (Eq.refl _)))
    · exact a2.elim (fun z => Or.inl (Or.inr (Or.inr z))) (fun z => Or.inr z)
  · rcases b2 with rfl | z
    · exact a2
    · exact Or.inr (by omega)
theorem PX.tx {ts : List tk} {h h' h'' : mx_H} {x x' x'' cp cp' cp'' c c' k k' : Nat} (a : PX ts h x cp c h' x' cp' c' k) (b : TX h' x' cp' h'' x'' cp'' k') (hk : k' ≤ k) : PX ts h x cp c h'' x'' cp'' c' (k - k') := by
  obtain ⟨a1, a2, a3, a4⟩ := a
  obtain ⟨b1, b2, b3, b4⟩ := b
  have := a1.1
  refine ⟨a1.trans b1 (fun q hq => ?_), ?_, by omega, by omega⟩
  · simp only [List.mem_cons, List.not_mem_nil, or_false] at hq ⊢
    rcases hq with rfl | rfl | rfl
    · exact Or.inl (Or.inl (Eq.refl _))
    · exact Or.inl (Or.inr (Or.inl (Eq.refl _)))
    · exact a2.elim (fun z => Or.inl (Or.inr (Or.inr z))) (fun z => Or.inr z)
  · rcases b2 with rfl | z
    · exact a2
    · exact Or.inr (by omega)
theorem TX.px {ts : List tk} {h h' h'' : mx_H} {x x' x'' cp cp' cp'' c c' k k' : Nat} (a : TX h x cp h' x' cp' k) (b : PX ts h' x' cp' c h'' x'' cp'' c' k') (hk : k ≤ k') : PX ts h x cp c h'' x'' cp'' c' (k' - k) := by
  obtain ⟨a1, a2, a3, a4⟩ := a
  obtain ⟨b1, b2, b3, b4⟩ := b
  have := a1.1
  refine ⟨a1.trans b1 (fun q hq => ?_), ?_, by omega, by omega⟩
  · simp only [List.mem_cons, List.not_mem_nil, or_false] at hq ⊢
    rcases hq with rfl | rfl | rfl
    · exact Or.inl (Or.inl (Eq.refl _))
    · exact Or.inl (Or.inr (Or.inl (Eq.refl _)))
    · exact a2.elim (fun z => Or.inl (Or.inr (Or.inr z))) (fun z => Or.inr z)
  · rcases b2 with rfl | z
    · exact a2
    · exact Or.inr (by omega)
theorem PX.mono {ts : List tk} {h h' : mx_H} {x x' cp cp' c c' k k' : Nat} (a : PX ts h x cp c h' x' cp' c' k) (hk : k' ≤ k) : PX ts h x cp c h' x' cp' c' k' := ⟨a.1, a.2.1, a.2.2.1, by have := a.2.2.2; omega⟩
/-- something is made, or changed that is new -/
theorem PX.al {ts : List tk} {h h' h'' : mx_H} {x x' cp cp' c c' k n : Nat} {F : List Nat} (a : PX ts h x cp c h' x' cp' c' k) (f : Fr F h' h'') (hF : ∀ q ∈ F, h.length ≤ q) (w : mw h'' ≤ mw h' + n) (hk : n ≤ k) : PX ts h x cp c h'' x' cp' c' (k - n) := by
  obtain ⟨a1, a2, a3, a4⟩ := a
  exact ⟨a1.trans f (fun q hq => Or.inr (hF q hq)), a2, a3, by omega⟩
def RB (R : List Nat) (h : mx_H) : Prop := ∀ a ∈ R, 63 ≤ a ∧ a < h.length
theorem RB.le {R : List Nat} {h h' : mx_H} (r : RB R h) (l : h.length ≤ h'.length) : RB R h' := fun a ha => ⟨(r a ha).1, Nat.lt_of_lt_of_le (r a ha).2 l⟩
theorem PX.ex {ts : List tk} {h h' : mx_H} {x x' cp cp' c c' k : Nat} {R : List Nat} (a : PX ts h x cp c h' x' cp' c' k) (r : RB R h) : Ex (x :: R) h (x' :: R) h' := by
  refine a.1.ex (fun q hq z => ?_) (fun q hq => ?_)
  · simp only [List.mem_cons, List.not_mem_nil, or_false] at hq
    rcases hq with rfl | rfl | rfl
    · exact z.1 (by omega)
    · exact z.1 (by omega)
    · exact z.2 List.mem_cons_self
  · rcases List.mem_cons.mp hq with rfl | z
    · exact a.2.1.elim (fun z => Or.inl (by rw [z]; exact List.mem_cons_self)) Or.inr
    · exact Or.inl (List.mem_cons_of_mem _ z)
theorem TX.ex {h h' : mx_H} {x x' cp cp' k : Nat} {R : List Nat} (a : TX h x cp h' x' cp' k) (r : RB R h) : Ex (x :: R) h (x' :: R) h' := by
  refine a.1.ex (fun q hq z => ?_) (fun q hq => ?_)
  · simp only [List.mem_cons, List.not_mem_nil, or_false] at hq
    rcases hq with rfl | rfl | rfl
    · exact z.1 (by omega)
    · exact z.1 (by omega)
    · exact z.2 List.mem_cons_self
  · rcases List.mem_cons.mp hq with rfl | z
    · exact a.2.1.elim (fun z => Or.inl (by rw [z]; exact List.mem_cons_self)) Or.inr
    · exact Or.inl (List.mem_cons_of_mem _ z)
/-- a plain value: its kind, number, text -/
def VP (M : List Nat) (h : mx_H) (v : Nat) (q : Nat × Int × List Nat) : Prop := ∃ s, h[v]? = some (.inl 4, [.int (nI q.1), .int (Int32.ofInt q.2.1), .ref s, .null]) ∧ fz M v ∧ Str M h s q.2.2
theorem VP.ex {M M' : List Nat} {h h' : mx_H} {v : Nat} {q : Nat × Int × List Nat} (V : VP M h v q) (x : Ex M h M' h') : VP M' h' v q := by
  obtain ⟨s, e, f, S⟩ := V
  exact ⟨s, (x.at e f).1, (x.at e f).2, S.ex x⟩
/-- what a token stands for -/
def pk (ts : List tk) (t : Nat) : Nat × Int × List Nat := if sc ts t = 1 then (1, tv ts t, []) else if sc ts t = 2 then (2, 0, tx ts t) else (0, if tb ts t = true then 1 else 0, [])
theorem KS.str {h : mx_H} (K : KS h) {M : List Nat} (hM : ∀ a ∈ M, 63 ≤ a) (k : Nat) (hk : k < 28) : Str M h (7 + 2 * k) (kts.getD k []) :=
  ⟨8 + 2 * k, ⟨by omega, fun z => by have := hM _ z; omega⟩, ⟨by omega, fun z => by have := hM _ z; omega⟩, K k hk⟩
section
variable {d : Nat} {h : mx_H}
theorem jv_new (v : Nat) (hv : 63 ≤ v) {a0 a1 a2 a3 : Value} (e : h[v]? = some (.inl 4, [a0, a1, a2, a3])) (b0 b1 b2 b3 : Value) : (mx_up (mx_up (mx_up (mx_up h v 0 b0) v 1 b1) v 2 b2) v 3 b3)[v]? = some (.inl 4, [b0, b1, b2, b3]) ∧ Fr [v] h (mx_up (mx_up (mx_up (mx_up h v 0 b0) v 1 b1) v 2 b2) v 3 b3) ∧ mw (mx_up (mx_up (mx_up (mx_up h v 0 b0) v 1 b1) v 2 b2) v 3 b3) = mw h := by
  refine ⟨by rw [c_up (c_up (c_up (c_up e)))]; rfl, ?_, by rw [mw_up, mw_up, mw_up, mw_up]⟩
  exact (((Fr.up (by simp)).trans (Fr.up (F := [v]) (by simp)) (fun a ha => Or.inl ha)).trans (Fr.up (F := [v]) (by simp)) (fun a ha => Or.inl ha)).trans (Fr.up (F := [v]) (by simp)) (fun a ha => Or.inl ha)
theorem jv_53 {v : Nat} (hv : 63 ≤ v) (ht : mx_tag h v = some (.inl 4)) (k : Int32) {f : Value} (hf : mx_isr f = true) : mx_G (d + 1) 53 0 [some (.ref v), some (.int k), some f] [] h = some (none, mx_up (mx_up (mx_up (mx_up h v 0 (.int k)) v 1 (.int 0)) v 2 (.ref 11)) v 3 f) := by
  have hn : mt_nO ≤ v := by rw [show mt_nO = 63 by decide]; exact hv
  simp only [g53_0, g53_1, g53_4, g53_5, g53_6, g53_9, g53_10, g53_11, g53_14, g53_15, g53_17, g53_20, g53_21, g53_22, g53_25, mx_isr_ref, mx_isr_null, mx_wt_nil, mx_wt_1, mx_wt_2, mx_wt_3, Option.bind_some, Option.toList_some, Option.toList_none, List.cons_append, List.nil_append, mx_nl_int, mx_nl_ref, mx_nl_null, mx_nl_none, mx_nb0, mx_nb1, mx_fb0, mx_fb1, mx_cat_int, mx_cat_ref, if_true, if_false, not_true_eq_false, not_false_eq_true, mx_wt_4, mx_w4_0, mx_w9_0, mx_w9_1, mx_kn_int, mx_kn_ref, mx_kn_null, Nat.reduceLT, ofn, n10, ht, hn, mx_tag_up, hf]
theorem jv_114 {v : Nat} (hv : 63 ≤ v) (ht : mx_tag h v = some (.inl 4)) (b : Bool) : mx_G (d + 1) 114 0 [some (.ref v), some (.int (if b = true then 1 else 0))] [] h = some (none, mx_up (mx_up (mx_up (mx_up h v 0 (.int 0)) v 1 (.int (if b = true then 1 else 0))) v 2 (.ref 11)) v 3 .null) := by
  have hn : mt_nO ≤ v := by rw [show mt_nO = 63 by decide]; exact hv
  cases b
  · simp only [g114_0, g114_1, g114_4, g114_5, g114_6, g114_9, g114_10, g114_11, g114_14, g114_15, g114_18, g114_19, g114_22, g114_23, g114_25, g114_28, g114_29, g114_30, g114_33, mx_isr_ref, mx_isr_null, mx_wt_nil, mx_wt_1, mx_wt_2, mx_wt_3, Option.bind_some, Option.toList_some, Option.toList_none, List.cons_append, List.nil_append, mx_nl_int, mx_nl_ref, mx_nl_null, mx_nl_none, mx_nb0, mx_nb1, mx_fb0, mx_fb1, mx_cat_int, mx_cat_ref, if_true, if_false, not_true_eq_false, not_false_eq_true, mx_wt_4, mx_w4_0, mx_w9_0, mx_w9_1, mx_kn_int, mx_kn_ref, mx_kn_null, Nat.reduceLT, ofn, n10, ht, hn, mx_tag_up, Bool.false_eq_true]
  · simp only [g114_0, g114_1, g114_4, g114_5, g114_6, g114_9, g114_10, g114_11, g114_14, g114_15, g114_18, g114_19, g114_22, g114_23, g114_25, g114_28, g114_29, g114_30, g114_33, mx_isr_ref, mx_isr_null, mx_wt_nil, mx_wt_1, mx_wt_2, mx_wt_3, Option.bind_some, Option.toList_some, Option.toList_none, List.cons_append, List.nil_append, mx_nl_int, mx_nl_ref, mx_nl_null, mx_nl_none, mx_nb0, mx_nb1, mx_fb0, mx_fb1, mx_cat_int, mx_cat_ref, if_true, if_false, not_true_eq_false, not_false_eq_true, mx_wt_4, mx_w4_0, mx_w9_0, mx_w9_1, mx_kn_int, mx_kn_ref, mx_kn_null, Nat.reduceLT, ofn, n10, ht, hn, mx_tag_up]
theorem jv_116 {v : Nat} (hv : 63 ≤ v) (ht : mx_tag h v = some (.inl 4)) (k : Int32) : mx_G (d + 1) 116 0 [some (.ref v), some (.int k)] [] h = some (none, mx_up (mx_up (mx_up (mx_up h v 0 (.int 1)) v 1 (.int k)) v 2 (.ref 11)) v 3 .null) := by
  have hn : mt_nO ≤ v := by rw [show mt_nO = 63 by decide]; exact hv
  simp only [g116_0, g116_1, g116_4, g116_5, g116_6, g116_9, g116_10, g116_11, g116_14, g116_15, g116_17, g116_20, g116_21, g116_22, g116_25, mx_isr_ref, mx_isr_null, mx_wt_nil, mx_wt_1, mx_wt_2, mx_wt_3, Option.bind_some, Option.toList_some, Option.toList_none, List.cons_append, List.nil_append, mx_nl_int, mx_nl_ref, mx_nl_null, mx_nl_none, mx_nb0, mx_nb1, mx_fb0, mx_fb1, mx_cat_int, mx_cat_ref, if_true, if_false, not_true_eq_false, not_false_eq_true, mx_wt_4, mx_w4_0, mx_w9_0, mx_w9_1, mx_kn_int, mx_kn_ref, mx_kn_null, Nat.reduceLT, ofn, n10, ht, hn, mx_tag_up]
theorem jv_117 {v : Nat} (hv : 63 ≤ v) (ht : mx_tag h v = some (.inl 4)) (s : Nat) : mx_G (d + 1) 117 0 [some (.ref v), some (.ref s)] [] h = some (none, mx_up (mx_up (mx_up (mx_up h v 0 (.int 2)) v 1 (.int 0)) v 2 (.ref s)) v 3 .null) := by
  have hn : mt_nO ≤ v := by rw [show mt_nO = 63 by decide]; exact hv
  simp only [g117_0, g117_1, g117_4, g117_5, g117_6, g117_9, g117_10, g117_11, g117_14, g117_15, g117_16, g117_19, g117_20, g117_21, g117_24, mx_isr_ref, mx_isr_null, mx_wt_nil, mx_wt_1, mx_wt_2, mx_wt_3, Option.bind_some, Option.toList_some, Option.toList_none, List.cons_append, List.nil_append, mx_nl_int, mx_nl_ref, mx_nl_null, mx_nl_none, mx_nb0, mx_nb1, mx_fb0, mx_fb1, mx_cat_int, mx_cat_ref, if_true, if_false, not_true_eq_false, not_false_eq_true, mx_wt_4, mx_w4_0, mx_w9_0, mx_w9_1, mx_kn_int, mx_kn_ref, mx_kn_null, Nat.reduceLT, ofn, n10, ht, hn, mx_tag_up]
variable {x cp c : Nat} {ts : List tk}
theorem px_of64 (T : BT h x cp ts c) {h' : mx_H} {c' : Nat} (f : Fr [64] h h') (w : mw h' = mw h) (hc : c ≤ c') : PX ts h x cp c h' x cp c' (Wt ts c' - Wt ts c) := by
  have := Wt_mono (ts := ts) hc
  exact ⟨f.mono (by simp), Or.inl rfl, hc, by omega⟩
theorem BT.ne {q : mx_C} {v : Nat} (T : BT h x cp ts c) (e : h[v]? = some q) (hq : q.1 ≠ .inr .byte) : v ≠ x := by
  rintro rfl
  have := T.xlt.2.2.2.2.2.1
  obtain ⟨t, vs⟩ := q
  rw [ce_t e] at this
  exact hq (Option.some.inj this)
theorem sc_word {t : Nat} (hW : tW ts t w_true = true ∨ tW ts t w_false = true) : sc ts t = 3 := by
  unfold sc
  have : tA ts t = (1, w_true) ∨ tA ts t = (1, w_false) := by simpa [tW] using hW
  have h1 : (tA ts t).1 = 1 := by rcases this with z | z <;> rw [z]
  rw [if_neg (by omega), if_neg (by omega), if_pos hW]
/-- a plain value at the mark, or none -/
theorem jv_plain (T : BT h x cp ts c) {R : List Nat} (r : RB R h) :
    (0 < sc ts c → ∃ (h' : mx_H) (x' cp' v : Nat), mx_G (d + 9) 109 0 [some (.ref 64), none] [] h = some (some (.ref v), h') ∧ BT h' x' cp' ts (c + 1) ∧ VP (x' :: R) h' v (pk ts c) ∧ h.length ≤ v ∧ c < ts.length ∧ PX ts h x cp c h' x' cp' (c + 1) 50) ∧
    (sc ts c = 0 → ∃ (h' : mx_H), mx_G (d + 9) 109 0 [some (.ref 64), none] [] h = some (some .null, h') ∧ BT h' x cp ts (min (c + 1) ts.length) ∧ PX ts h x cp c h' x cp (min (c + 1) ts.length) 0) := by
  obtain ⟨f1, f2, f3, f4, f5, f6, f7, f8, f9, f10, f11, f12⟩ := T.kind
  obtain ⟨xl1, xl2, xl3, xl4, K, xl5⟩ := T.xlt
  have K3 : sB h 13 14 w_true := K 3 (by decide)
  obtain ⟨h1, w1, T1, F1, W1⟩ := jt_word (d := d + 4) T K3
  have K4 : sB h1 15 16 w_false := (K.fr F1 (by simp)) 4 (by decide)
  obtain ⟨h2, w2, T2, F2, W2⟩ := jt_word (d := d + 4) T1 K4
  -- a truth is made in a heap
  have mk : ∀ (h1 : mx_H) (b : Bool), BT h1 x cp ts (c + 1) → Fr [64] h h1 → mw h1 = mw h → sc ts c = 3 → tb ts c = b → c < ts.length → ∃ (h' : mx_H) (v : Nat), v = h1.length ∧ mx_G (d + 8) 114 0 [some (.ref h1.length), some (.int (if b = true then 1 else 0))] [] (h1 ++ [(.inl 4, [.int 0, .int 0, .null, .null])]) = some (none, h') ∧ BT h' x cp ts (c + 1) ∧ VP (x :: R) h' v (pk ts c) ∧ h.length ≤ v ∧ PX ts h x cp c h' x cp (c + 1) 50 := by
    intro h1 b T1 F1 W1 hsc hb hlt
    generalize hh : h1 ++ [((.inl 4 : Nat ⊕ FieldType), [Value.int 0, .int 0, .null, .null])] = g
    have lh := F1.1
    have e : g[h1.length]? = some (.inl 4, [.int 0, .int 0, .null, .null]) := by rw [← hh, c_app]
    have Fg : Fr [] h1 g := by rw [← hh]; exact Fr.app _ _ _
    obtain ⟨n1, n2, n3⟩ := jv_new h1.length (by omega) e (.int 0) (.int (if b = true then 1 else 0)) (.ref 11) .null
    have Fa := Fg.trans n2 (fun a ha => by rw [List.mem_singleton] at ha; exact Or.inr (by omega))
    have T3 := T1.fr Fa (by simp)
    have gl : g.length = h1.length + 1 := by rw [← hh]; simp
    refine ⟨_, h1.length, rfl, jv_114 (by omega) (ce_t e) b, T3, ⟨11, ?_, ?_, ?_⟩, lh, ?_⟩
    · rw [n1]
      unfold pk
      rw [hsc, hb]
      cases b <;> rfl
    · refine ⟨by omega, fun z => ?_⟩
      rcases List.mem_cons.mp z with z | z
      · omega
      · have := r _ z; omega
    · have hp : (pk ts c).2.2 = [] := by unfold pk; rw [hsc]; rfl
      rw [hp]
      refine KS.str (T3.xlt.2.2.2.2.1) (fun a ha => ?_) 2 (by decide)
      rcases List.mem_cons.mp ha with rfl | z
      · exact xl2
      · exact (r _ z).1
    · refine ((px_of64 T F1 W1 (Nat.le_succ c)).al (n := 16) Fa (by simp) ?_ ?_).mono ?_
      · rw [n3, ← hh, mw_app]
        exact Nat.le_refl _
      · rw [Wt_succ hlt]; omega
      · rw [Wt_succ hlt]; omega
  by_cases c1 : tW ts c w_true = true
  · rw [if_pos c1] at w1 T1
    have hsc := sc_word (Or.inl c1)
    have hlt : c < ts.length := by have := T1.kind.2.2.2.2.2.2.2.2.2.2; omega
    refine ⟨fun _ => ?_, fun z => by omega⟩
    obtain ⟨h', v, hv, m1, m2, m3, m4, m5⟩ := mk h1 true T1 F1 W1 hsc c1 hlt
    refine ⟨h', x, cp, v, ?_, m2, m3, m4, hlt, m5⟩
    rw [hv]
    simp only [if_true] at m1
    have tt : mx_tag (h1 ++ [((.inl 4 : Nat ⊕ FieldType), [Value.int 0, .int 0, .null, .null])]) h1.length = some (.inl 4) := by rw [mx_tag_app, if_pos rfl]
    simp only [g109_0, g109_1, g109_3, g109_6, g109_9, g109_12, g109_13, g109_14, g109_17, g109_18, g109_19, g109_21, g109_24, g109_27, g109_30, g109_31, g109_32, g109_35, g109_36, g109_37, g109_38, g109_39, g109_40, g109_43, g109_46, g109_49, g109_50, g109_51, g109_54, g109_57, g109_58, g109_61, g109_62, g109_63, g109_66, g109_69, g109_72, g109_73, g109_74, g109_77, g109_80, g109_81, g109_82, g109_85, g109_86, mx_isr_ref, mx_isr_null, mx_wt_nil, mx_wt_1, mx_wt_2, mx_wt_3, Option.bind_some, Option.toList_some, Option.toList_none, List.cons_append, List.nil_append, mx_nl_int, mx_nl_ref, mx_nl_null, mx_nl_none, mx_nb0, mx_nb1, mx_fb0, mx_fb1, mx_cat_int, mx_cat_ref, if_true, if_false, not_true_eq_false, not_false_eq_true, mx_wt_4, mx_w4_0, mx_w9_0, mx_w9_1, mx_kn_int, mx_kn_ref, mx_kn_null, Nat.reduceLT, ofn, n10, f1, w1, tt, m1]
  · rw [if_neg c1] at w1 T1 w2 T2
    by_cases c2 : tW ts c w_false = true
    · rw [if_pos c2] at w2 T2
      have hsc := sc_word (Or.inr c2)
      have hlt : c < ts.length := by have := T2.kind.2.2.2.2.2.2.2.2.2.2; omega
      refine ⟨fun _ => ?_, fun z => by omega⟩
      obtain ⟨h', v, hv, m1, m2, m3, m4, m5⟩ := mk h2 false T2 (F1.trans F2 (fun a ha => Or.inl ha)) (by omega) hsc (by simpa [tb] using c1) hlt
      refine ⟨h', x, cp, v, ?_, m2, m3, m4, hlt, m5⟩
      rw [hv]
      simp only [Bool.false_eq_true, if_false] at m1
      have tt : mx_tag (h2 ++ [((.inl 4 : Nat ⊕ FieldType), [Value.int 0, .int 0, .null, .null])]) h2.length = some (.inl 4) := by rw [mx_tag_app, if_pos rfl]
      obtain ⟨g1, -⟩ := T1.kind
      simp only [g109_0, g109_1, g109_3, g109_6, g109_9, g109_12, g109_13, g109_14, g109_17, g109_18, g109_19, g109_21, g109_24, g109_27, g109_30, g109_31, g109_32, g109_35, g109_36, g109_37, g109_38, g109_39, g109_40, g109_43, g109_46, g109_49, g109_50, g109_51, g109_54, g109_57, g109_58, g109_61, g109_62, g109_63, g109_66, g109_69, g109_72, g109_73, g109_74, g109_77, g109_80, g109_81, g109_82, g109_85, g109_86, mx_isr_ref, mx_isr_null, mx_wt_nil, mx_wt_1, mx_wt_2, mx_wt_3, Option.bind_some, Option.toList_some, Option.toList_none, List.cons_append, List.nil_append, mx_nl_int, mx_nl_ref, mx_nl_null, mx_nl_none, mx_nb0, mx_nb1, mx_fb0, mx_fb1, mx_cat_int, mx_cat_ref, if_true, if_false, not_true_eq_false, not_false_eq_true, mx_wt_4, mx_w4_0, mx_w9_0, mx_w9_1, mx_kn_int, mx_kn_ref, mx_kn_null, Nat.reduceLT, ofn, n10, f1, w1, g1, w2, tt, m1]
    · rw [if_neg c2] at w2 T2
      have F12 : Fr [64] h h2 := F1.trans F2 (fun a ha => Or.inl ha)
      have W12 : mw h2 = mw h := by omega
      obtain ⟨g1, -⟩ := T1.kind
      obtain ⟨k1, -⟩ := T2.kind
      have A2 := jt_isAt (d := d + 8) T2 (k := 2) (by decide)
      have A3 := jt_isAt (d := d + 8) T2 (k := 3) (by decide)
      rw [show nI 2 = 2 from rfl] at A2
      rw [show nI 3 = 3 from rfl] at A3
      have lh := F12.1
      generalize hh : h2 ++ [((.inl 4 : Nat ⊕ FieldType), [Value.int 0, .int 0, .null, .null])] = g
      have e : g[h2.length]? = some (.inl 4, [.int 0, .int 0, .null, .null]) := by rw [← hh, c_app]
      have Fg : Fr [] h2 g := by rw [← hh]; exact Fr.app _ _ _
      have gl : g.length = h2.length + 1 := by rw [← hh]; simp
      have gw : mw g = mw h2 + 16 := by rw [← hh, mw_app]; rfl
      have Tg := T2.fr Fg (by simp)
      by_cases c3 : (tA ts c).1 = 2
      · -- a number
        have i2 : tI ts c 2 = true := by simp [tI, c3]
        have hlt : c < ts.length := tI_ltN (by decide) i2
        have hsc : sc ts c = 1 := by unfold sc; rw [if_pos c3]
        refine ⟨fun _ => ?_, fun z => by omega⟩
        rw [if_pos i2] at A2
        have N := jt_number (d := d + 8) Tg c3
        obtain ⟨n1, n2, n3⟩ := jv_new h2.length (by omega) e (.int 1) (.int (Int32.ofInt (tv ts c))) (.ref 11) .null
        have J := jv_116 (d := d + 7) (h := g) (v := h2.length) (by omega) (ce_t e) (Int32.ofInt (tv ts c))
        have Fa := Fg.trans n2 (fun a ha => by rw [List.mem_singleton] at ha; exact Or.inr (by omega))
        have T3 := T2.fr Fa (by simp)
        obtain ⟨h5, x1, x2, x3, x4⟩ := jt_next (d := d + 8) T3
        rw [show min (c + 1) ts.length = c + 1 by omega] at x2
        have n5 := x3.at n1 (by simp; omega)
        refine ⟨h5, x, cp, h2.length, ?_, x2, ⟨11, ?_, ?_, ?_⟩, lh, hlt, ?_⟩
        · simp only [g109_0, g109_1, g109_3, g109_6, g109_9, g109_12, g109_13, g109_14, g109_17, g109_18, g109_19, g109_21, g109_24, g109_27, g109_30, g109_31, g109_32, g109_35, g109_36, g109_37, g109_38, g109_39, g109_40, g109_43, g109_46, g109_49, g109_50, g109_51, g109_54, g109_57, g109_58, g109_61, g109_62, g109_63, g109_66, g109_69, g109_72, g109_73, g109_74, g109_77, g109_80, g109_81, g109_82, g109_85, g109_86, mx_isr_ref, mx_isr_null, mx_wt_nil, mx_wt_1, mx_wt_2, mx_wt_3, Option.bind_some, Option.toList_some, Option.toList_none, List.cons_append, List.nil_append, mx_nl_int, mx_nl_ref, mx_nl_null, mx_nl_none, mx_nb0, mx_nb1, mx_fb0, mx_fb1, mx_cat_int, mx_cat_ref, if_true, if_false, not_true_eq_false, not_false_eq_true, mx_wt_4, mx_w4_0, mx_w9_0, mx_w9_1, mx_kn_int, mx_kn_ref, mx_kn_null, Nat.reduceLT, ofn, n10, f1, w1, g1, w2, k1, A2, hh, (Tg.kind).1, N, ce_t e, J, (T3.kind).1, x1]
        · rw [n5]
          unfold pk
          rw [hsc]
          rfl
        · refine ⟨by omega, fun z => ?_⟩
          rcases List.mem_cons.mp z with z | z
          · omega
          · have := r _ z; omega
        · have hp : (pk ts c).2.2 = [] := by unfold pk; rw [hsc]; rfl
          rw [hp]
          refine KS.str (x2.xlt.2.2.2.2.1) (fun a ha => ?_) 2 (by decide)
          rcases List.mem_cons.mp ha with rfl | z
          · exact xl2
          · exact (r _ z).1
        · have FF : Fr [64] h h5 := (F12.trans (Fa.mono (F' := [64]) (by simp)) (fun a ha => Or.inl ha)).trans x3 (fun a ha => Or.inl ha)
          have := Wt_succ hlt
          exact ⟨FF.mono (by simp), Or.inl rfl, Nat.le_succ c, by rw [x4, n3, gw]; omega⟩
      · have i2 : ¬ tI ts c 2 = true := by simpa [tI] using c3
        rw [if_neg i2] at A2
        by_cases c4 : (tA ts c).1 = 3
        · -- a string
          have i3 : tI ts c 3 = true := by simp [tI, c4]
          have hlt : c < ts.length := tI_ltN (by decide) i3
          have hsc : sc ts c = 2 := by unfold sc; rw [if_neg c3, if_pos c4]
          refine ⟨fun _ => ?_, fun z => by omega⟩
          rw [if_pos i3] at A3
          obtain ⟨h3, x', cp', s, b, t1, t2, t3, t4, t5, t6, t7, t8⟩ := jt_text (d := d) Tg (Or.inr c4)
          have e3 : h3[h2.length]? = some (.inl 4, [.int 0, .int 0, .null, .null]) := t8.1.at e (by simp; omega)
          obtain ⟨n1, n2, n3⟩ := jv_new h2.length (by omega) e3 (.int 2) (.int 0) (.ref s) .null
          have J := jv_117 (d := d + 7) (h := h3) (v := h2.length) (by omega) (ce_t e3) s
          have T3 := t2.fr n2 (fun a ha => by rw [List.mem_singleton] at ha; rw [ha]; exact ⟨by omega, t2.ne e3 (by simp)⟩)
          obtain ⟨h5, x1, x2, x3, x4⟩ := jt_next (d := d + 8) T3
          rw [show min (c + 1) ts.length = c + 1 by omega] at x2
          have n5 := x3.at n1 (by simp; omega)
          have hx'M : ∀ a, h.length ≤ a → a ≠ x' → fz (x' :: R) a := by
            intro a ha hx
            refine ⟨by omega, fun z => ?_⟩
            rcases List.mem_cons.mp z with z | z
            · exact hx z
            · have := r _ z; omega
          refine ⟨h5, x', cp', h2.length, ?_, x2, ⟨s, ?_, hx'M _ lh (t2.ne e3 (by simp)), b, hx'M _ (by omega) (by omega), hx'M _ (by omega) (by omega), ?_⟩, lh, hlt, ?_⟩
          · simp only [g109_0, g109_1, g109_3, g109_6, g109_9, g109_12, g109_13, g109_14, g109_17, g109_18, g109_19, g109_21, g109_24, g109_27, g109_30, g109_31, g109_32, g109_35, g109_36, g109_37, g109_38, g109_39, g109_40, g109_43, g109_46, g109_49, g109_50, g109_51, g109_54, g109_57, g109_58, g109_61, g109_62, g109_63, g109_66, g109_69, g109_72, g109_73, g109_74, g109_77, g109_80, g109_81, g109_82, g109_85, g109_86, mx_isr_ref, mx_isr_null, mx_wt_nil, mx_wt_1, mx_wt_2, mx_wt_3, Option.bind_some, Option.toList_some, Option.toList_none, List.cons_append, List.nil_append, mx_nl_int, mx_nl_ref, mx_nl_null, mx_nl_none, mx_nb0, mx_nb1, mx_fb0, mx_fb1, mx_cat_int, mx_cat_ref, if_true, if_false, not_true_eq_false, not_false_eq_true, mx_wt_4, mx_w4_0, mx_w9_0, mx_w9_1, mx_kn_int, mx_kn_ref, mx_kn_null, Nat.reduceLT, ofn, n10, f1, w1, g1, w2, k1, A2, A3, hh, (Tg.kind).1, t1, ce_t e3, J, (T3.kind).1, x1]
          · rw [n5]
            unfold pk
            rw [hsc]
            rfl
          · have hp : (pk ts c).2.2 = (tA ts c).2 := by unfold pk; rw [hsc]; rfl
            rw [hp]
            obtain ⟨⟨v2, v3, q1⟩, q2, q3⟩ := t3
            have FF : Fr [64, h2.length] h3 h5 := (n2.mono (by simp)).trans x3 (fun a ha => Or.inl (by simp at ha; simp [ha]))
            exact ⟨⟨v2, v3, FF.at q1 (by simp; omega)⟩, FF.at q2 (by simp; omega), q3⟩
          · have TT := (TX.of64 T F12 W12).trans (k' := 16) (show TX h2 x cp g x cp 16 from ⟨Fg.mono (by simp), Or.inl rfl, by omega, by omega⟩)
            have T4 := TT.trans t8
            have := T4.2.2.2
            refine ⟨(T4.1.trans n2 (fun a ha => by rw [List.mem_singleton] at ha; exact Or.inr (by omega))).trans x3 (fun a ha => Or.inl (by simp at ha; simp [ha])), T4.2.1, Nat.le_succ c, ?_⟩
            rw [Wt_succ hlt, x4, n3]
            omega
        · -- none
          have i3 : ¬ tI ts c 3 = true := by simpa [tI] using c4
          rw [if_neg i3] at A3
          have hsc : sc ts c = 0 := by
            unfold sc
            rw [if_neg c3, if_neg c4, if_neg (fun z => z.elim c1 c2)]
          refine ⟨fun z => by omega, fun _ => ?_⟩
          obtain ⟨h5, x1, x2, x3, x4⟩ := jt_next (d := d + 8) T2
          refine ⟨h5, ?_, x2, ?_⟩
          · simp only [g109_0, g109_1, g109_3, g109_6, g109_9, g109_12, g109_13, g109_14, g109_17, g109_18, g109_19, g109_21, g109_24, g109_27, g109_30, g109_31, g109_32, g109_35, g109_36, g109_37, g109_38, g109_39, g109_40, g109_43, g109_46, g109_49, g109_50, g109_51, g109_54, g109_57, g109_58, g109_61, g109_62, g109_63, g109_66, g109_69, g109_72, g109_73, g109_74, g109_77, g109_80, g109_81, g109_82, g109_85, g109_86, mx_isr_ref, mx_isr_null, mx_wt_nil, mx_wt_1, mx_wt_2, mx_wt_3, Option.bind_some, Option.toList_some, Option.toList_none, List.cons_append, List.nil_append, mx_nl_int, mx_nl_ref, mx_nl_null, mx_nl_none, mx_nb0, mx_nb1, mx_fb0, mx_fb1, mx_cat_int, mx_cat_ref, if_true, if_false, not_true_eq_false, not_false_eq_true, mx_wt_4, mx_w4_0, mx_w9_0, mx_w9_1, mx_kn_int, mx_kn_ref, mx_kn_null, Nat.reduceLT, ofn, n10, f1, w1, g1, w2, k1, A2, A3, x1]
          · exact (px_of64 T (F12.trans x3 (fun a ha => Or.inl ha)) (by omega) (by omega)).mono (Nat.zero_le _)
end
