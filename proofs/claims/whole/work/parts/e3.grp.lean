/-! Filter.readGroup, readTerm. -/
def PXd (ts : List tk) (h : mx_H) (x cp c : Nat) (h' : mx_H) (x' cp' c' s : Nat) : Prop := Fr [64, 69, x] h h' ∧ (x' = x ∨ h.length ≤ x') ∧ c ≤ c' ∧ mw h' + 3 * cp + Wt ts c ≤ mw h + 3 * cp' + Wt ts c' + s
/-- what reading a filter gives: the filter, or null -/
def Rs (K k s : Nat) (w : Bool) (ts : List tk) (R : List Nat) (h : mx_H) (x cp c : Nat) (G : Option (Option Value × mx_H)) : Option (cdP × Nat) → Prop
  | some q => ∃ (h' : mx_H) (x' cp' f : Nat), G = some (some (.ref f), h') ∧ BT h' x' cp' ts q.2 ∧ Pn K w (x' :: R) h' f q.1.2 ∧ h.length ≤ f ∧ PX ts h x cp c h' x' cp' q.2 k
  | none => ∃ (h' : mx_H) (x' cp' c' : Nat), G = some (some .null, h') ∧ BT h' x' cp' ts c' ∧ PXd ts h x cp c h' x' cp' c' s
theorem PX.d {ts : List tk} {h h' : mx_H} {x x' cp cp' c c' k : Nat} (a : PX ts h x cp c h' x' cp' c' k) (s : Nat) : PXd ts h x cp c h' x' cp' c' s := ⟨a.1, a.2.1, a.2.2.1, by have := a.2.2.2; omega⟩
theorem PXd.px {ts : List tk} {h h' : mx_H} {x x' cp cp' c c' : Nat} (a : PXd ts h x cp c h' x' cp' c' 0) : PX ts h x cp c h' x' cp' c' 0 := ⟨a.1, a.2.1, a.2.2.1, by have := a.2.2.2; omega⟩
theorem PXd.trans {ts : List tk} {h h' h'' : mx_H} {x x' x'' cp cp' cp'' c c' c'' s s' : Nat} (a : PXd ts h x cp c h' x' cp' c' s) (b : PXd ts h' x' cp' c' h'' x'' cp'' c'' s') : PXd ts h x cp c h'' x'' cp'' c'' (s + s') := by
  obtain ⟨a1, a2, a3, a4⟩ := a
  obtain ⟨b1, b2, b3, b4⟩ := b
  have := a1.1
  refine ⟨a1.trans b1 (fun q hq => ?_), ?_, by omega, by omega⟩
  · simp only [List.mem_cons, List.not_mem_nil, or_false] at hq ⊢
    rcases hq with z | z | z
    · exact Or.inl (Or.inl z)
    · exact Or.inl (Or.inr (Or.inl z))
    · rcases a2 with y | y
      · exact Or.inl (Or.inr (Or.inr (z.trans y)))
      · exact Or.inr (by omega)
  · rcases b2 with z | z
    · rcases a2 with y | y
      · exact Or.inl (z.trans y)
      · exact Or.inr (by omega)
    · exact Or.inr (by omega)
theorem PXd.of {ts : List tk} {h h' h'' : mx_H} {x x' x'' cp cp' cp'' c c' c'' s k : Nat} (a : PXd ts h x cp c h' x' cp' c' s) (b : PX ts h' x' cp' c' h'' x'' cp'' c'' k) (hs : s ≤ k) : PX ts h x cp c h'' x'' cp'' c'' (k - s) := by
  have t := a.trans (b.d 0)
  have b4 := b.2.2.2
  have a4 := a.2.2.2
  exact ⟨t.1, t.2.1, t.2.2.1, by omega⟩
theorem Rs.pre {K k s k1 : Nat} {w : Bool} {ts : List tk} {R : List Nat} {h h1 : mx_H} {x x1 cp cp1 c c1 : Nat} {G : Option (Option Value × mx_H)} {o : Option (cdP × Nat)} (a : PX ts h x cp c h1 x1 cp1 c1 k1) (b : Rs K k s w ts R h1 x1 cp1 c1 G o) : Rs K (k1 + k) (s - k1) w ts R h x cp c G o := by
  cases o with
  | none =>
    obtain ⟨h', x', cp', c', b1, b2, b3⟩ := b
    refine ⟨h', x', cp', c', b1, b2, ?_⟩
    have t := (a.d 0).trans b3
    have a4 := a.2.2.2
    have b4 := b3.2.2.2
    exact ⟨t.1, t.2.1, t.2.2.1, by omega⟩
  | some q =>
    obtain ⟨h', x', cp', f, b1, b2, b3, b4, b5⟩ := b
    have := a.1.1
    exact ⟨h', x', cp', f, b1, b2, b3, by omega, a.trans b5⟩
theorem Rs.mono {K K' k k' s s' : Nat} {w : Bool} {ts : List tk} {R : List Nat} {h : mx_H} {x cp c : Nat} {G : Option (Option Value × mx_H)} {o : Option (cdP × Nat)} (b : Rs K k s w ts R h x cp c G o) (hK : K ≤ K') (hk : k' ≤ k) (hs : s ≤ s') : Rs K' k' s' w ts R h x cp c G o := by
  cases o with
  | none =>
    obtain ⟨h', x', cp', c', b1, b2, b3⟩ := b
    exact ⟨h', x', cp', c', b1, b2, b3.1, b3.2.1, b3.2.2.1, by have := b3.2.2.2; omega⟩
  | some q =>
    obtain ⟨h', x', cp', f, b1, b2, ⟨cs, c1, c2, c3⟩, b4, b5⟩ := b
    exact ⟨h', x', cp', f, b1, b2, ⟨cs, c1, c2, c3.le hK⟩, b4, b5.mono hk⟩
theorem Mt.sub {K : Nat} {w : Bool} {M M1 : List Nat} {h : mx_H} {f : Nat} {cs : List Value} {g : prs → Option Nat → Bool} (m : Mt K w M h f cs g) (e : ∀ a ∈ M1, a ∈ M) : Mt K w M1 h f cs g :=
  m.ex ⟨Nat.le_refl _, fun a _ hz => ⟨rfl, fz_sub hz e⟩⟩
theorem Pn.lt {K : Nat} {w : Bool} {M : List Nat} {h : mx_H} {f : Nat} {g : prs → Option Nat → Bool} (P : Pn K w M h f g) : f < h.length := by
  obtain ⟨cs, c1, -⟩ := P
  rcases Nat.lt_or_ge f h.length with z | z
  · exact z
  · rw [List.getElem?_eq_none z] at c1; cases c1
theorem Pn.px {K k : Nat} {w : Bool} {ts : List tk} {R : List Nat} {h h' : mx_H} {x x' cp cp' c c' f : Nat} {g : prs → Option Nat → Bool} (P : Pn K w (x :: R) h f g) (a : PX ts h x cp c h' x' cp' c' k) (r : RB R h) (hf : 102 ≤ f) (hx : f ≠ x) : Pn K w (x' :: R) h' f g := by
  have hlt := P.lt
  obtain ⟨cs, c1, c2, c3⟩ := P
  refine ⟨cs, a.1.at c1 (by simp; omega), c2, ?_⟩
  have r' : RB (f :: R) h := by
    intro q hq
    rcases List.mem_cons.mp hq with rfl | z
    · exact ⟨by omega, hlt⟩
    · exact r _ z
  exact ((c3.sub (M1 := x :: f :: R) (fun q hq => by simp only [List.mem_cons] at hq ⊢; rcases hq with z | z | z <;> simp [z])).ex (a.ex r')).sub (fun q hq => by simp only [List.mem_cons] at hq ⊢; rcases hq with z | z | z <;> simp [z])
/-- what is read within the pair -/
def rOf (ts : List tk) : Nat → Bool → Nat → Option (cdP × Nat)
  | 0, _, _ => none
  | n + 1, w, k => cF ts n w k
theorem cF_rOf (ts : List tk) (n : Nat) (w : Bool) (k : Nat) : cF ts n w k = cL ts (cT (hd ts) itn ts (rOf ts n) w) 120 none none k := by
  cases n with
  | zero => rfl
  | succ n => rfl
def RO (d n : Nat) (w : Bool) (ts : List tk) : Prop := ∀ (h : mx_H) (x cp c : Nat) (R : List Nat), BT h x cp ts c → RB R h → KK h → Rs (9 + 3 * n) 0 36 w ts R h x cp c (mx_G d 163 0 [some (.ref 64), some (.int (nI (6 - n))), some (.int (if w = true then 1 else 0)), none, none, none, none] [] h) (cF ts n w c)
def cls (ts : List tk) (cl : Nat) (o : Option (cdP × Nat)) : Option (cdP × Nat) := o.bind fun q => if tI ts q.2 cl = true then some (q.1, q.2 + 1) else none
section
variable {d : Nat} {h : mx_H} {x cp c : Nat} {ts : List tk} {R : List Nat}
theorem jg_group {n : Nat} (hn : n ≤ 6) (w : Bool) (rd : ∀ m, n = m + 1 → RO (d + 1) m w ts) (T : BT h x cp ts c) (r : RB R h) (K : KK h) (hlt : c < ts.length) {cl : Nat} (hc1 : cl < 2 ^ 31) (hc0 : cl ≠ 0) :
    Rs (6 + 3 * n) 150 0 w ts R h x cp c (mx_G (d + 2) 167 0 [some (.ref 64), some (.int (nI cl)), some (.int (nI (6 - n))), some (.int (if w = true then 1 else 0)), none] [] h) (cls ts cl (rOf ts n w (c + 1))) := by
  have f1 := T.kind.1
  obtain ⟨h1, n1, T1, F1, W1⟩ := jt_next (d := d + 1) T
  rw [show min (c + 1) ts.length = c + 1 by omega] at T1
  have P1 := px_of64 T F1 W1 (show c ≤ c + 1 by omega)
  rw [Wt_succ hlt] at P1
  have P1 := P1.mono (k' := 100) (by omega)
  have K1 : KK h1 := K.fr F1 (by simp)
  have g1 := T1.kind.1
  cases n with
  | zero =>
    refine ⟨h1, x, cp, c + 1, ?_, T1, (P1.d 0)⟩
    rw [show nI (6 - 0) = 6 from rfl]
    simp only [g167_0, g167_1, g167_4, g167_5, g167_7, g167_21, g167_22, g167_24, g167_26, g167_26n, g167_26n, g167_42, g167_43, mx_isr_ref, mx_isr_null, mx_wt_nil, mx_wt_1, mx_wt_2, mx_wt_3, Option.bind_some, Option.toList_some, Option.toList_none, List.cons_append, List.nil_append, mx_nl_int, mx_nl_ref, mx_nl_null, mx_nl_none, mx_nb0, mx_nb1, mx_fb0, mx_fb1, mx_cat_int, mx_cat_ref, if_true, if_false, not_true_eq_false, not_false_eq_true, mx_wt_4, mx_w4_0, mx_w9_0, mx_w9_1, mx_kn_int, mx_kn_ref, mx_kn_null, Nat.reduceLT, ofn, n10, f1, n1, show (6 : Int32) ≤ 6 by decide]
  | succ m =>
    have q1 : ¬ (6 : Int32) ≤ nI (6 - (m + 1)) := nI_ge (a := 6 - (m + 1)) (b := 6) (by omega) (by decide)
    have q2 : nI (6 - (m + 1)) + 1 = nI (6 - m) := by rw [nI_1, show 6 - (m + 1) + 1 = 6 - m by omega]
    have A := rd m rfl h1 x cp (c + 1) R T1 (r.le F1.1) K1
    show Rs _ _ _ _ _ _ _ _ _ _ _ (cls ts cl (cF ts m w (c + 1)))
    cases e : cF ts m w (c + 1) with
    | none =>
      rw [e] at A
      obtain ⟨h2, x2, cp2, c2, a1, a2, a3⟩ := A
      refine ⟨h2, x2, cp2, c2, ?_, a2, ?_⟩
      · simp only [g167_0, g167_1, g167_4, g167_5, g167_7, g167_10, g167_11, g167_12, g167_13, g167_14, g167_15, g167_18, g167_22, g167_24, g167_26, g167_26n, g167_26n, g167_42, g167_43, mx_isr_ref, mx_isr_null, mx_wt_nil, mx_wt_1, mx_wt_2, mx_wt_3, Option.bind_some, Option.toList_some, Option.toList_none, List.cons_append, List.nil_append, mx_nl_int, mx_nl_ref, mx_nl_null, mx_nl_none, mx_nb0, mx_nb1, mx_fb0, mx_fb1, mx_cat_int, mx_cat_ref, if_true, if_false, not_true_eq_false, not_false_eq_true, mx_wt_4, mx_w4_0, mx_w9_0, mx_w9_1, mx_kn_int, mx_kn_ref, mx_kn_null, Nat.reduceLT, ofn, n10, f1, n1, q1, q2, a1]
      · have t := (P1.d 0).trans a3
        have := P1.2.2.2
        have := a3.2.2.2
        exact ⟨t.1, t.2.1, t.2.2.1, by omega⟩
    | some q =>
      rw [e] at A
      obtain ⟨h2, x2, cp2, f, a1, a2, a3, a4, a5⟩ := A
      obtain ⟨h3, b1, b2, b3, b4⟩ := jt_take (d := d) a2 hc1 hc0
      have k1 := a2.kind.1
      have pre := P1.trans a5
      have P3 := px_of64 a2 b3 b4 (show q.2 ≤ (if tI ts q.2 cl = true then q.2 + 1 else q.2) by split <;> omega)
      show Rs _ _ _ _ _ _ _ _ _ _ _ (if tI ts q.2 cl = true then some (q.1, q.2 + 1) else none)
      by_cases z : tI ts q.2 cl = true
      · rw [if_pos z] at b1 b2 P3
        rw [if_pos z]
        have hq : q.2 < ts.length := tI_ltN hc0 z
        rw [Wt_succ hq] at P3
        have l1 := F1.1
        have hf : 102 ≤ f := by have := T.xlt.2.2.2.1; omega
        have hx : f ≠ x2 := by
          obtain ⟨cs, y, -⟩ := a3
          exact a2.ne y (by simp)
        refine ⟨h3, x2, cp2, f, ?_, b2, ?_, by omega, (pre.trans P3).mono (by omega)⟩
        · simp only [g167_0, g167_1, g167_4, g167_5, g167_7, g167_10, g167_11, g167_12, g167_13, g167_14, g167_15, g167_18, g167_22, g167_24, g167_26, g167_26n, g167_29, g167_30, g167_31, g167_34, g167_37, g167_39, g167_42, g167_43, mx_isr_ref, mx_isr_null, mx_wt_nil, mx_wt_1, mx_wt_2, mx_wt_3, Option.bind_some, Option.toList_some, Option.toList_none, List.cons_append, List.nil_append, mx_nl_int, mx_nl_ref, mx_nl_null, mx_nl_none, mx_nb0, mx_nb1, mx_fb0, mx_fb1, mx_cat_int, mx_cat_ref, if_true, if_false, not_true_eq_false, not_false_eq_true, mx_wt_4, mx_w4_0, mx_w9_0, mx_w9_1, mx_kn_int, mx_kn_ref, mx_kn_null, Nat.reduceLT, ofn, n10, f1, n1, q1, q2, a1, k1, b1]
        · obtain ⟨cs, y1, y2, y3⟩ := a3.px P3 (r.le (by have := a5.1.1; omega)) hf hx
          exact ⟨cs, y1, y2, y3.le (by omega)⟩
      · rw [if_neg z] at b1 b2 P3
        rw [if_neg z]
        refine ⟨h3, x2, cp2, q.2, ?_, b2, (pre.trans P3).d 0⟩
        simp only [g167_0, g167_1, g167_4, g167_5, g167_7, g167_10, g167_11, g167_12, g167_13, g167_14, g167_15, g167_18, g167_22, g167_24, g167_26, g167_26n, g167_29, g167_30, g167_31, g167_34, g167_37, g167_39, g167_42, g167_43, mx_isr_ref, mx_isr_null, mx_wt_nil, mx_wt_1, mx_wt_2, mx_wt_3, Option.bind_some, Option.toList_some, Option.toList_none, List.cons_append, List.nil_append, mx_nl_int, mx_nl_ref, mx_nl_null, mx_nl_none, mx_nb0, mx_nb1, mx_fb0, mx_fb1, mx_cat_int, mx_cat_ref, if_true, if_false, not_true_eq_false, not_false_eq_true, mx_wt_4, mx_w4_0, mx_w9_0, mx_w9_1, mx_kn_int, mx_kn_ref, mx_kn_null, Nat.reduceLT, ofn, n10, f1, n1, q1, q2, a1, k1, b1]
/-- not, or an item's, around what is read -/
theorem Rs_around {K n : Nat} {w w' : Bool} {kk : Int32} {g : prs → Option Nat → Bool} {h1 : mx_H} {x1 cp1 f c1 : Nat} (T : BT h1 x1 cp1 ts c1) (P : Pn K w (x1 :: R) h1 f g) (hf : h.length ≤ f) (hl : 102 ≤ h.length) (r : RB R h) (hl1 : h.length ≤ h1.length) {g' : prs → Option Nat → Bool} (hM : ∀ (M : List Nat) (h' : mx_H) (f' : Nat) (cs : List Value), h'[f]? = some (.inl 10, cs ++ [.null]) → fz M f → Mt K w M h' f cs g → Mt n w' M h' f' [.int kk, .int (-1), .int (-1), .null, .ref f] g') :
    ∃ h2, mx_G (d + 2) 164 0 [some (.int kk), some (.ref f), none] [] h1 = some (some (.ref h1.length), h2) ∧ BT h2 x1 cp1 ts c1 ∧ Pn n w' (x1 :: R) h2 h1.length g' ∧ Fr [] h1 h2 ∧ mw h2 = mw h1 + 18 := by
  obtain ⟨h2, m1, m2, m3, m4, m5⟩ := jg_around (d := d) (h := h1) (by omega) kk (v := .ref f) rfl
  have hlt := P.lt
  obtain ⟨cs, c1', c2, c3⟩ := P
  have hx : f ≠ x1 := T.ne c1' (by simp)
  refine ⟨h2, m1, T.fr m3 (by simp), ⟨[.int kk, .int (-1), .int (-1), .null, .ref f], m2, rfl, ?_⟩, m3, m4⟩
  refine hM _ _ _ cs (m3.at c1' (by simp)) ⟨by omega, fun z => ?_⟩ ((c3.ex (ex_new m3 (Nat.le_refl _))).sub (fun a ha => by simp only [List.mem_cons] at ha ⊢; rcases ha with z | z | z <;> simp [z]))
  simp only [List.mem_cons] at z
  rcases z with z | z | z
  · omega
  · exact hx z
  · have := r _ z; omega
end
