/-! The draft of a patch: a person, its items with their marks; give, become, gain. -/
def bI (b : Bool) : Int32 := if b = true then 1 else 0
theorem bI_ok (b : Bool) : narrow .boolean (.int (bI b)) = .int (bI b) ∧ fits .boolean (.int (bI b)) = true := by cases b <;> decide
theorem bI_0 (b : Bool) : bI b = 0 ↔ b = false := by cases b <;> decide
def FrN (N : Nat) (h h' : mx_H) : Prop := h.length ≤ h'.length ∧ ∀ a, a < N → h'[a]? = h[a]?
theorem FrN.trans {N : Nat} {h h' h'' : mx_H} (x : FrN N h h') (y : FrN N h' h'') : FrN N h h'' := ⟨Nat.le_trans x.1 y.1, fun a ha => (y.2 a ha).trans (x.2 a ha)⟩
theorem FrN.rfl (N : Nat) (h : mx_H) : FrN N h h := ⟨Nat.le_refl _, fun _ _ => Eq.refl _⟩
/-- a step: what is older than N stays, what stands fast stays -/
def SX (N : Nat) (M : List Nat) (h : mx_H) (M' : List Nat) (h' : mx_H) : Prop := FrN N h h' ∧ Ex M h M' h'
theorem SX.rfl (N : Nat) (M : List Nat) (h : mx_H) : SX N M h M h := ⟨FrN.rfl _ _, Ex.rfl _ _⟩
theorem SX.trans {N : Nat} {M M' M'' : List Nat} {h h' h'' : mx_H} (x : SX N M h M' h') (y : SX N M' h' M'' h'') : SX N M h M'' h'' := ⟨x.1.trans y.1, x.2.trans y.2⟩
theorem SX.of {N : Nat} {F M M' : List Nat} {h h' : mx_H} (f : Fr F h h') (hN : N ≤ h.length) (hF : ∀ a ∈ F, (N ≤ a ∧ a ∈ M) ∨ h.length ≤ a) (hM : ∀ a ∈ M', a ∈ M ∨ h.length ≤ a) : SX N M h M' h' :=
  ⟨⟨f.1, fun a ha => f.2 a (by omega) (fun z => by rcases hF a z with y | y <;> omega)⟩, f.1, fun a ha hz => ⟨f.2 a ha (fun z => by
    rcases hF a z with y | y
    · exact hz.2 y.2
    · omega), hz.1, fun z => (hM a z).elim hz.2 (fun y => by omega)⟩⟩
theorem SX.sub {N : Nat} {M M' : List Nat} (h : mx_H) (hM : ∀ a ∈ M', a ∈ M) : SX N M h M' h := ⟨FrN.rfl _ _, Ex.sub h hM⟩
def DI (M : List Nat) (h : mx_H) (es : List Nat) (m : List itf) (b : List Bool) : Prop := es.length = m.length ∧ b.length = m.length ∧ ∀ k, k < m.length → IC M h (es.getD k 0) (some (xG m k).1.1) (xG m k).1.2 (bI (b.getD k false)) (bI (xG m k).2)
theorem IC.tag {M : List Nat} {h : mx_H} {e : Nat} {v : Option (List Nat)} {p : Option Bool} {c g : Int32} (I : IC M h e v p c g) : mx_tag h e = some (.inl 8) ∧ e < h.length := by
  obtain ⟨a1, a2, e1, -⟩ := I
  exact ⟨ce_t e1, ce_l e1⟩
theorem gd_mem' {es : List Nat} {k : Nat} (h : k < es.length) : es.getD k 0 ∈ es := by
  rw [List.getD_eq_getElem?_getD, List.getElem?_eq_getElem h]
  exact List.getElem_mem h
theorem gd_inj {es : List Nat} (nd : es.Nodup) {i k : Nat} (hi : i < es.length) (hk : k < es.length) (h : es.getD k 0 = es.getD i 0) : k = i := by
  rw [List.getD_eq_getElem?_getD, List.getD_eq_getElem?_getD, List.getElem?_eq_getElem hi, List.getElem?_eq_getElem hk] at h
  exact (List.getElem_inj nd).mp h
theorem DI.ex {M M' : List Nat} {h h' : mx_H} {es : List Nat} {m : List itf} {b : List Bool} (I : DI M h es m b) (E : Ex M h M' h') (he : ∀ e ∈ es, h'[e]? = h[e]?) : DI M' h' es m b :=
  ⟨I.1, I.2.1, fun k hk => (I.2.2 k hk).ex E (he _ (gd_mem' (by have := I.1; omega)))⟩
theorem DI.its {M : List Nat} {h : mx_H} {es : List Nat} {m : List itf} {b : List Bool} (I : DI M h es m b) : ITs M h es (m.map fun x => x.1) := by
  refine ⟨by rw [I.1, List.length_map], fun k hk => ?_⟩
  rw [List.length_map] at hk
  rw [xG_1]
  exact ⟨_, _, I.2.2 k hk⟩
theorem DI.set {M : List Nat} {h h' : mx_H} {es F : List Nat} {m : List itf} {b : List Bool} (I : DI M h es m b) (nd : es.Nodup) {i : Nat} (hi : i < m.length) (E : Ex M h M h') (f : Fr F h h') (hF : ∀ a ∈ F, a = es.getD i 0 ∨ h.length ≤ a) {y : itf} {c : Bool} (J : IC M h' (es.getD i 0) (some y.1.1) y.1.2 (bI c) (bI y.2)) : DI M h' es (m.set i y) (b.set i c) := by
  refine ⟨by rw [List.length_set]; exact I.1, by rw [List.length_set, List.length_set]; exact I.2.1, fun k hk => ?_⟩
  rw [List.length_set] at hk
  rw [xG_set hi]
  have hl := I.1
  have hb := I.2.1
  by_cases e : k = i
  · subst e
    rw [if_pos rfl, show (b.set k c).getD k false = c by simp [List.getD_eq_getElem?_getD, show k < b.length by omega]]
    exact J
  · rw [if_neg e, show (b.set i c).getD k false = b.getD k false by simp [List.getD_eq_getElem?_getD, List.getElem?_set_ne (Ne.symm e)]]
    have J := I.2.2 k hk
    refine J.ex E (f.2 _ J.tag.2 (fun z => ?_))
    rcases hF _ z with w | w
    · exact e (gd_inj nd (by omega) (by omega) w)
    · have := J.tag.2; omega
def dM (p l A : Nat) (es R : List Nat) : List Nat := p :: l :: (fA0 A ++ (es ++ R))
theorem dM_p {p l A : Nat} {es R : List Nat} : p ∈ dM p l A es R := by unfold dM; simp
theorem dM_l {p l A : Nat} {es R : List Nat} : l ∈ dM p l A es R := by unfold dM; simp
theorem dM_A {p l A : Nat} {es R : List Nat} (h : A ≠ 2) : A ∈ dM p l A es R := by unfold dM fA0; rw [if_neg h]; simp
theorem dM_e {p l A e : Nat} {es R : List Nat} (h : e ∈ es) : e ∈ dM p l A es R := by unfold dM; simp [h]
theorem dM_R {p l A a : Nat} {es R : List Nat} (h : a ∈ R) : a ∈ dM p l A es R := by unfold dM; simp [h]
theorem dM_mem {p l A a : Nat} {es R : List Nat} (h : a ∈ dM p l A es R) : a = p ∨ a = l ∨ (a = A ∧ A ≠ 2) ∨ a ∈ es ∨ a ∈ R := by
  unfold dM at h
  simp only [List.mem_cons, List.mem_append] at h
  rcases h with z | z | z | z | z
  · exact Or.inl z
  · exact Or.inr (Or.inl z)
  · exact Or.inr (Or.inr (Or.inl (fA0_mem z)))
  · exact Or.inr (Or.inr (Or.inr (Or.inl z)))
  · exact Or.inr (Or.inr (Or.inr (Or.inr z)))
/-- the draft -/
def DR (R : List Nat) (N : Nat) (h : mx_H) (p l A cp : Nat) (es : List Nat) (q : prs) (m : List itf) (b : List Bool) : Prop :=
  PC (dM p l A es R) h p l q ∧ AL h l A cp es ∧ DI (dM p l A es R) h es m b ∧ es.Nodup ∧ (102 ≤ N ∧ N ≤ p ∧ N ≤ l ∧ (A = 2 ∨ N ≤ A) ∧ (∀ e ∈ es, N ≤ e) ∧ N ≤ h.length) ∧ (∀ a ∈ R, 63 ≤ a ∧ a < N) ∧ KK h
section
variable {d : Nat} {h : mx_H} {R : List Nat} {N p l A cp : Nat} {es : List Nat} {q : prs} {m : List itf} {b : List Bool}
theorem DR.ne (D : DR R N h p l A cp es q m b) {e : Nat} (he : e ∈ es) : e ≠ p ∧ e ≠ l ∧ e ≠ A ∧ e < h.length ∧ mx_tag h e = some (.inl 8) ∧ N ≤ e := by
  obtain ⟨C, L, I, nd, ⟨n1, n2, n3, n4, n5, n6⟩, hR, K⟩ := D
  obtain ⟨k, hk, ek⟩ := gd_mem he
  have J := (I.2.2 k (by have := I.1; omega)).tag
  rw [ek] at J
  have tp := (PC_f C).1
  obtain ⟨f1, f2, f3, f4, f5, f6, f7, f8, f9, f10⟩ := AL_f L
  refine ⟨?_, ?_, ?_, J.2, J.1, n5 e he⟩
  · rintro rfl; rw [tp] at J; cases J.1
  · rintro rfl; rw [f1] at J; cases J.1
  · rintro rfl; rw [f6] at J; cases J.1
theorem DR.pl (D : DR R N h p l A cp es q m b) : p ≠ l ∧ p ≠ A ∧ A ≠ l ∧ p < h.length ∧ l < h.length ∧ A < h.length := by
  obtain ⟨C, L, I, nd, ⟨n1, n2, n3, n4, n5, n6⟩, hR, K⟩ := D
  have tp := (PC_f C).1
  obtain ⟨f1, f2, f3, f4, f5, f6, f7, f8, f9, f10⟩ := AL_f L
  refine ⟨?_, ?_, f10, mx_tag_lt tp, mx_tag_lt f1, mx_tag_lt f6⟩
  · rintro rfl; rw [f1] at tp; cases tp
  · rintro rfl; rw [f6] at tp; cases tp
theorem DR.rb (D : DR R N h p l A cp es q m b) : RB (dM p l A es R) h := by
  have hpl := D.pl
  intro a ha
  have hN := D.2.2.2.2.1
  rcases dM_mem ha with z | z | z | z | z
  · subst z; exact ⟨by omega, hpl.2.2.2.1⟩
  · subst z; exact ⟨by omega, hpl.2.2.2.2.1⟩
  · rw [z.1]; exact ⟨by omega, hpl.2.2.2.2.2⟩
  · have := D.ne z; exact ⟨by omega, this.2.2.2.1⟩
  · have := D.2.2.2.2.2.1 a z; exact ⟨this.1, by omega⟩
/-- something is added, nothing of the draft changes -/
theorem DR.new {h' : mx_H} (D : DR R N h p l A cp es q m b) (f : Fr [] h h') : DR R N h' p l A cp es q m b ∧ SX N (dM p l A es R) h (dM p l A es R) h' := by
  have S : SX N (dM p l A es R) h (dM p l A es R) h' := SX.of f D.2.2.2.2.1.2.2.2.2.2 (by simp) (fun a ha => Or.inl ha)
  have hpl := D.pl
  refine ⟨?_, S⟩
  have hne : ∀ e ∈ es, e < h.length := fun e he => (D.ne he).2.2.2.1
  obtain ⟨C, L, I, nd, ⟨n1, n2, n3, n4, n5, n6⟩, hR, K⟩ := D
  exact ⟨C.ex S.2 (f.2 p hpl.2.2.2.1 (by simp)), AL_fr L f (by simp) (by simp), I.ex S.2 (fun e he => f.2 e (hne e he) (by simp)), nd, ⟨n1, n2, n3, n4, n5, Nat.le_trans n6 f.1⟩, hR, K.fr f (by simp)⟩
/-- an item changes -/
theorem DR.item {h' : mx_H} {F : List Nat} (D : DR R N h p l A cp es q m b) {i : Nat} (hi : i < m.length) (f : Fr F h h') (hF : ∀ a ∈ F, a = es.getD i 0 ∨ h.length ≤ a) {y : itf} {c : Bool} (J : IC (dM p l A es R) h' (es.getD i 0) (some y.1.1) y.1.2 (bI c) (bI y.2)) : DR R N h' p l A cp es q (m.set i y) (b.set i c) ∧ SX N (dM p l A es R) h (dM p l A es R) h' := by
  have hm : es.getD i 0 ∈ es := gd_mem' (by have := D.2.2.1.1; omega)
  have hne := D.ne hm
  have hpl := D.pl
  obtain ⟨C, L, I, nd, ⟨n1, n2, n3, n4, n5, n6⟩, hR, K⟩ := D
  have S : SX N (dM p l A es R) h (dM p l A es R) h' := SX.of f n6 (fun a ha => by
    rcases hF a ha with z | z
    · rw [z]; exact Or.inl ⟨hne.2.2.2.2.2, dM_e hm⟩
    · exact Or.inr z) (fun a ha => Or.inl ha)
  have nF : ∀ a, a < h.length → a ≠ es.getD i 0 → a ∉ F := fun a ha hn z => by rcases hF a z with y | y <;> omega
  refine ⟨⟨C.ex S.2 (f.2 p hpl.2.2.2.1 (nF _ hpl.2.2.2.1 (Ne.symm hne.1))), AL_fr L f (nF _ hpl.2.2.2.2.1 (Ne.symm hne.2.1)) (nF _ hpl.2.2.2.2.2 (Ne.symm hne.2.2.1)), I.set nd hi S.2 f hF J, nd, ⟨n1, n2, n3, n4, n5, Nat.le_trans n6 f.1⟩, hR, K.fr f (fun a ha => ?_)⟩, S⟩
  rcases hF a ha with z | z <;> omega
variable {M : List Nat}
theorem jo_give {e : Nat} {v : Option (List Nat)} {w t : Option Bool} {c g : Int32} {a : Value} (I : IC M h e v w c g) (he : e ∈ M) (h63 : 63 ≤ e) (O : OV M h a (vB t)) : ∃ h', mx_G (d + 1) 187 0 [some (.ref e), some a] [] h = some (none, h') ∧ IC M h' e v t c (bI (tr1 t)) ∧ Fr [e] h h' ∧ mw h' = mw h := by
  obtain ⟨a1, a2, e1, o1, o2⟩ := I
  have te := ce_t e1
  have E1 := Ex.up1 (h := h) (k := 1) (v := a) he
  have I1 : IC M (mx_up h e 1 a) e v t c g := ⟨a1, a, by rw [c_up e1]; rfl, o1.ex E1, O.ex E1⟩
  have pr := ji_prim (d := d) I1
  have E2 := Ex.up1 (h := mx_up h e 1 a) (k := 3) (v := .int (bI (tr1 t))) he
  have hn : mt_nO ≤ e := by rw [show mt_nO = 63 by decide]; exact h63
  refine ⟨mx_up (mx_up h e 1 a) e 3 (.int (bI (tr1 t))), ?_, ⟨a1, a, by rw [c_up (c_up e1)]; rfl, (o1.ex E1).ex E2, (O.ex E1).ex E2⟩, (Fr.up (by simp)).trans (Fr.up (F := [e]) (by simp)) (fun a ha => Or.inl ha), by rw [mw_up, mw_up]⟩
  have hb := bI_ok (tr1 t)
  rw [show (if tr1 t = true then (1 : Int32) else 0) = bI (tr1 t) from rfl] at pr
  simp only [g187_0, g187_1, g187_2, g187_5, g187_6, g187_7, g187_10, g187_13, mx_isr_ref, mx_isr_null, mx_wt_nil, mx_wt_1, mx_wt_2, mx_wt_3, Option.bind_some, Option.toList_some, Option.toList_none, List.cons_append, List.nil_append, mx_nl_int, mx_nl_ref, mx_nl_null, mx_nl_none, mx_nb0, mx_nb1, mx_fb0, mx_fb1, mx_cat_int, mx_cat_ref, if_true, if_false, not_true_eq_false, not_false_eq_true, mx_wt_4, mx_w4_0, mx_w9_0, mx_w9_1, mx_kn_int, mx_kn_ref, mx_kn_null, Nat.reduceLT, ofn, n10, O.isr, te, hn, mx_tag_up, pr, hb.1, hb.2]
theorem jo_become {e o : Nat} {v v' : Option (List Nat)} {w w' : Option Bool} {c g c' g' : Int32} (I : IC M h e v w c g) (he : e ∈ M) (h63 : 63 ≤ e) (J : IC M h o v' w' c' g') (ne : o ≠ e) : ∃ h', mx_G (d + 2) 194 0 [some (.ref e), some (.ref o)] [] h = some (none, h') ∧ IC M h' e v' w' c (bI (tr1 w')) ∧ Fr [e] h h' ∧ mw h' = mw h := by
  obtain ⟨a1, a2, e1, o1, o2⟩ := I
  have te := ce_t e1
  obtain ⟨b1, b2, to, lo, x0, x1, -, -, p1, p2⟩ := IC_f J
  have E1 := Ex.up1 (h := h) (k := 0) (v := b1) he
  have I1 : IC M (mx_up h e 0 b1) e v' w c g := ⟨b1, a2, by rw [c_up e1]; rfl, p1.ex E1, o2.ex E1⟩
  have hn : mt_nO ≤ e := by rw [show mt_nO = 63 by decide]; exact h63
  obtain ⟨h', k1, k2, k3, k4⟩ := jo_give (d := d) I1 he h63 (p2.ex E1)
  have u1 : mx_el (mx_up h e 0 b1) o 1 = b2 := by rw [mx_el_up, if_neg (fun z => ne z.1)]; exact x1
  refine ⟨h', ?_, k2, (Fr.up (by simp)).trans k3 (fun a ha => Or.inl ha), by rw [k4, mw_up]⟩
  simp only [g194_0, g194_1, g194_2, g194_5, g194_8, g194_9, g194_10, g194_13, g194_16, mx_isr_ref, mx_isr_null, mx_wt_nil, mx_wt_1, mx_wt_2, mx_wt_3, Option.bind_some, Option.toList_some, Option.toList_none, List.cons_append, List.nil_append, mx_nl_int, mx_nl_ref, mx_nl_null, mx_nl_none, mx_nb0, mx_nb1, mx_fb0, mx_fb1, mx_cat_int, mx_cat_ref, if_true, if_false, not_true_eq_false, not_false_eq_true, mx_wt_4, mx_w4_0, mx_w9_0, mx_w9_1, mx_kn_int, mx_kn_ref, mx_kn_null, Nat.reduceLT, ofn, n10, te, to, lo, x0, isr_kn p1.isr, p1.isr, hn, mx_tag_up, mx_ln_up, u1, isr_kn p2.isr, p2.isr, k1]
theorem jo_gain {e o : Nat} {x : itf} {v' : Option (List Nat)} {w' : Option Bool} {c c' g' : Int32} (I : IC M h e (some x.1.1) x.1.2 c (bI x.2)) (he : e ∈ M) (h63 : 63 ≤ e) (J : IC M h o v' w' c' g') (ne : o ≠ e) : ∃ h', mx_G (d + 2) 195 0 [some (.ref e), some (.ref o)] [] h = some (none, h') ∧ IC M h' e (some (gai x v' w').1.1) (gai x v' w').1.2 c (bI (gai x v' w').2) ∧ Fr [e] h h' ∧ mw h' = mw h := by
  obtain ⟨a1, a2, e1, o1, o2⟩ := id I
  have te := ce_t e1
  obtain ⟨b1, b2, to, lo, x0, x1, -, -, p1, p2⟩ := IC_f J
  have hn : mt_nO ≤ e := by rw [show mt_nO = 63 by decide]; exact h63
  -- the text first
  obtain ⟨h1, k1, I1, F1, w1, q1, q2, q3, te1⟩ : ∃ h1, mx_G (d + 2) 195 0 [some (.ref e), some (.ref o)] [] h = mx_G (d + 2) 195 15 [some (.ref e), some (.ref o)] [] h1 ∧ IC M h1 e (some (v'.getD x.1.1)) x.1.2 c (bI x.2) ∧ Fr [e] h h1 ∧ mw h1 = mw h ∧ mx_tag h1 o = some (.inl 8) ∧ mx_ln h1 o = 4 ∧ (mx_el h1 o 1 = b2 ∧ OV M h1 b2 (vB w')) ∧ mx_tag h1 e = some (.inl 8) := by
    cases v' with
    | none =>
      rw [show b1 = .null from p1] at x0
      refine ⟨h, ?_, I, Fr.rfl _ _, rfl, to, lo, ⟨x1, p2⟩, te⟩
      simp only [g195_0, g195_1, g195_4, g195_4n, g195_4n, mx_isr_ref, mx_isr_null, mx_wt_nil, mx_wt_1, mx_wt_2, mx_wt_3, Option.bind_some, Option.toList_some, Option.toList_none, List.cons_append, List.nil_append, mx_nl_int, mx_nl_ref, mx_nl_null, mx_nl_none, mx_nb0, mx_nb1, mx_fb0, mx_fb1, mx_cat_int, mx_cat_ref, if_true, if_false, not_true_eq_false, not_false_eq_true, mx_wt_4, mx_w4_0, mx_w9_0, mx_w9_1, mx_kn_int, mx_kn_ref, mx_kn_null, Nat.reduceLT, ofn, n10, to, lo, x0]
    | some t =>
      obtain ⟨w, ew, -⟩ := id p1
      subst ew
      have E1 := Ex.up1 (h := h) (k := 0) (v := .ref w) he
      refine ⟨mx_up h e 0 (.ref w), ?_, ⟨.ref w, a2, by rw [c_up e1]; rfl, p1.ex E1, o2.ex E1⟩, Fr.up (by simp), mw_up _ _ _ _, by rw [mx_tag_up]; exact to, by rw [mx_ln_up]; exact lo, ⟨by rw [mx_el_up, if_neg (fun z => ne z.1)]; exact x1, p2.ex E1⟩, by rw [mx_tag_up]; exact te⟩
      simp only [g195_0, g195_1, g195_4, g195_4n, g195_7, g195_8, g195_9, g195_12, mx_isr_ref, mx_isr_null, mx_wt_nil, mx_wt_1, mx_wt_2, mx_wt_3, Option.bind_some, Option.toList_some, Option.toList_none, List.cons_append, List.nil_append, mx_nl_int, mx_nl_ref, mx_nl_null, mx_nl_none, mx_nb0, mx_nb1, mx_fb0, mx_fb1, mx_cat_int, mx_cat_ref, if_true, if_false, not_true_eq_false, not_false_eq_true, mx_wt_4, mx_w4_0, mx_w9_0, mx_w9_1, mx_kn_int, mx_kn_ref, mx_kn_null, Nat.reduceLT, ofn, n10, to, lo, x0, te, hn]
  rw [k1]
  cases w' with
  | none =>
    rw [show b2 = .null from q3.2] at q3
    refine ⟨h1, ?_, I1, F1, w1⟩
    simp only [g195_15, g195_16, g195_19, g195_19n, g195_19n, g195_30, mx_isr_ref, mx_isr_null, mx_wt_nil, mx_wt_1, mx_wt_2, mx_wt_3, Option.bind_some, Option.toList_some, Option.toList_none, List.cons_append, List.nil_append, mx_nl_int, mx_nl_ref, mx_nl_null, mx_nl_none, mx_nb0, mx_nb1, mx_fb0, mx_fb1, mx_cat_int, mx_cat_ref, if_true, if_false, not_true_eq_false, not_false_eq_true, mx_wt_4, mx_w4_0, mx_w9_0, mx_w9_1, mx_kn_int, mx_kn_ref, mx_kn_null, Nat.reduceLT, ofn, n10, q1, q2, q3.1]
  | some t =>
    obtain ⟨w, ew, -⟩ := id q3.2
    subst ew
    obtain ⟨h', j1, j2, j3, j4⟩ := jo_give (d := d) I1 he h63 q3.2
    refine ⟨h', ?_, j2, F1.trans j3 (fun a ha => Or.inl ha), by rw [j4, w1]⟩
    simp only [g195_15, g195_16, g195_19, g195_19n, g195_22, g195_23, g195_24, g195_27, g195_30, mx_isr_ref, mx_isr_null, mx_wt_nil, mx_wt_1, mx_wt_2, mx_wt_3, Option.bind_some, Option.toList_some, Option.toList_none, List.cons_append, List.nil_append, mx_nl_int, mx_nl_ref, mx_nl_null, mx_nl_none, mx_nb0, mx_nb1, mx_fb0, mx_fb1, mx_cat_int, mx_cat_ref, if_true, if_false, not_true_eq_false, not_false_eq_true, mx_wt_4, mx_w4_0, mx_w9_0, mx_w9_1, mx_kn_int, mx_kn_ref, mx_kn_null, Nat.reduceLT, ofn, n10, q1, q2, q3.1, te1, j1]
end
