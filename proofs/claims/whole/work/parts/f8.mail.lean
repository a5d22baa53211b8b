/-! applyToMail. -/
/-- what an operation leaves -/
def PO (R : List Nat) (N : Nat) (h : mx_H) (p l A cp : Nat) (es : List Nat) (res : Int × prs) (k : Nat) (G : Option (Option Value × mx_H)) : Prop :=
  ∃ h', G = some (some (.int (Int32.ofInt res.1)), h') ∧ FrN N h h' ∧ mw h' + 6 * cp ≤ mw h + 6000 + k ∧ (res.1 = 0 → ∃ (A' cp' : Nat) (es' : List Nat) (b' : List Bool), DR R N h' p l A' cp' es' res.2 (mrk (pit res.2)) b' ∧ SX N (dM p l A es R) h (dM p l A' es' R) h' ∧ mw h' + 6 * cp ≤ mw h + 6 * cp' + k)
theorem PO.ok {R : List Nat} {N : Nat} {h h' : mx_H} {p l A cp A' cp' : Nat} {es es' : List Nat} {b' : List Bool} {res : Int × prs} {k : Nat} {G : Option (Option Value × mx_H)} (e : G = some (some (.int (Int32.ofInt res.1)), h')) (D : DR R N h' p l A' cp' es' res.2 (mrk (pit res.2)) b') (S : SX N (dM p l A es R) h (dM p l A' es' R) h') (w : mw h' + 6 * cp ≤ mw h + 6 * cp' + k) : PO R N h p l A cp es res k G :=
  ⟨h', e, S.1, by have := D.2.1.2.2.2.1; omega, fun _ => ⟨A', cp', es', b', D, S, w⟩⟩
theorem PO.err {R : List Nat} {N : Nat} {h h' : mx_H} {p l A cp : Nat} {es : List Nat} {res : Int × prs} {k : Nat} {G : Option (Option Value × mx_H)} (e : G = some (some (.int (Int32.ofInt res.1)), h')) (ne : res.1 ≠ 0) (F : FrN N h h') (w : mw h' + 6 * cp ≤ mw h + 6000 + k) : PO R N h p l A cp es res k G :=
  ⟨h', e, F, w, fun z => absurd z ne⟩
theorem PO.mono {R : List Nat} {N : Nat} {h : mx_H} {p l A cp : Nat} {es : List Nat} {res : Int × prs} {k k' : Nat} {G : Option (Option Value × mx_H)} (P : PO R N h p l A cp es res k G) (hk : k ≤ k') : PO R N h p l A cp es res k' G := by
  obtain ⟨h', e, F, w, r⟩ := P
  exact ⟨h', e, F, by omega, fun z => by obtain ⟨A', cp', es', b', D, S, w'⟩ := r z; exact ⟨A', cp', es', b', D, S, by omega⟩⟩
/-- steps before -/
theorem PO.pre {R : List Nat} {N : Nat} {h h1 : mx_H} {p l A cp A1 cp1 : Nat} {es es1 : List Nat} {res : Int × prs} {k k1 : Nat} {G G' : Option (Option Value × mx_H)} (P : PO R N h1 p l A1 cp1 es1 res k G) (S : SX N (dM p l A es R) h (dM p l A1 es1 R) h1) (w : mw h1 + 6 * cp ≤ mw h + 6 * cp1 + k1) (e : ∀ v h', G = some (some (.int v), h') → G' = some (some (.int v), h')) : PO R N h p l A cp es res (k + k1) G' := by
  obtain ⟨h', e1, F, w1, r⟩ := P
  refine ⟨h', e _ _ e1, S.1.trans F, by omega, fun z => ?_⟩
  obtain ⟨A', cp', es', b', D, S', w'⟩ := r z
  exact ⟨A', cp', es', b', D, S.trans S', by omega⟩
theorem mg_len {m m' : List itf} {x : itm} (h : mg m x = some m') (h4 : m.length ≤ 4) : m'.length ≤ 4 := by
  unfold mg at h
  rw [mgs_wix] at h
  split at h
  · rename_i r hr
    split at hr
    · cases hr
      cases h
      rw [List.length_set]; exact h4
    · cases hr
  · split at h
    · cases h
    · cases h
      rw [List.length_append, List.length_singleton]
      omega
theorem mgA_len : ∀ (r : List itm) (m m' : List itf), mgA m r = some m' → m.length ≤ 4 → m'.length ≤ 4 := by
  intro r
  induction r with
  | nil => intro m m' h h4; cases h; exact h4
  | cons x r ih =>
    intro m m' h h4
    rw [mgA] at h
    obtain ⟨y, hy, h⟩ := Option.bind_eq_some_iff.mp h
    exact ih y m' h (mg_len hy h4)
section
variable {d : Nat} {h : mx_H} {R : List Nat} {N p l A cp : Nat} {es : List Nat} {q : prs} {m : List itf} {b : List Bool}
theorem DR.clr {h' : mx_H} (D : DR R N h p l A cp es q m b) (f : Fr (fA l A) h h') (L' : AL h' l A cp []) : DR R N h' p l A cp [] q [] [] ∧ SX N (dM p l A es R) h (dM p l A [] R) h' := by
  have hpl := D.pl
  obtain ⟨C, L, I, nd, ⟨n1, n2, n3, n4, n5, n6⟩, hR, K⟩ := D
  have fm : ∀ a ∈ fA l A, a = l ∨ (a = A ∧ A ≠ 2) := fun a ha => fA_mem ha
  have S : SX N (dM p l A es R) h (dM p l A [] R) h' := SX.of f n6 (fun a ha => by
    rcases fm a ha with z | z
    · rw [z]; exact Or.inl ⟨n3, dM_l⟩
    · rw [z.1]; exact Or.inl ⟨by omega, dM_A z.2⟩) (fun a ha => Or.inl (by
    rcases dM_mem ha with z | z | z | z | z
    · rw [z]; exact dM_p
    · rw [z]; exact dM_l
    · rw [z.1]; exact dM_A z.2
    · cases z
    · exact dM_R z))
  have nF : ∀ a, a ≠ l → a ≠ A → a ∉ fA l A := fun a h1 h2 z => by rcases fm a z with y | y; exact h1 y; exact h2 y.1
  exact ⟨⟨C.ex S.2 (f.2 p hpl.2.2.2.1 (nF _ hpl.1 hpl.2.1)), L', ⟨rfl, rfl, fun k hk => (by cases hk)⟩, List.nodup_nil, ⟨n1, n2, n3, n4, fun a ha => (by cases ha), Nat.le_trans n6 f.1⟩, hR, K.fr f (fun a ha => by rcases fm a ha with z | z <;> omega)⟩, S⟩
theorem jo_mailL {o L2 : Nat} {gv : Value} {r : List itm} (hr : r.length ≤ 1000) : ∀ n i (h : mx_H) (A cp : Nat) (es : List Nat) (m : List itf) (b : List Bool), n + i = r.length → m.length ≤ 4 → DR R N h p l A cp es q m b → FL (dM p l A es R) h L2 r →
    (∀ m', mgA m (r.drop i) = some m' → ∃ (h' : mx_H) (A' cp' : Nat) (es' : List Nat) (b' : List Bool), mx_G (d + 9) 196 54 [some (.ref o), some (.ref p), some gv, some (.ref L2), some (.int (nI i))] [] h = mx_G (d + 9) 196 89 [some (.ref o), some (.ref p), some gv, some (.ref L2), some (.int (nI r.length))] [] h' ∧ DR R N h' p l A' cp' es' q m' b' ∧ SX N (dM p l A es R) h (dM p l A' es' R) h' ∧ mw h' + 6 * cp + 16 * m.length ≤ mw h + 6 * cp' + 16 * m'.length) ∧
    (mgA m (r.drop i) = none → ∃ h', mx_G (d + 9) 196 54 [some (.ref o), some (.ref p), some gv, some (.ref L2), some (.int (nI i))] [] h = some (some (.int (-413)), h') ∧ FrN N h h' ∧ mw h' + 6 * cp + 16 * m.length ≤ mw h + 6064) := by
  intro n
  induction n with
  | zero =>
    intro i h A cp es m b hi h4 D FL2
    have : i = r.length := by omega
    subst this
    rw [List.drop_length]
    refine ⟨fun m' hm' => ?_, fun z => (by cases z)⟩
    cases hm'
    obtain ⟨A2, cp2, es2, L2', I2, -⟩ := FL2
    have sz := jl_size (d := d + 8) L2'
    rw [I2.1] at sz
    refine ⟨h, A, cp, es, b, ?_, D, SX.rfl _ _ _, Nat.le_refl _⟩
    simp only [g196_54, g196_56, g196_57, g196_60, mx_isr_ref, mx_isr_null, mx_wt_nil, mx_wt_1, mx_wt_2, mx_wt_3, Option.bind_some, Option.toList_some, Option.toList_none, List.cons_append, List.nil_append, mx_nl_int, mx_nl_ref, mx_nl_null, mx_nl_none, mx_nb0, mx_nb1, mx_fb0, mx_fb1, mx_cat_int, mx_cat_ref, if_true, if_false, not_true_eq_false, not_false_eq_true, mx_wt_4, mx_w4_0, mx_w9_0, mx_w9_1, mx_kn_int, mx_kn_ref, mx_kn_null, Nat.reduceLT, ofn, n10, (AL_f L2').1, sz, show nI r.length ≤ nI r.length from nI_le (Nat.le_refl _) (by omega)]
  | succ n ih =>
    intro i h A cp es m b hi h4 D FL2
    have hil : i < r.length := by omega
    obtain ⟨A2, cp2, es2, L2', I2, f1, f2, f3⟩ := id FL2
    have sz := jl_size (d := d + 8) L2'
    rw [I2.1] at sz
    have c1 : ¬ nI r.length ≤ nI i := nI_ge hil (by omega)
    have hi2 : i < es2.length := by rw [I2.1]; exact hil
    have G := jl_get (d := d + 6) L2' hi2
    obtain ⟨c', g', J⟩ := I2.2 i hil
    have fe := f3 _ (gd_mem' hi2)
    have tp := (PC_f D.1).1
    obtain ⟨M1, M2⟩ := jo_merge (d := d) D J (fun z => fe.2 (dM_e z))
    rw [iG_drop hil, mgA]
    have hcp := D.2.1.2.2.2.1
    cases hg : mg m (iG r i) with
    | none =>
      have k1 := M2 hg
      refine ⟨fun m' z => (by cases z), fun _ => ⟨h, ?_, FrN.rfl _ _, by omega⟩⟩
      rw [g196_54]
      simp only [g196_56, g196_57, g196_60, g196_63, g196_64, g196_65, g196_67, g196_70n, g196_70, g196_73, g196_76, g196_79, g196_82, mx_isr_ref, mx_isr_null, mx_wt_nil, mx_wt_1, mx_wt_2, mx_wt_3, Option.bind_some, Option.toList_some, Option.toList_none, List.cons_append, List.nil_append, mx_nl_int, mx_nl_ref, mx_nl_null, mx_nl_none, mx_nb0, mx_nb1, mx_fb0, mx_fb1, mx_cat_int, mx_cat_ref, if_true, if_false, not_true_eq_false, not_false_eq_true, mx_wt_4, mx_w4_0, mx_w9_0, mx_w9_1, mx_kn_int, mx_kn_ref, mx_kn_null, Nat.reduceLT, ofn, n10, (AL_f L2').1, sz, c1, G, J.tag.1, tp, k1]
    | some m1 =>
      obtain ⟨h1, A1, cp1, es1, b1, k1, D1, S1, w1⟩ := M1 m1 hg
      have h41 := mg_len hg h4
      obtain ⟨I1, I1'⟩ := ih (i + 1) h1 A1 cp1 es1 m1 b1 (by omega) h41 D1 (FL2.ex S1.2)
      have step : ∀ X, mx_G (d + 9) 196 54 [some (.ref o), some (.ref p), some gv, some (.ref L2), some (.int (nI (i + 1)))] [] h1 = X → mx_G (d + 9) 196 54 [some (.ref o), some (.ref p), some gv, some (.ref L2), some (.int (nI i))] [] h = X := by
        intro X hX
        rw [g196_54]
        simp only [g196_56, g196_57, g196_60, g196_63, g196_64, g196_65, g196_67, g196_70n, g196_70, g196_73, g196_76, g196_83, g196_86, mx_isr_ref, mx_isr_null, mx_wt_nil, mx_wt_1, mx_wt_2, mx_wt_3, Option.bind_some, Option.toList_some, Option.toList_none, List.cons_append, List.nil_append, mx_nl_int, mx_nl_ref, mx_nl_null, mx_nl_none, mx_nb0, mx_nb1, mx_fb0, mx_fb1, mx_cat_int, mx_cat_ref, if_true, if_false, not_true_eq_false, not_false_eq_true, mx_wt_4, mx_w4_0, mx_w9_0, mx_w9_1, mx_kn_int, mx_kn_ref, mx_kn_null, Nat.reduceLT, ofn, n10, (AL_f L2').1, sz, c1, G, J.tag.1, tp, k1, show ¬ (1 : Int32) = 0 by decide, nI_1]
        exact hX
      refine ⟨fun m' z => ?_, fun z => ?_⟩
      · obtain ⟨h', A', cp', es', b', j1, j2, j3, j4⟩ := I1 m' z
        exact ⟨h', A', cp', es', b', step _ j1, j2, S1.trans j3, by omega⟩
      · obtain ⟨h', j1, j2, j3⟩ := I1' z
        exact ⟨h', step _ j1, S1.1.trans j2, by omega⟩
theorem PO_fin {G : Option (Option Value × mx_H)} (D : DR R N h p l A cp es q m b) (h4 : m.length ≤ 4) (e : ∀ h' v, mx_G (d + 7) 188 0 [some (.ref p)] [] h = some (some (.int v), h') → G = some (some (.int v), h')) : PO R N h p l A cp es (fin q m) 64 G := by
  obtain ⟨h', k1, k2, k3, k4⟩ := jo_fin (d := d) D
  have hcp := k2.2.1.2.2.2.1
  refine ⟨h', e _ _ k1, k3.1, by omega, fun z => ?_⟩
  have ef : (fin q m).2 = sIt q (kp m) := by
    unfold fin at z ⊢
    split at z
    · cases z
    · rename_i c; rw [if_neg c]
  rw [ef]
  exact ⟨A, cp, es, b, k2, k3, by omega⟩
theorem jo_mail {ts : List tk} {n t c o : Nat} {at_ : Int32} {fv vv nx gv : Value} (D : DR R N h p l A cp es q (mrk (pit q)) b) (h4 : (pit q).length ≤ 4) (O : OC (dM p l A es R) h o (nI c) at_ fv vv nx) (hc : c < 128) (hgv : mx_isr gv = true) (hv : c ≠ 45 → ∃ v, gv = .ref v ∧ cVl ts n (dM p l A es R) h v t) :
    PO R N h p l A cp es (aMl ts c t q) 10200 (mx_G (d + 10) 196 0 [some (.ref o), some (.ref p), some gv, none, none] [] h) := by
  obtain ⟨to, lo, o0, o1, o2, o3, o4⟩ := OC_f O
  obtain ⟨tp, lp, p6, -⟩ := PC_f D.1
  have L := D.2.1
  unfold aMl
  by_cases c45 : c = 45
  · subst c45
    rw [if_pos rfl]
    obtain ⟨h1, k1, k2, k3, k4⟩ := jl_clear (d := d + 9) L
    obtain ⟨D1, S1⟩ := D.clr k3 k2
    refine PO.ok (h' := h1) (A' := A) (cp' := cp) (es' := []) (b' := []) ?_ D1 S1 (by omega)
    rw [show nI 45 = 45 from rfl] at o0
    simp only [g196_0, g196_1, g196_4, g196_6, g196_9, g196_10, g196_10n, g196_13, g196_14, g196_17, g196_20, g196_21, mx_isr_ref, mx_isr_null, mx_wt_nil, mx_wt_1, mx_wt_2, mx_wt_3, Option.bind_some, Option.toList_some, Option.toList_none, List.cons_append, List.nil_append, mx_nl_int, mx_nl_ref, mx_nl_null, mx_nl_none, mx_nb0, mx_nb1, mx_fb0, mx_fb1, mx_cat_int, mx_cat_ref, if_true, if_false, not_true_eq_false, not_false_eq_true, mx_wt_4, mx_w4_0, mx_w9_0, mx_w9_1, mx_kn_int, mx_kn_ref, mx_kn_null, Nat.reduceLT, ofn, n10, to, lo, o0, tp, lp, p6, (AL_f L).1, k1]
    rfl
  · rw [if_neg c45]
    obtain ⟨v, rfl, V⟩ := hv c45
    have n45 : ¬ nI c = 45 := fun z => c45 ((nI_eq (b := 45) (by omega) (by decide)).mp z)
    have hN := D.2.2.2.2.1
    obtain ⟨W1, W2⟩ := ji_whole (d := d) D.2.2.2.2.2.2 (by omega) D.rb V (Nat.le_trans (kd_len ts t) (by decide))
    cases hB : iB ts t with
    | none =>
      obtain ⟨h1, k1, k2, k3⟩ := W2 hB
      refine PO.err (h' := h1) ?_ (show (-401 : Int) ≠ 0 by decide) (D.new k2).2.1 (by have := L.2.2.2.1; show mw h1 + 6 * cp ≤ mw h + 6000 + 10200; omega)
      simp only [g196_0, g196_1, g196_4, g196_6, g196_9, g196_10, g196_10n, g196_13, g196_14, g196_17, g196_20, g196_21, g196_22, g196_23, g196_26, g196_27, g196_28, g196_28n, g196_28n, g196_31, g196_34, mx_isr_ref, mx_isr_null, mx_wt_nil, mx_wt_1, mx_wt_2, mx_wt_3, Option.bind_some, Option.toList_some, Option.toList_none, List.cons_append, List.nil_append, mx_nl_int, mx_nl_ref, mx_nl_null, mx_nl_none, mx_nb0, mx_nb1, mx_fb0, mx_fb1, mx_cat_int, mx_cat_ref, if_true, if_false, not_true_eq_false, not_false_eq_true, mx_wt_4, mx_w4_0, mx_w9_0, mx_w9_1, mx_kn_int, mx_kn_ref, mx_kn_null, Nat.reduceLT, ofn, n10, to, lo, o0, n45, k1]
      rfl
    | some r =>
      obtain ⟨h1, A2, cp2, es2, k1, L2, I2, k3, k4, k5, k6⟩ := W1 r hB
      obtain ⟨D1, S1⟩ := D.new k3
      have rb := D.rb
      have fzN : ∀ a, h.length ≤ a → fz (dM p l A es R) a := fun a ha => ⟨by omega, fun z => by have := (rb a z).2; omega⟩
      have F2 : FL (dM p l A es R) h1 h.length r := ⟨A2, cp2, es2, L2, I2.ex (Ex.sub h1 (fun a ha => List.mem_append_right _ ha)) (fun e _ => rfl), fzN _ (Nat.le_refl _), by
        rcases k4 with z | z
        · rw [z]; exact ⟨by decide, fun y => by have := (rb 2 y).1; omega⟩
        · exact fzN _ z, fun e he => fzN e (k5 e he)⟩
      have hr : r.length ≤ 1000 := by have := L2.2.2.1; have := L2.2.2.2.1; have := I2.1; omega
      obtain ⟨to1, lo1, o01, -⟩ := OC_f (O.ex S1.2)
      obtain ⟨tp1, lp1, p61, -⟩ := PC_f D1.1
      have L1 := D1.2.1
      -- the list it begins with
      obtain ⟨h2, A', cp', es', m0, b', g2, D2, S2, w2, hm0, em0⟩ : ∃ (h2 : mx_H) (A' cp' : Nat) (es' : List Nat) (m0 : List itf) (b' : List Bool), mx_G (d + 10) 196 35 [some (.ref o), some (.ref p), some (.ref v), some (.ref h.length), none] [] h1 = mx_G (d + 10) 196 54 [some (.ref o), some (.ref p), some (.ref v), some (.ref h.length), some (.int (nI 0))] [] h2 ∧ DR R N h2 p l A' cp' es' q m0 b' ∧ SX N (dM p l A es R) h1 (dM p l A' es' R) h2 ∧ mw h2 + 6 * cp = mw h1 + 6 * cp' ∧ m0.length ≤ 4 ∧ m0 = mrk (if c = 61 then [] else pit q) := by
        by_cases c61 : c = 61
        · obtain ⟨h2, j1, j2, j3, j4⟩ := jl_clear (d := d + 9) L1
          obtain ⟨D2, S2⟩ := D1.clr j3 j2
          subst c61
          refine ⟨h2, A, cp, [], [], [], ?_, D2, S2, by omega, by simp, by rw [if_pos rfl]; rfl⟩
          rw [show nI 61 = 61 from rfl] at o01
          simp only [g196_35, g196_36, g196_39, g196_41, g196_44, g196_45, g196_48, g196_51, g196_52, mx_isr_ref, mx_isr_null, mx_wt_nil, mx_wt_1, mx_wt_2, mx_wt_3, Option.bind_some, Option.toList_some, Option.toList_none, List.cons_append, List.nil_append, mx_nl_int, mx_nl_ref, mx_nl_null, mx_nl_none, mx_nb0, mx_nb1, mx_fb0, mx_fb1, mx_cat_int, mx_cat_ref, if_true, if_false, not_true_eq_false, not_false_eq_true, mx_wt_4, mx_w4_0, mx_w9_0, mx_w9_1, mx_kn_int, mx_kn_ref, mx_kn_null, Nat.reduceLT, ofn, n10, to1, lo1, o01, tp1, lp1, p61, (AL_f L1).1, j1, nI_0, show ¬ ¬ (61 : Int32) = 61 by decide]
        · have n61 : ¬ nI c = 61 := fun z => c61 ((nI_eq (b := 61) (by omega) (by decide)).mp z)
          refine ⟨h1, A, cp, es, mrk (pit q), b, ?_, D1, SX.rfl _ _ _, rfl, by rw [mrk_len]; exact h4, by rw [if_neg c61]⟩
          simp only [g196_35, g196_36, g196_39, g196_41, g196_51, g196_52, mx_isr_ref, mx_isr_null, mx_wt_nil, mx_wt_1, mx_wt_2, mx_wt_3, Option.bind_some, Option.toList_some, Option.toList_none, List.cons_append, List.nil_append, mx_nl_int, mx_nl_ref, mx_nl_null, mx_nl_none, mx_nb0, mx_nb1, mx_fb0, mx_fb1, mx_cat_int, mx_cat_ref, if_true, if_false, not_true_eq_false, not_false_eq_true, mx_wt_4, mx_w4_0, mx_w9_0, mx_w9_1, mx_kn_int, mx_kn_ref, mx_kn_null, Nat.reduceLT, ofn, n10, to1, lo1, o01, n61, nI_0]
      have S02 := S1.trans S2
      obtain ⟨Y1, Y2⟩ := jo_mailL (d := d + 1) (o := o) (L2 := h.length) (gv := .ref v) hr r.length 0 h2 A' cp' es' m0 b' (by omega) hm0 D2 (F2.ex S2.2)
      rw [List.drop_zero] at Y1 Y2
      have hcp' := D2.2.1.2.2.2.1
      have start : mx_G (d + 10) 196 0 [some (.ref o), some (.ref p), some (.ref v), none, none] [] h = mx_G (d + 10) 196 54 [some (.ref o), some (.ref p), some (.ref v), some (.ref h.length), some (.int (nI 0))] [] h2 := by
        simp only [g196_0, g196_1, g196_4, g196_6, g196_9, g196_10, g196_10n, g196_13, g196_14, g196_17, g196_20, g196_21, g196_22, g196_23, g196_26, g196_27, g196_28, g196_28n, mx_isr_ref, mx_isr_null, mx_wt_nil, mx_wt_1, mx_wt_2, mx_wt_3, Option.bind_some, Option.toList_some, Option.toList_none, List.cons_append, List.nil_append, mx_nl_int, mx_nl_ref, mx_nl_null, mx_nl_none, mx_nb0, mx_nb1, mx_fb0, mx_fb1, mx_cat_int, mx_cat_ref, if_true, if_false, not_true_eq_false, not_false_eq_true, mx_wt_4, mx_w4_0, mx_w9_0, mx_w9_1, mx_kn_int, mx_kn_ref, mx_kn_null, Nat.reduceLT, ofn, n10, to, lo, o0, n45, k1]
        exact g2
      show PO R N h p l A cp es (match mgA (mrk (if c = 61 then [] else pit q)) r with | none => (-413, q) | some l => fin q l) 10200 _
      rw [← em0]
      cases hg : mgA m0 r with
      | none =>
        obtain ⟨h3, j1, j2, j3⟩ := Y2 hg
        refine PO.err (h' := h3) (start.trans (j1.trans rfl)) (show (-413 : Int) ≠ 0 by decide) (S02.1.trans j2) ?_
        show mw h3 + 6 * cp ≤ mw h + 6000 + 10200
        omega
      | some m' =>
        obtain ⟨h3, A3', cp3, es3, b3, j1, j2, j3, j4⟩ := Y1 m' hg
        have h4' := mgA_len r m0 m' hg hm0
        have tp3 := (PC_f j2.1).1
        have PF := PO_fin (d := d + 2) (G := mx_G (d + 10) 196 89 [some (.ref o), some (.ref p), some (.ref v), some (.ref h.length), some (.int (nI r.length))] [] h3) j2 h4' (fun h' v' z => by simp only [g196_89, g196_90, g196_93, mx_isr_ref, mx_isr_null, mx_wt_nil, mx_wt_1, mx_wt_2, mx_wt_3, Option.bind_some, Option.toList_some, Option.toList_none, List.cons_append, List.nil_append, mx_nl_int, mx_nl_ref, mx_nl_null, mx_nl_none, mx_nb0, mx_nb1, mx_fb0, mx_fb1, mx_cat_int, mx_cat_ref, if_true, if_false, not_true_eq_false, not_false_eq_true, mx_wt_4, mx_w4_0, mx_w9_0, mx_w9_1, mx_kn_int, mx_kn_ref, mx_kn_null, Nat.reduceLT, ofn, n10, tp3, z])
        refine (PO.pre PF (S02.trans j3) (k1 := 10064) (by omega) (fun v' h' z => ?_)).mono (by omega)
        rw [start, j1]
        exact z
end
