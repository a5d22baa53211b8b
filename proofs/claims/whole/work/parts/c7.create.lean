/-! create of the class. -/
/-- the model's places are left alone -/
def mdl (h h' : mx_H) : Prop := ∀ a, 76 ≤ a → a < 102 → h'[a]? = h[a]?
theorem mdl.rfl (h : mx_H) : mdl h h := fun _ _ _ => Eq.refl _
theorem mdl.trans {h h' h'' : mx_H} (a : mdl h h') (b : mdl h' h'') : mdl h h'' := fun x h1 h2 => (b x h1 h2).trans (a x h1 h2)
theorem Fr.mdl {F : List Nat} {h h' : mx_H} (f : Fr F h h') (hl : 102 ≤ h.length) (hF : ∀ a ∈ F, ¬ (76 ≤ a ∧ a < 102)) : mdl h h' := fun a h1 h2 => f.2 a (by omega) (fun z => hF a z ⟨h1, h2⟩)
theorem fS1_id {ts : List tk} {m : Nat} {p q : prs} (h : fS1 ts m p = some q) : q.1 = p.1 ∧ q.2.1 = p.2.1 := by
  unfold fS1 at h
  split at h
  · cases h; exact ⟨rfl, rfl⟩
  · split at h
    · split at h
      · cases h; exact ⟨rfl, rfl⟩
      · cases h
    · split at h
      · split at h
        · cases h; exact ⟨rfl, rfl⟩
        · cases h
      · split at h
        · split at h
          · cases h; exact ⟨rfl, rfl⟩
          · cases h
        · split at h
          · obtain ⟨x, -, hx⟩ := Option.bind_eq_some_iff.mp h
            split at hx
            · cases hx; exact ⟨rfl, rfl⟩
            · cases hx
          · cases h
theorem fS_idc {ts : List tk} : ∀ (l : List Nat) (p q : prs), fS ts l p = some q → q.1 = p.1 ∧ q.2.1 = p.2.1 := by
  intro l
  induction l with
  | nil => intro p q h; cases h; exact ⟨rfl, rfl⟩
  | cons m l ih =>
    intro p q h
    rw [fS_cons] at h
    obtain ⟨x, h1, h2⟩ := Option.bind_eq_some_iff.mp h
    have := fS1_id h1
    have := ih x q h2
    omega
theorem fP_idc {ts : List tk} {t id ver : Nat} {q : prs} (h : fP ts t id ver = some q) : q.1 = id ∧ q.2.1 = ver ∧ pnm q ≠ [] := by
  unfold fP at h
  obtain ⟨x, h1, h2⟩ := Option.bind_eq_some_iff.mp h
  split at h2
  · cases h2
  · rename_i hn
    cases h2
    have := fS_idc _ _ _ h1
    exact ⟨this.1, this.2, hn⟩
theorem lx_le : ∀ (n : Nat) (l : List Nat), (lx n l).length ≤ l.length := by
  intro n
  induction n with
  | zero => intro l; simp [lx]
  | succ n ih =>
    intro l
    cases l with
    | nil => simp [lx]
    | cons c r =>
      rw [lx]
      split
      · have := ih r
        rw [List.length_cons]
        omega
      · have := ih (lx_one c r).2
        have := lx_one_len (c := c) (r := r)
        rw [List.length_cons, List.length_cons]
        omega
section
variable {d : Nat} {h : mx_H} {x x2 A3 A4 : Nat} {bt : List Nat} {s : sto}
theorem bufS_fr {F : List Nat} {h' : mx_H} (B : bufS h x bt) (f : Fr F h h') (hF : ∀ a ∈ F, ¬ (64 ≤ a ∧ a ≤ 69) ∧ a ≠ x) : bufS h' x bt := by
  obtain ⟨ls, ks, ss, es, t, c, n, us, BB, r1, S, r2⟩ := B
  exact ⟨ls, ks, ss, es, t, c, n, us, BF_fr BB f (fun a ha => by have := (hF a ha).1; omega), r1, SB_fr S f (fun z => by have := (hF _ z).1; omega) (fun z => (hF _ z).2 rfl), r2⟩
theorem cSt_new {h' : mx_H} (C : cSt h x x2 A3 A4 bt s) (f : Fr [] h h') : cSt h' x x2 A3 A4 bt s :=
  cSt_read C (f.mono (by simp)) (Or.inl rfl) (bufS_fr C.2.2.2.1 f (by simp))
/-- the people change -/
theorem cSt_ppl {h' : mx_H} {A3' : Nat} {s' : sto} (C : cSt h x x2 A3 A4 bt s) (f : Fr (63 :: fA 71 A3) h h') (hA : A3' = A3 ∨ h.length ≤ A3') (hA2 : A3' = 2 ∨ 102 ≤ A3') (hp : pS h' s') (hpl : plS (x :: mR x2 A3' A4) h' A3' s'.1) (hg : s'.2.2 = s.2.2) : cSt h' x x2 A3' A4 bt s' := by
  obtain ⟨K, hl, -, hb, hpl0, hf, hpg, hw, hm⟩ := C
  obtain ⟨cp3, es3, L3, -⟩ := hpl0
  have fm : ∀ a ∈ 63 :: fA 71 A3, a = 63 ∨ a = 71 ∨ (a = A3 ∧ A3 ≠ 2) := by
    intro a ha
    rcases List.mem_cons.mp ha with z | z
    · exact Or.inl z
    · rcases fA_mem z with y | y
      · exact Or.inr (Or.inl y)
      · exact Or.inr (Or.inr y)
  have tA3 := ce_t L3.2.1
  have l3 := ce_l L3.2.1
  have hm3 := hm.2.1
  have hm4 := hm.2.2.1
  obtain ⟨ls, ks, ss, es, t, c, n, us, BB, r1, S, rn, rA, rx⟩ := id hb
  have xA : A3 ≠ x := by rintro rfl; rw [ce_t S.2.1] at tA3; cases tA3
  obtain ⟨n2, us2, S2, hx2⟩ := hw
  have x2A : A3 ≠ x2 := by rintro rfl; rw [ce_t S2.2.1] at tA3; cases tA3
  obtain ⟨cp4, es4, L4, e4, n4⟩ := hf
  obtain ⟨pl, g1, g2⟩ := hpg
  have F63 : ∀ a ∈ 63 :: fA 71 A3, 63 ≤ a := fun a ha => by rcases fm a ha with z | z | z <;> omega
  refine ⟨K.fr f F63, Nat.le_trans hl f.1, hp, bufS_fr hb f (fun a ha => ?_), hpl, ⟨cp4, es4, AL_fr L4 f (fun z => ?_) (fun z => ?_), fun e he => ⟨elt_fr (e4 e he).1 f (fun z => ?_), (e4 e he).2⟩, n4⟩, ⟨pl, f.at g1 (fun z => ?_), by rw [hg]; exact g2⟩, ⟨n2, us2, SB_fr S2 f (fun z => ?_) (fun z => ?_), hx2⟩, hm.1, hA2, hm.2.2.1, fun z => ?_⟩
  · rcases fm a ha with z | z | z
    · omega
    · omega
    · rw [z.1]; exact ⟨by omega, xA⟩
  · rcases fm _ z with y | y | y <;> omega
  · rcases fm _ z with y | y | y
    · omega
    · omega
    · exact y.2 (hm.2.2.2 y.1.symm)
  · have h1 := (e4 e he).1
    have h2 := (e4 e he).2
    rcases fm _ z with y | y | y
    · omega
    · omega
    · rw [y.1] at h1
      exact elt_ne h1 L3.2.1 rfl
  · rcases fm _ z with y | y | y <;> omega
  · rcases fm _ z with y | y | y <;> omega
  · rcases fm _ z with y | y | y
    · omega
    · omega
    · exact x2A y.1.symm
  · rcases hA with w | w
    · rw [w] at z ⊢; exact hm.2.2.2 z
    · have := ce_l L4.2.1
      omega
theorem jq_create (C : cSt h x x2 A3 A4 bt s) (hb : s.2.1 + 1 < 2 ^ 20) (hid : ∀ p ∈ s.1, p.1 < 2 ^ 20) : ∃ (h' : mx_H) (x' A3' : Nat), mx_G (d + 21) 15 0 [some (.ref 63), none, none] [] h = some (some (.int (Int32.ofInt (s_create (lx bt.length bt) (lx_good (lx bt.length bt)) s).1)), h') ∧ cSt h' x' x2 A3' A4 [] (s_create (lx bt.length bt) (lx_good (lx bt.length bt)) s).2 ∧ mdl h h' ∧ mw h' ≤ mw h + 2700 * bt.length + 10000 := by
  obtain ⟨h1, x', C1, F1, hx', W1, t1, t2⟩ := jq_take (d := d) C
  obtain ⟨b128, b120⟩ := bufS_lt C.2.2.2.1
  have xl := (cSt_R C).2 x List.mem_cons_self
  have x70 : x = 70 ∨ 102 ≤ x := by obtain ⟨_, _, _, _, _, _, _, _, _, _, _, _, _, z⟩ := C.2.2.2.1; exact z
  have m1 : mdl h h1 := F1.mdl C.2.1 (fun a ha => by simp only [List.mem_cons, List.not_mem_nil, or_false] at ha; omega)
  have l1 := F1.1
  have N := NB_lx bt.length bt
  generalize hts : lx bt.length bt = ts at *
  obtain ⟨s1, s2, s3, s4, s5, s6, s7, s8, s9⟩ := pS_f C.2.2.1
  obtain ⟨u1, u2, u3, u4, u5, u6, u7, u8, u9⟩ := pS_f C1.2.2.1
  unfold s_create
  cases hok : (lx_good ts && oB ts) with
  | false =>
    rw [if_pos rfl]
    refine ⟨h1, x', A3, ?_, C1, m1, by omega⟩
    simp only [g15_0, g15_1, g15_4, g15_5, g15_6, g15_6n, g15_9, g15_12, mx_isr_ref, mx_isr_null, mx_wt_nil, mx_wt_1, mx_wt_2, mx_wt_3, Option.bind_some, Option.toList_some, Option.toList_none, List.cons_append, List.nil_append, mx_nl_int, mx_nl_ref, mx_nl_null, mx_nl_none, mx_nb0, mx_nb1, mx_fb0, mx_fb1, mx_cat_int, mx_cat_ref, if_true, if_false, not_true_eq_false, not_false_eq_true, mx_wt_4, mx_w4_0, mx_w9_0, mx_w9_1, mx_kn_int, mx_kn_ref, mx_kn_null, Nat.reduceLT, ofn, n10, s1, t2 hok]
    rfl
  | true =>
    rw [if_neg (by decide)]
    obtain ⟨v, g1, V⟩ := t1 hok
    have hI : tI ts 0 123 = true := by
      rw [Bool.and_eq_true] at hok
      have := hok.2
      unfold oB at this
      rw [Bool.and_eq_true] at this
      exact this.1
    have hfour : 4 * (kd ts 0).length ≤ bt.length := by
      rw [Bool.and_eq_true] at hok
      have h2 := hok.2
      unfold oB at h2
      rw [Bool.and_eq_true, beq_iff_eq] at h2
      have := kd_four h2.1 (pV_pE 3 0 _ (by decide) h2.2)
      have : ts.length ≤ bt.length := by rw [← hts]; exact lx_le _ _
      omega
    obtain ⟨r1, r2⟩ := cSt_R C1
    obtain ⟨j1, j2⟩ := jp_from (d := d + 8) (id := s.2.1 + 1) N C1.1 C1.2.1 r2 V hI
    have hnI : nI s.2.1 + 1 = nI (s.2.1 + 1) := nI_1 _
    cases hf : fP ts 0 (s.2.1 + 1) 1 with
    | none =>
      obtain ⟨h2, y1, y2, y3⟩ := j2 hf
      refine ⟨h2, x', A3, ?_, cSt_new C1 y2, m1.trans (y2.mdl C1.2.1 (by simp)), by omega⟩
      simp only [g15_0, g15_1, g15_4, g15_5, g15_6, g15_6n, g15_9, g15_12, g15_13, g15_14, g15_15, g15_18, g15_19, g15_20, g15_23, g15_24, g15_25, g15_25n, g15_28, g15_31, mx_isr_ref, mx_isr_null, mx_wt_nil, mx_wt_1, mx_wt_2, mx_wt_3, Option.bind_some, Option.toList_some, Option.toList_none, List.cons_append, List.nil_append, mx_nl_int, mx_nl_ref, mx_nl_null, mx_nl_none, mx_nb0, mx_nb1, mx_fb0, mx_fb1, mx_cat_int, mx_cat_ref, if_true, if_false, not_true_eq_false, not_false_eq_true, mx_wt_4, mx_w4_0, mx_w9_0, mx_w9_1, mx_kn_int, mx_kn_ref, mx_kn_null, Nat.reduceLT, ofn, n10, s1, g1, u1, u2, u9, hnI, y1]
      rfl
    | some q =>
      obtain ⟨h2, y1, y2, y3, y4⟩ := j1 q hf
      have C2 := cSt_new C1 y3
      have l2 := y3.1
      obtain ⟨q1, q2, q3⟩ := fP_idc hf
      obtain ⟨l, PC2, FL2⟩ := y2
      have E12 : Ex (x' :: mR x2 A3 A4) h1 (h1.length :: x' :: mR x2 A3 A4) h2 := Ex.fresh y3 (fun a ha => by
        rcases List.mem_cons.mp ha with z | z
        · exact Or.inr (by omega)
        · exact Or.inl z)
      have P2 : plS (h1.length :: x' :: mR x2 A3 A4) h2 A3 s.1 := by
        have hA3 : A3 < h1.length := by obtain ⟨cp, es, L, -⟩ := C1.2.2.2.2.1; exact ce_l L.2.1
        exact C1.2.2.2.2.1.ex E12 (y3.2 71 (by have := C1.2.1; omega) (by simp)) (y3.2 A3 hA3 (by simp))
      have T := jq_taken (d := d + 14) C2.2.2.1 P2 hid (q := q) (by omega) PC2
      obtain ⟨w1, w2, w3, w4, w5, w6, w7, w8, w9⟩ := pS_f C2.2.2.1
      simp only
      by_cases ct : tkn s.1 q = true
      · rw [if_pos ct] at T ⊢
        refine ⟨h2, x', A3, ?_, C2, m1.trans (y3.mdl C1.2.1 (by simp)), by omega⟩
        simp only [g15_0, g15_1, g15_4, g15_5, g15_6, g15_6n, g15_9, g15_12, g15_13, g15_14, g15_15, g15_18, g15_19, g15_20, g15_23, g15_24, g15_25, g15_25n, g15_28, g15_31, g15_32, g15_33, g15_34, g15_37, g15_40, g15_43, mx_isr_ref, mx_isr_null, mx_wt_nil, mx_wt_1, mx_wt_2, mx_wt_3, Option.bind_some, Option.toList_some, Option.toList_none, List.cons_append, List.nil_append, mx_nl_int, mx_nl_ref, mx_nl_null, mx_nl_none, mx_nb0, mx_nb1, mx_fb0, mx_fb1, mx_cat_int, mx_cat_ref, if_true, if_false, not_true_eq_false, not_false_eq_true, mx_wt_4, mx_w4_0, mx_w9_0, mx_w9_1, mx_kn_int, mx_kn_ref, mx_kn_null, Nat.reduceLT, ofn, n10, s1, g1, u1, u2, u9, hnI, y1, w1, T]
        rfl
      · rw [if_neg ct] at T ⊢
        obtain ⟨cp, es, L, hle, h8, P⟩ := C2.2.2.2.2.1
        have sz := jl_size (d := d + 20) L
        rw [hle] at sz
        have t71 := (AL_f L).1
        by_cases c8 : 8 ≤ s.1.length
        · rw [if_pos c8]
          refine ⟨h2, x', A3, ?_, C2, m1.trans (y3.mdl C1.2.1 (by simp)), by omega⟩
          have q8 : ¬ nI s.1.length < 8 := nI_nlt (b := 8) (by omega) (by omega)
          simp only [g15_0, g15_1, g15_4, g15_5, g15_6, g15_6n, g15_9, g15_12, g15_13, g15_14, g15_15, g15_18, g15_19, g15_20, g15_23, g15_24, g15_25, g15_25n, g15_28, g15_31, g15_32, g15_33, g15_34, g15_37, g15_40, g15_43, g15_44, g15_45, g15_48, g15_51, g15_53, g15_56, g15_59, mx_isr_ref, mx_isr_null, mx_wt_nil, mx_wt_1, mx_wt_2, mx_wt_3, Option.bind_some, Option.toList_some, Option.toList_none, List.cons_append, List.nil_append, mx_nl_int, mx_nl_ref, mx_nl_null, mx_nl_none, mx_nb0, mx_nb1, mx_fb0, mx_fb1, mx_cat_int, mx_cat_ref, if_true, if_false, not_true_eq_false, not_false_eq_true, mx_wt_4, mx_w4_0, mx_w9_0, mx_w9_1, mx_kn_int, mx_kn_ref, mx_kn_null, Nat.reduceLT, ofn, n10, s1, g1, u1, u2, u9, hnI, y1, w1, w2, w4, T, t71, sz, q8]
          rfl
        · rw [if_neg c8]
          have q8 : nI s.1.length < 8 := nI_lt (b := 8) (by omega) (by decide)
          have tp := (PC_f PC2).1
          have hel : ∀ e ∈ es, elt h2 e := by
            intro e he
            obtain ⟨k, hk, ek⟩ := gd_mem he
            obtain ⟨⟨l', Ck, -⟩, -⟩ := P k (by omega)
            rw [ek] at Ck
            exact Or.inl (PC_f Ck).1
          obtain ⟨h3, A3', cp', a1, a2, a3, a4, a5, a6⟩ := jl_add (d := d + 13) L (by omega) hel (e := h1.length) (Or.inl tp)
          have l3 := a3.1
          have hm := C2.2.2.2.2.2.2.2.2
          have hcp' := a2.2.2.2.1
          have fa : ∀ a ∈ fA 71 A3, a = 71 ∨ (a = A3 ∧ A3 ≠ 2) := fun a ha => fA_mem ha
          have hm3 := hm.2.1
          have hp3 : pS h3 s := a3.at C2.2.2.1 (fun z => by rcases fa _ z with y | y <;> omega)
          obtain ⟨v1, v2, v3, v4, v5, v6, v7, v8, v9⟩ := pS_f hp3
          generalize hg : mx_up h3 63 6 (.int (nI (s.2.1 + 1))) = h4
          have F4 : Fr (63 :: fA 71 A3) h2 h4 := (a3.mono (fun a ha => List.mem_cons_of_mem _ ha)).trans (show Fr [63] h3 h4 by rw [← hg]; exact Fr.up (by simp)) (fun a ha => Or.inl (by rw [List.mem_singleton] at ha; rw [ha]; exact List.mem_cons_self))
          have hp4 : pS h4 (s.1 ++ [q], s.2.1 + 1, s.2.2) := by
            unfold pS
            rw [← hg, c_up hp3]
            rfl
          have A3l : A3 < h2.length := ce_l L.2.1
          have E4 : ∀ M0 : List Nat, (∀ a ∈ x' :: mR x2 A3 A4, a ∈ M0) → Ex M0 h2 (x' :: mR x2 A3' A4) h4 := by
            intro M0 hM0
            refine F4.ex (fun a ha z => ?_) (fun a ha => ?_)
            · rcases List.mem_cons.mp ha with y | y
              · rw [y] at z; exact z.1 (by omega)
              · rcases fa _ y with y | y
                · rw [y] at z; exact z.1 (by omega)
                · refine z.2 (hM0 _ ?_)
                  rw [y.1]
                  unfold mR fA0
                  rw [if_neg y.2]
                  simp
            · unfold mR at ha
              simp only [List.mem_cons, List.mem_append] at ha
              rcases ha with y | y | y | y
              · exact Or.inl (hM0 _ (by rw [y]; exact List.mem_cons_self))
              · exact Or.inl (hM0 _ (by rw [y]; unfold mR; simp))
              · obtain ⟨y1, y2⟩ := fA0_mem y
                rcases a4 with w | w
                · refine Or.inl (hM0 _ ?_)
                  rw [y1, w]
                  unfold mR fA0
                  rw [if_neg (by rw [← w]; exact y2)]
                  simp
                · exact Or.inr (by omega)
              · exact Or.inl (hM0 _ (by unfold mR; simp [y]))
          have hpl4 : plS (x' :: mR x2 A3' A4) h4 A3' (s.1 ++ [q]) := by
            have h71 : h4[71]? = h3[71]? := by rw [← hg, c_upn (by decide)]
            have hA' : h4[A3']? = h3[A3']? := by rw [← hg, c_upn (by omega)]
            refine ⟨cp', es ++ [h1.length], AL_cells a2 h71 hA', by simp [hle], by simp; omega, fun k hk => ?_⟩
            rw [List.length_append, List.length_singleton] at hk
            by_cases hks : k < s.1.length
            · have e1 : (es ++ [h1.length]).getD k 0 = es.getD k 0 := by rw [List.getD_eq_getElem?_getD, List.getElem?_append_left (by omega), List.getD_eq_getElem?_getD]
              have e2 : pAt' (s.1 ++ [q]) k = pAt' s.1 k := by unfold pAt'; rw [List.getD_eq_getElem?_getD, List.getElem?_append_left hks, List.getD_eq_getElem?_getD]
              rw [e1, e2]
              obtain ⟨p1, p2⟩ := P k hks
              have hp : es.getD k 0 < h2.length := by obtain ⟨l, ⟨_, _, _, _, _, _, e1, _⟩, _⟩ := p1; exact ce_l e1
              have E := E4 _ (fun a ha => ha)
              exact ⟨p1.ex E (E.2 _ hp p2).1, (E.2 _ hp p2).2⟩
            · have hk' : k = s.1.length := by omega
              subst hk'
              have e1 : (es ++ [h1.length]).getD s.1.length 0 = h1.length := by rw [← hle]; simp [List.getD_eq_getElem?_getD]
              have e2 : pAt' (s.1 ++ [q]) s.1.length = q := by unfold pAt'; simp [List.getD_eq_getElem?_getD]
              rw [e1, e2]
              have E := E4 (h1.length :: x' :: mR x2 A3 A4) (fun a ha => List.mem_cons_of_mem _ ha)
              have hpl : h1.length < h2.length := by obtain ⟨_, _, _, _, _, _, e1, _⟩ := PC2; exact ce_l e1
              have hc : h4[h1.length]? = h2[h1.length]? := F4.2 _ hpl (fun z => by
                rcases List.mem_cons.mp z with y | y
                · have := C1.2.1; omega
                · rcases fa _ y with y | y
                  · have := C1.2.1; omega
                  · obtain ⟨cp0, es0, L0, -⟩ := C1.2.2.2.2.1
                    have := ce_l L0.2.1
                    omega)
              refine ⟨PP.ex ⟨l, PC2, FL2⟩ E hc, ⟨by have := C1.2.1; omega, fun z => ?_⟩⟩
              unfold mR at z
              simp only [List.mem_cons, List.mem_append] at z
              rcases z with y | y | y | y
              · have := (r2 x' List.mem_cons_self).2; omega
              · have := (r1 x2 (by unfold mR; simp)).2; omega
              · obtain ⟨y1, y2⟩ := fA0_mem y
                rcases a4 with w | w
                · obtain ⟨cp0, es0, L0, -⟩ := C1.2.2.2.2.1
                  have := ce_l L0.2.1
                  omega
                · omega
              · have := (r1 h1.length (by unfold mR; simp [y])).2; omega
          refine ⟨h4, x', A3', ?_, cSt_ppl C2 F4 a4 ?_ hp4 hpl4 rfl, (m1.trans (y3.mdl C1.2.1 (by simp))).trans (F4.mdl C2.2.1 (fun a ha => ?_)), ?_⟩
          · simp only [g15_0, g15_1, g15_4, g15_5, g15_6, g15_6n, g15_9, g15_12, g15_13, g15_14, g15_15, g15_18, g15_19, g15_20, g15_23, g15_24, g15_25, g15_25n, g15_28, g15_31, g15_32, g15_33, g15_34, g15_37, g15_40, g15_43, g15_44, g15_45, g15_48, g15_51, g15_53, g15_56, g15_59, g15_60, g15_61, g15_64, g15_65, g15_68, g15_69, g15_70, g15_71, g15_74, g15_75, g15_76, g15_79, g15_80, g15_83, mx_isr_ref, mx_isr_null, mx_wt_nil, mx_wt_1, mx_wt_2, mx_wt_3, Option.bind_some, Option.toList_some, Option.toList_none, List.cons_append, List.nil_append, mx_nl_int, mx_nl_ref, mx_nl_null, mx_nl_none, mx_nb0, mx_nb1, mx_fb0, mx_fb1, mx_cat_int, mx_cat_ref, if_true, if_false, not_true_eq_false, not_false_eq_true, mx_wt_4, mx_w4_0, mx_w9_0, mx_w9_1, mx_kn_int, mx_kn_ref, mx_kn_null, Nat.reduceLT, ofn, n10, s1, g1, u1, u2, u9, hnI, y1, w1, w2, w4, T, t71, sz, q8, a1, v1, v2, v9, hg, show mt_nO ≤ 63 by decide]
            obtain ⟨z1, z2, z3, z4, z5, z6, z7, z8, z9⟩ := pS_f hp4
            simp only [g15_79, g15_80, g15_83, mx_isr_ref, mx_isr_null, mx_wt_nil, mx_wt_1, mx_wt_2, mx_wt_3, Option.bind_some, Option.toList_some, Option.toList_none, List.cons_append, List.nil_append, mx_nl_int, mx_nl_ref, mx_nl_null, mx_nl_none, mx_nb0, mx_nb1, mx_fb0, mx_fb1, mx_cat_int, mx_cat_ref, if_true, if_false, not_true_eq_false, not_false_eq_true, mx_wt_4, mx_w4_0, mx_w9_0, mx_w9_1, mx_kn_int, mx_kn_ref, mx_kn_null, Nat.reduceLT, ofn, n10, z1, z2, z9]
            rw [oI_nat]
          · rcases a4 with w | w
            · omega
            · have := C1.2.1; omega
          · rcases List.mem_cons.mp ha with y | y
            · omega
            · rcases fa _ y with y | y <;> omega
          · rw [← hg, mw_up]
            omega
end
