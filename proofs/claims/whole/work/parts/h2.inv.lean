/-! Class and reference side by side. -/
theorem el_eq {h h' : mx_H} {a : Nat} (e : h'[a]? = h[a]?) : mx_tag h' a = mx_tag h a ∧ mx_ln h' a = mx_ln h a ∧ ∀ k, mx_el h' a k = mx_el h a k := by
  unfold mx_tag mx_ln mx_el
  rw [e]
  exact ⟨rfl, rfl, fun _ => rfl⟩
theorem mr_tab_r : ∀ q ∈ mr_tab, 77 ≤ q.2.1 ∧ q.2.1 < 102 := by decide
theorem mr_T_mdl {h h' : mx_H} (T : mr_T h) (m : mdl h h') : mr_T h' := by
  obtain ⟨a, b, c, e⟩ := T
  obtain ⟨t, l, x⟩ := el_eq (m 76 (by decide) (by decide))
  refine ⟨t.trans a, l.trans b, fun q hq => ?_, fun k hk => ?_⟩
  · have hr := mr_tab_r q hq
    obtain ⟨t', l', x'⟩ := el_eq (m q.2.1 (by omega) hr.2)
    obtain ⟨c1, c2, c3, c4⟩ := c q hq
    exact ⟨(x _).trans c1, t'.trans c2, l'.trans c3, fun k hk => by rw [x' k]; exact c4 k hk⟩
  · rw [x k]; exact e k hk
theorem mi_mdl {h h' : mx_H} (m : mdl h h') {a : Nat} (h1 : 76 ≤ a) (h2 : a < 102) (k : Nat) : mi h' a k = mi h a k := by
  unfold mi
  rw [(el_eq (m a h1 h2)).2.2 k]
theorem mSt_mdl {h h' : mx_H} {sl : slt} {s : sto} (M : mSt h sl s) (m : mdl h h') : mSt h' sl s := by
  refine mSt_mf (P := fun a _ => !(decide (76 ≤ a) && decide (a < 102))) M ⟨mr_T_mdl M.1 m, fun a k e => ?_, fun a k ha e => ?_⟩ ⟨fun k _ => rfl, rfl, rfl, fun _ => rfl⟩
  · simp only [Bool.not_eq_false', Bool.and_eq_true, decide_eq_true_eq] at e
    exact mi_mdl m e.1 e.2 k
  · simp only [Bool.not_eq_false', Bool.and_eq_true, decide_eq_true_eq] at e
    unfold ml
    rw [(el_eq (m a e.1 e.2)).2.2 k]
theorem buf_mdl {h h' : mx_H} {bs : List Nat} (B : rm_buf h bs) (m : mdl h h') : rm_buf h' bs := by
  obtain ⟨T, a, b, c⟩ := B
  exact ⟨mr_T_mdl T m, a, (mi_mdl m (by decide) (by decide) _).trans b, fun k hk => ⟨(mi_mdl m (by decide) (by decide) _).trans (c k hk).1, (c k hk).2⟩⟩
theorem gH_mr {h : mx_H} (T : mr_T h) : gH h := by
  obtain ⟨a, b, c, e⟩ := T
  intro p h1 h2 q hq v hv
  obtain ⟨k, hk, ev⟩ := List.mem_iff_getElem.mp hv
  have el : mx_el h p k = v := by rw [ce_e hq, List.getD_eq_getElem?_getD, List.getElem?_eq_getElem hk, ← ev]; rfl
  have ln := ce_n hq
  by_cases e76 : p = 76
  · subst e76
    have key : ∀ k, k < 40 → (∃ q ∈ mr_tab, q.1 = k) ∨ k ∈ mr_int := by decide
    rcases key k (by omega) with ⟨t, ht, et⟩ | hi
    · have := (c t ht).1
      rw [et, el] at this
      rw [this]
      have := mr_tab_r t ht
      show 76 ≤ t.2.1 ∧ t.2.1 < 102
      omega
    · obtain ⟨x, hx⟩ := e k hi
      rw [el] at hx
      rw [hx]; trivial
  · have key : ∀ j, j < 25 → ∃ q ∈ mr_tab, q.2.1 = 77 + j := by decide
    obtain ⟨t, ht, et⟩ := key (p - 77) (by omega)
    have ep : t.2.1 = p := by omega
    obtain ⟨-, -, c3, c4⟩ := c t ht
    rw [ep] at c3 c4
    have ok := c4 k (by omega)
    rw [el] at ok
    unfold mr_ok at ok
    split at ok
    · obtain ⟨u, hu⟩ := ok; rw [hu]; trivial
    · obtain ⟨u, hu⟩ := ok; rw [hu]; trivial
/-- the class's store is none of the reference's places -/
theorem cSt_FM {h h' : mx_H} {x x2 A3 A4 : Nat} {bt : List Nat} {s : sto} (C : cSt h x x2 A3 A4 bt s) (f : FM h h') : cSt h' x x2 A3 A4 bt s := by
  have F : Fr ((List.range 26).map (76 + ·)) h h' := ⟨by rw [f.2.1]; exact Nat.le_refl _, fun a _ ha => f.2.2.2 a (fun z => ha (List.mem_map.mpr ⟨a - 76, List.mem_range.mpr (by omega), by omega⟩))⟩
  have hF : ∀ a ∈ (List.range 26).map (76 + ·), 76 ≤ a ∧ a < 102 := fun a ha => by
    obtain ⟨k, hk, e⟩ := List.mem_map.mp ha
    have := List.mem_range.mp hk
    omega
  have nF : ∀ a, ¬ (76 ≤ a ∧ a < 102) → a ∉ (List.range 26).map (76 + ·) := fun a h1 z => h1 (hF a z)
  obtain ⟨K, hl, hp, hb, hpl, hf, hpg, hw, hm⟩ := C
  obtain ⟨ls, ks, ss, es, t, c, n, us, BB, q1, S, rn, rA, rx⟩ := id hb
  obtain ⟨n2, us2, S2, hx2⟩ := hw
  obtain ⟨cp3, es3, L3, -⟩ := id hpl
  obtain ⟨cp4, es4, L4, e4, n4⟩ := hf
  obtain ⟨pl, g1, g2⟩ := hpg
  have hm3 := hm.2.1
  have hm4 := hm.2.2.1
  have E : Ex (x :: mR x2 A3 A4) h (x :: mR x2 A3 A4) h' := F.ex (fun a ha z => z.1 (by have := hF a ha; omega)) (fun a ha => Or.inl ha)
  refine ⟨K.fr F (fun a ha => by have := hF a ha; omega), Nat.le_trans hl F.1, F.at hp (nF _ (by decide)), bufS_fr hb F (fun a ha => by have := hF a ha; omega), hpl.ex E (F.2 71 (by omega) (nF _ (by decide))) (F.2 A3 (ce_l L3.2.1) (nF _ (by omega))), ⟨cp4, es4, AL_fr L4 F (nF _ (by decide)) (nF _ (by omega)), fun y hy => ⟨elt_fr (e4 y hy).1 F (nF _ (by have := (e4 y hy).2; omega)), (e4 y hy).2⟩, n4⟩, ⟨pl, F.at g1 (nF _ (by decide)), g2⟩, ⟨n2, us2, SB_fr S2 F (nF _ (by decide)) (nF _ (by omega)), hx2⟩, hm⟩
/-- few calls, few changes -/
def wfS (n : Nat) (s : sto) : Prop := s.2.1 ≤ n ∧ (∀ p ∈ s.1, p.2.1 ≤ n + 1) ∧ (ids s.1).Pairwise (· < ·)
theorem wfS.up {n : Nat} {s : sto} (w : wfS n s) : wfS (n + 1) s := ⟨by have := w.1; omega, fun p hp => by have := w.2.1 p hp; omega, w.2.2⟩
def IV (n : Nat) (c : mx_C) (h : mx_H) (bt : List Nat) (s : sto) : Prop := ∃ x x2 A3 A4 sl, cSt h x x2 A3 A4 bt s ∧ mSt h sl s ∧ rm_buf h bt ∧ KD h ∧ oT7 h ∧ h[0]? = some c ∧ wfS n s
theorem mSt_p {h : mx_H} {sl : slt} {s : sto} (M : mSt h sl s) {p : prs} (hp : p ∈ s.1) : wfP p ∧ 0 < p.1 ∧ p.1 < 2 ^ 20 ∧ p.2.1 < 2 ^ 20 ∧ p.1 ≤ s.2.1 := by
  obtain ⟨T, H, S, ⟨-, -, hle⟩, -⟩ := M
  obtain ⟨k, hk⟩ := (hld_mem H).mp hp
  have hk8 : k < 8 := by have := (List.getElem?_eq_some_iff.mp hk).1; have := H.1; omega
  have := S k hk8
  rw [List.getD_eq_getElem?_getD, hk] at this
  exact ⟨this.2.1, this.2.2.1, this.2.2.2.1, this.2.2.2.2, hle p hp⟩
theorem iv_next {n d1 m1 d2 m2 : Nat} {L1 L2 : mx_L} {c : mx_C} {h h1 h2 : mx_H} {r1 r2 : Option Value} {x x2 A3 A4 : Nat} {bt' : List Nat} {s s' : sto} {sl sl' : slt} (hl : 102 ≤ h.length) (hKD : KD h) (hO : oT7 h) (h0 : h[0]? = some c) (G1 : mx_G d1 m1 0 L1 [] h = some (r1, h1)) (C1 : cSt h1 x x2 A3 A4 bt' s') (M1 : mSt h1 sl s) (hm : mo_in m2 = true) (hL : gL L2) (G2 : mx_G d2 m2 0 L2 [] h1 = some (r2, h2)) (M2 : mSt h2 sl' s') (B2 : rm_buf h2 bt') (w : wfS (n + 1) s') : IV (n + 1) c h2 bt' s' ∧ mw h2 = mw h1 := by
  have f := mo_G hm hL (fun v hv => by cases hv) (gH_mr M1.1) G2
  have hn : mt_nO = 63 := by decide
  have o1 := mx_oldG G1
  have o2 := mx_oldG G2
  have hl1 := C1.2.1
  have old : ∀ a, a < 63 → h2[a]? = h[a]? := fun a ha => (o2 a (by omega) (by omega)).trans (o1 a (by omega) (by omega))
  refine ⟨⟨x, x2, A3, A4, sl', cSt_FM C1 f, M2, B2, ⟨(old 5 (by decide)).trans hKD.1, (old 6 (by decide)).trans hKD.2⟩, fun a ha => ?_, (old 0 (by decide)).trans h0, w⟩, ?_⟩
  · unfold mx_tag
    rw [old a ha]
    exact hO a ha
  · unfold mw
    rw [f.2.1, f.2.2.1]
theorem nodup_up {l : List Nat} (h : l.Pairwise (· < ·)) : l.Nodup := h.imp (fun z => Nat.ne_of_lt z)
theorem wfS_set {n : Nat} {s : sto} {old p : prs} (w : wfS n s) (ho : old ∈ s.1) : wfS (n + 1) (s_set s old p).2 := by
  unfold s_set
  split
  · exact w.up
  · split
    · exact w.up
    · refine ⟨by have := w.1; show s.2.1 ≤ n + 1; omega, fun q hq => ?_, ?_⟩
      · have hq : q ∈ pSet s.1 (sVr p (old.2.1 + 1)) := hq
        unfold pSet at hq
        obtain ⟨y, hy, e⟩ := List.mem_map.mp hq
        have := w.2.1 y hy
        have := w.2.1 old ho
        split at e
        · rw [← e]; show old.2.1 + 1 ≤ n + 1 + 1; omega
        · rw [← e]; omega
      · show (ids (pSet s.1 _)).Pairwise _
        rw [pSet_ids]
        exact w.2.2
theorem s_chk_some {s : sto} {id ver : Int} {e : Int} {old : prs} (h : s_chk s id ver = (e, some old)) : old ∈ s.1 := by
  unfold s_chk at h
  split at h
  · cases h
  · rename_i p hp
    split at h
    · cases h
    · cases h
      exact (pOf_some hp).1
theorem wfS_create {n : Nat} {s : sto} {ts : List tk} {g : Bool} (w : wfS n s) (hle : ∀ p ∈ s.1, p.1 ≤ s.2.1) : wfS (n + 1) (s_create ts g s).2 := by
  unfold s_create
  split
  · exact w.up
  · split
    · exact w.up
    · rename_i p hp
      split
      · exact w.up
      · split
        · exact w.up
        · have hi := fP_idc hp
          refine ⟨by show s.2.1 + 1 ≤ n + 1; have := w.1; omega, fun q hq => ?_, ?_⟩
          · rcases List.mem_append.mp hq with z | z
            · have := w.2.1 q z; omega
            · rw [List.mem_singleton] at z; rw [z, hi.2.1]; omega
          · show (ids (s.1 ++ [p])).Pairwise _
            unfold ids
            rw [List.map_append, List.pairwise_append]
            refine ⟨w.2.2, by simp, fun a ha b hb => ?_⟩
            obtain ⟨y, hy, e⟩ := List.mem_map.mp ha
            rw [List.map_singleton, List.mem_singleton] at hb
            rw [hb, ← e, hi.1]
            have := hle y hy
            omega
theorem wfS_replace {n : Nat} {s : sto} {ts : List tk} {g : Bool} {id ver : Int} (w : wfS n s) : wfS (n + 1) (s_replace ts g s id ver).2 := by
  unfold s_replace
  split
  · exact w.up
  · rename_i e old hc
    split
    · exact w.up
    · split
      · exact w.up
      · exact wfS_set w (s_chk_some hc)
theorem wfS_patch {n : Nat} {s : sto} {ts : List tk} {g : Bool} {id ver : Int} (w : wfS n s) : wfS (n + 1) (s_patch ts g s id ver).2 := by
  unfold s_patch
  split
  · exact w.up
  · rename_i e old hc
    split
    · exact w.up
    · split
      split
      · exact wfS_set w (s_chk_some hc)
      · exact w.up
theorem wfS_remove {n : Nat} {s : sto} {id ver : Int} (w : wfS n s) : wfS (n + 1) (s_remove s id ver).2 := by
  unfold s_remove
  split
  · exact w.up
  · refine ⟨by have := w.1; show s.2.1 ≤ n + 1; omega, fun p hp => by have := w.2.1 p (List.mem_filter.mp hp).1; omega, ?_⟩
    exact w.2.2.sublist (List.Sublist.map _ List.filter_sublist)
theorem wfS_query {n : Nat} {s : sto} {ts : List tk} {g dn : Bool} {a b c : Int} (w : wfS n s) : wfS (n + 1) (s_query ts g s a dn b c).2 := by
  unfold s_query
  split
  · exact w.up
  · split
    · exact w.up
    · split
      · exact w.up
      · exact ⟨by have := w.1; show s.2.1 ≤ n + 1; omega, fun p hp => by have := w.2.1 p hp; omega, w.2.2⟩
