/-! The model's eight places, and the people in them. -/
abbrev slt : Type := List (Option prs)
def ppl (s : slt) : List prs := s.filterMap fun x => x
theorem ppl_set : ∀ (s : slt) (k : Nat) (x y : Option prs), s[k]? = some x → ∃ R, (ppl s).Perm (x.toList ++ R) ∧ (ppl (s.set k y)).Perm (y.toList ++ R) := by
  intro s
  induction s with
  | nil => intro k x y h; cases h
  | cons a s ih =>
    intro k x y h
    cases k with
    | zero =>
      cases h
      refine ⟨ppl s, ?_, ?_⟩
      · cases a <;> exact List.Perm.refl _
      · cases y <;> exact List.Perm.refl _
    | succ k =>
      obtain ⟨R, h1, h2⟩ := ih k x y h
      have e : ∀ (o : Option prs) (L M : List prs), L.Perm (o.toList ++ M) → (ppl (a :: [])  ++ L).Perm (o.toList ++ (ppl (a :: []) ++ M)) := by
        intro o L M hp
        refine (List.Perm.append_left _ hp).trans ?_
        rw [← List.append_assoc, ← List.append_assoc]
        exact List.Perm.append_right _ List.perm_append_comm
      have d : ∀ t, ppl (a :: t) = ppl (a :: []) ++ ppl t := by intro t; unfold ppl; rw [← List.filterMap_append]; rfl
      refine ⟨ppl (a :: []) ++ R, ?_, ?_⟩
      · rw [d]; exact e x _ _ h1
      · rw [List.set_cons_succ, d]; exact e y _ _ h2
theorem pOf_some {ps : List prs} {id : Int} {p : prs} (h : pOf ps id = some p) : p ∈ ps ∧ (p.1 : Int) = id := by
  unfold pOf at h
  exact ⟨List.mem_of_find?_eq_some h, by have := List.find?_some h; simpa using this⟩
theorem pOf_none {ps : List prs} {id : Int} (h : pOf ps id = none) : ∀ p ∈ ps, (p.1 : Int) ≠ id := by
  unfold pOf at h
  intro p hp e
  have := List.find?_eq_none.1 h p hp
  simp [e] at this
theorem nodup_inj : ∀ {ps : List prs}, (ids ps).Nodup → ∀ {a b : prs}, a ∈ ps → b ∈ ps → a.1 = b.1 → a = b := by
  intro ps
  induction ps with
  | nil => intro _ a b ha; cases ha
  | cons x ps ih =>
    intro hn a b ha hb e
    unfold ids at hn
    simp only [List.map_cons, List.nodup_cons] at hn
    have nm : ∀ y ∈ ps, y.1 ≠ x.1 := fun y hy e => hn.1 (List.mem_map.2 ⟨y, hy, e⟩)
    rcases List.mem_cons.1 ha with ha' | ha'
    · rcases List.mem_cons.1 hb with hb' | hb'
      · rw [ha', hb']
      · exact absurd (by rw [← e, ha']) (nm b hb')
    · rcases List.mem_cons.1 hb with hb' | hb'
      · exact absurd (by rw [e, hb']) (nm a ha')
      · exact ih hn.2 ha' hb' e
theorem pOf_mem {ps : List prs} (hn : (ids ps).Nodup) {p : prs} (h : p ∈ ps) : pOf ps (p.1 : Int) = some p := by
  cases z : pOf ps (p.1 : Int) with
  | none => exact absurd rfl (pOf_none z p h)
  | some q =>
    obtain ⟨a, b⟩ := pOf_some z
    rw [nodup_inj hn a h (by omega)]
theorem perm_out {ps R : List prs} {p : prs} (hn : (ids ps).Nodup) (h : ps.Perm (p :: R)) : R.Perm (ps.filter fun x => decide (x.1 ≠ p.1)) := by
  have hn' : (ids (p :: R)).Nodup := (h.map _).nodup hn
  unfold ids at hn'
  simp only [List.map_cons, List.nodup_cons] at hn'
  have := h.filter fun x => decide (x.1 ≠ p.1)
  rw [List.filter_cons_of_neg (by simp)] at this
  have e : R.filter (fun x => decide (x.1 ≠ p.1)) = R := by
    rw [List.filter_eq_self]
    intro y hy
    exact decide_eq_true fun e => hn'.1 (List.mem_map.2 ⟨y, hy, e⟩)
  rw [e] at this
  exact this.symm
theorem pSet_perm : ∀ {ps : List prs} {p : prs}, (ids ps).Nodup → p.1 ∈ ids ps → (pSet ps p).Perm (p :: ps.filter fun x => decide (x.1 ≠ p.1)) := by
  intro ps
  induction ps with
  | nil => intro p _ h; cases h
  | cons x ps ih =>
    intro p hn h
    unfold ids at hn h
    simp only [List.map_cons, List.nodup_cons] at hn
    unfold pSet
    simp only [List.map_cons]
    by_cases e : x.1 = p.1
    · rw [if_pos e, List.filter_cons_of_neg (by simp [e])]
      have e2 : (ps.map fun x => if x.1 = p.1 then p else x) = ps := by
        rw [List.map_congr_left (g := fun x => x), List.map_id']
        intro y hy
        rw [if_neg fun e' => hn.1 (List.mem_map.2 ⟨y, hy, by rw [e', e]⟩)]
      have e3 : ps.filter (fun x => decide (x.1 ≠ p.1)) = ps := by
        rw [List.filter_eq_self]
        intro y hy
        exact decide_eq_true fun e' => hn.1 (List.mem_map.2 ⟨y, hy, by rw [e', e]⟩)
      rw [e2, e3]
    · rw [if_neg e, List.filter_cons_of_pos (by simp [e])]
      have hm : p.1 ∈ ids ps := by
        simp only [List.map_cons, List.mem_cons] at h
        rcases h with h | h
        · exact absurd h.symm e
        · exact h
      exact ((ih hn.2 hm).cons x).trans (List.Perm.swap _ _ _)
theorem pSet_ids (ps : List prs) (p : prs) : ids (pSet ps p) = ids ps := by
  unfold ids pSet
  rw [List.map_map]
  apply List.map_congr_left
  intro y _
  show (if y.1 = p.1 then p else y).1 = y.1
  split
  · rename_i e; exact e.symm
  · rfl
theorem tkn_perm {ps qs : List prs} (h : ps.Perm qs) (p : prs) : tkn ps p = tkn qs p := by
  unfold tkn
  rw [Bool.eq_iff_iff, List.any_eq_true, List.any_eq_true]
  exact ⟨fun ⟨x, a, b⟩ => ⟨x, h.mem_iff.1 a, b⟩, fun ⟨x, a, b⟩ => ⟨x, h.mem_iff.2 a, b⟩⟩
/-- the places hold the people -/
def hld (s : slt) (ps : List prs) : Prop := s.length = 8 ∧ (ppl s).Perm ps ∧ (ids ps).Nodup ∧ ∀ p ∈ ps, 0 < p.1
theorem hld_len {s : slt} {ps : List prs} (h : hld s ps) : (ppl s).length = ps.length := h.2.1.length_eq
theorem hld_mem {s : slt} {ps : List prs} (h : hld s ps) {p : prs} : p ∈ ps ↔ ∃ k : Nat, s[k]? = some (some p) := by
  rw [← h.2.1.mem_iff]
  unfold ppl
  rw [List.mem_filterMap]
  constructor
  · rintro ⟨a, ha, e⟩
    subst e
    obtain ⟨k, hk, e⟩ := List.getElem_of_mem ha
    exact ⟨k, by rw [List.getElem?_eq_getElem hk, e]⟩
  · rintro ⟨k, e⟩
    exact ⟨some p, List.mem_of_getElem? e, rfl⟩
theorem hld_add {s : slt} {ps : List prs} {k : Nat} {p : prs} (h : hld s ps) (hk : s[k]? = some none) (h0 : 0 < p.1) (hp : p.1 ∉ ids ps) : hld (s.set k (some p)) (ps ++ [p]) := by
  obtain ⟨R, h1, h2⟩ := ppl_set s k none (some p) hk
  refine ⟨by rw [List.length_set]; exact h.1, ?_, ?_, ?_⟩
  · refine h2.trans ((List.Perm.cons p (h1.symm.trans h.2.1)).trans ?_)
    exact (List.perm_append_singleton p ps).symm
  · unfold ids
    rw [List.map_append]
    refine ((List.perm_append_singleton p.1 (ps.map fun p => p.1)).symm).nodup ?_
    rw [List.nodup_cons]
    exact ⟨hp, h.2.2.1⟩
  · intro q hq
    rcases List.mem_append.1 hq with z | z
    · exact h.2.2.2 q z
    · rw [List.mem_singleton.1 z]; exact h0
theorem hld_del {s : slt} {ps : List prs} {k : Nat} {p : prs} (h : hld s ps) (hk : s[k]? = some (some p)) : hld (s.set k none) (ps.filter fun x => decide (x.1 ≠ p.1)) := by
  obtain ⟨R, h1, h2⟩ := ppl_set s k (some p) none hk
  refine ⟨by rw [List.length_set]; exact h.1, h2.trans (perm_out h.2.2.1 (h.2.1.symm.trans h1)), ?_, ?_⟩
  · unfold ids
    exact List.Nodup.sublist (List.Sublist.map _ List.filter_sublist) h.2.2.1
  · intro q hq
    exact h.2.2.2 q (List.mem_filter.1 hq).1
theorem hld_upd {s : slt} {ps : List prs} {k : Nat} {p q : prs} (h : hld s ps) (hk : s[k]? = some (some p)) (e : q.1 = p.1) : hld (s.set k (some q)) (pSet ps q) := by
  obtain ⟨R, h1, h2⟩ := ppl_set s k (some p) (some q) hk
  have hm : p ∈ ps := (hld_mem h).2 ⟨k, hk⟩
  have hq : q.1 ∈ ids ps := by rw [e]; exact List.mem_map.2 ⟨p, hm, rfl⟩
  refine ⟨by rw [List.length_set]; exact h.1, ?_, by rw [pSet_ids]; exact h.2.2.1, ?_⟩
  · have := perm_out h.2.2.1 (h.2.1.symm.trans h1)
    rw [← e] at this
    exact h2.trans ((List.Perm.cons q this).trans (pSet_perm h.2.2.1 hq).symm)
  · intro x hx
    have : x.1 ∈ ids (pSet ps q) := List.mem_map.2 ⟨x, hx, rfl⟩
    rw [pSet_ids] at this
    obtain ⟨y, hy, e'⟩ := List.mem_map.1 this
    have := h.2.2.2 y hy
    omega
theorem hld_of {s : slt} {ps : List prs} (h : hld s ps) {k : Nat} {p : prs} (hk : s[k]? = some (some p)) : pOf ps (p.1 : Int) = some p := pOf_mem h.2.2.1 ((hld_mem h).2 ⟨k, hk⟩)
theorem hld_no {s : slt} {ps : List prs} (h : hld s ps) {id : Int} (hk : ∀ (k : Nat) p, s[k]? = some (some p) → (p.1 : Int) ≠ id) : pOf ps id = none := by
  cases z : pOf ps id with
  | none => rfl
  | some p =>
    obtain ⟨a, b⟩ := pOf_some z
    obtain ⟨k, e⟩ := (hld_mem h).1 a
    exact absurd b (hk k p e)
