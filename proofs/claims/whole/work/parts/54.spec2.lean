section
variable {ts : List tk}
/-- a member's name, its capital letters small -/
def nmf (ts : List tk) (m : Nat) : List Nat := (tA ts m).2.map sml
/-- no two have one name -/
def dst (ts : List tk) : List Nat → Bool
  | [] => true
  | m :: l => (l.all fun u => nmf ts m != nmf ts u) && dst ts l
/-- the value at t, no object in it with two members of one name -/
def pV (ts : List tk) : Nat → Nat → Option Nat
  | 0, t => if 0 < sc ts t then some (t + 1) else none
  | n + 1, t => if tI ts t 123 = true then (if tI ts (t + 1) 125 = true then some (t + 2) else (pP (pV ts n) ts true 120 (t + 1)).bind fun q => if dst ts q.1 = true then some q.2 else none)
    else if tI ts t 91 = true then (if tI ts (t + 1) 93 = true then some (t + 2) else (pP (pV ts n) ts false 120 (t + 1)).map fun q => q.2)
    else if 0 < sc ts t then some (t + 1) else none
/-- the parts of the object or array at t -/
def kd (ts : List tk) (t : Nat) : List Nat := ((if tI ts t 123 = true then pP (pE ts 3) ts true 120 (t + 1) else if tI ts t 91 = true then pP (pE ts 3) ts false 120 (t + 1) else none).map fun q => q.1).getD []
def sgl (ts : List tk) (a b : Nat) : Prop := ∀ o, a ≤ o → o < b → tI ts o 123 = true → dst ts (kd ts o) = true
theorem sgl_app {a b c : Nat} (h1 : a ≤ b) (h2 : b ≤ c) : sgl ts a c ↔ sgl ts a b ∧ sgl ts b c := by
  refine ⟨fun h => ⟨fun o a1 a2 => h o a1 (by omega), fun o a1 a2 => h o (by omega) a2⟩, fun h o a1 a2 => ?_⟩
  rcases Nat.lt_or_ge o b with z | z
  · exact h.1 o a1 z
  · exact h.2 o z a2
theorem sgl_1 {a : Nat} (h : (tA ts a).1 ≠ 123) : sgl ts a (a + 1) := by
  intro o a1 a2 a3
  have : o = a := by omega
  subst this
  rw [tI_eq] at a3
  exact absurd a3 h
theorem sgl_skip {a b : Nat} (h : (tA ts a).1 ≠ 123) (hab : a + 1 ≤ b) : sgl ts a b ↔ sgl ts (a + 1) b := by
  rw [sgl_app (Nat.le_succ a) hab]
  exact ⟨fun h => h.2, fun z => ⟨sgl_1 h, z⟩⟩
theorem kd_obj {n t : Nat} {q : List Nat × Nat} (hn : n ≤ 3) (h1 : tI ts t 123 = true) (h : pP (pE ts n) ts true 120 (t + 1) = some q) : kd ts t = q.1 := by
  unfold kd
  rw [if_pos h1, pP_mono (fun t e h => pE_mono hn h) _ _ _ h]
  rfl
theorem kd_arr {n t : Nat} {q : List Nat × Nat} (hn : n ≤ 3) (h1 : tI ts t 91 = true) (h : pP (pE ts n) ts false 120 (t + 1) = some q) : kd ts t = q.1 := by
  unfold kd
  have : tI ts t 123 = false := by rw [tI_ne]; rw [tI_eq] at h1; omega
  rw [if_neg (by rw [this]; decide), if_pos h1, pP_mono (fun t e h => pE_mono hn h) _ _ _ h]
  rfl
theorem kd_obj0 {t : Nat} (h1 : tI ts t 123 = true) (h : tI ts (t + 1) 125 = true) : kd ts t = [] := by
  unfold kd
  rw [if_pos h1, pP]
  have : isMem ts (t + 1) = false := by
    unfold isMem
    rw [tI_eq] at h
    rw [decide_eq_false (by omega)]
    rfl
  rw [this]
  rfl
theorem kd_arr0 {t : Nat} (h1 : tI ts t 91 = true) (h : tI ts (t + 1) 93 = true) : kd ts t = [] := by
  unfold kd
  have z : tI ts t 123 = false := by rw [tI_ne]; rw [tI_eq] at h1; omega
  have y1 : tI ts (t + 1) 123 = false := by rw [tI_ne]; rw [tI_eq] at h; omega
  have y2 : tI ts (t + 1) 91 = false := by rw [tI_ne]; rw [tI_eq] at h; omega
  have y3 : ¬ 0 < sc ts (t + 1) := fun w => by have := sc_small w; rw [tI_eq] at h; omega
  rw [if_neg (by rw [z]; decide), if_pos h1, pP, if_neg (by simp), show mv false (t + 1) = t + 1 from rfl, pE, if_neg (by rw [y1]; decide), if_neg (by rw [y2]; decide), if_neg y3]
  rfl
theorem cl_ne (o : Bool) : cl o ≠ 123 := by cases o <;> decide
theorem pV_P {n : Nat} {o : Bool} (ih : ∀ t e, pE ts n t = some e → (pV ts n t = some e ∧ sgl ts t e) ∨ (pV ts n t = none ∧ ¬ sgl ts t e)) : ∀ f k q, pP (pE ts n) ts o f k = some q → (pP (pV ts n) ts o f k = some q ∧ sgl ts k q.2) ∨ (pP (pV ts n) ts o f k = none ∧ ¬ sgl ts k q.2) := by
  intro f
  induction f with
  | zero => intro k q h; cases h
  | succ f ihf =>
    intro k q h
    have bd := pP_bd (pE_bd n) _ _ _ h
    obtain ⟨hm, e, z, h⟩ := pP_inv h
    obtain ⟨e1, e2⟩ := pE_bd _ _ _ z
    have e3 := mv_ge o k
    have hk : ∀ b, mv o k ≤ b → (sgl ts k b ↔ sgl ts (mv o k) b) := by
      intro b hb
      cases o with
      | false => exact Iff.rfl
      | true =>
        obtain ⟨m1, m2⟩ := isMem_1 (hm rfl)
        rw [tI_eq] at m2
        have hb' : k + 2 ≤ b := hb
        rw [sgl_skip (by omega) (by omega), sgl_skip (by omega) (by omega)]
        rfl
    have eq : e < q.2 := by
      rcases h with ⟨y, h⟩ | ⟨-, -, q', w, h⟩
      · subst h; exact Nat.lt_succ_self e
      · subst h; have := pP_bd (pE_bd n) _ _ _ w; show e < q'.2; omega
    rw [hk _ (by omega), sgl_app (b := e) (by omega) (by omega)]
    rcases ih _ _ z with ⟨v1, v2⟩ | ⟨v1, v2⟩
    · rcases h with ⟨y, h⟩ | ⟨y1, y2, q', w, h⟩
      · subst h
        left
        refine ⟨pP_1 hm v1 y, v2, ?_⟩
        rw [tI_eq] at y
        exact sgl_1 (by rw [y]; exact cl_ne o)
      · subst h
        have bw := pP_bd (pE_bd n) _ _ _ w
        rw [tI_eq] at y2
        rw [sgl_skip (a := e) (by omega) (by simp only; omega), pP_2 hm v1 y1 (by rw [tI_eq]; exact y2)]
        rcases ihf _ _ w with ⟨u1, u2⟩ | ⟨u1, u2⟩
        · left; rw [u1]; exact ⟨rfl, v2, u2⟩
        · right; rw [u1]; exact ⟨rfl, fun x => u2 x.2⟩
    · right
      refine ⟨?_, fun x => v2 x.1⟩
      rw [pP]
      split
      · rfl
      · rw [v1]
theorem pV_E : ∀ n, n ≤ 3 → ∀ t e, pE ts n t = some e → (pV ts n t = some e ∧ sgl ts t e) ∨ (pV ts n t = none ∧ ¬ sgl ts t e) := by
  intro n
  induction n with
  | zero =>
    intro _ t e h
    left
    refine ⟨h, ?_⟩
    rw [pE_0] at h
    split at h
    · rename_i z; cases h; exact sgl_1 (by have := sc_small z; omega)
    · cases h
  | succ n ih =>
    intro hn t e h
    have ih := ih (by omega)
    rw [pE] at h
    rw [pV]
    split at h
    · rename_i y
      rw [if_pos y]
      have hs : ∀ b, t < b → (sgl ts t b ↔ dst ts (kd ts t) = true ∧ sgl ts (t + 1) b) := by
        intro b hb
        rw [sgl_app (Nat.le_succ t) hb]
        refine ⟨fun x => ⟨x.1 t (Nat.le_refl _) (by omega) y, x.2⟩, fun x => ⟨fun o a1 a2 _ => ?_, x.2⟩⟩
        have : o = t := by omega
        rw [this]; exact x.1
      split at h
      · rename_i y'
        cases h
        left
        rw [if_pos y']
        refine ⟨rfl, ?_⟩
        rw [hs _ (by omega), kd_obj0 y y']
        refine ⟨rfl, sgl_1 ?_⟩
        rw [tI_eq] at y'; omega
      · rename_i y'
        rw [if_neg y']
        cases w : pP (pE ts n) ts true 120 (t + 1) with
        | none => rw [w] at h; cases h
        | some q =>
          rw [w] at h; cases h
          have bd := pP_bd (pE_bd n) _ _ _ w
          rw [hs _ (by simp only; omega), kd_obj (by omega) y w]
          rcases pV_P ih _ _ _ w with ⟨u1, u2⟩ | ⟨u1, u2⟩
          · rw [u1]
            by_cases hd : dst ts q.1 = true
            · left; exact ⟨by show (if dst ts q.1 = true then some q.2 else none) = _; rw [if_pos hd], hd, u2⟩
            · right; exact ⟨by show (if dst ts q.1 = true then some q.2 else none) = _; rw [if_neg hd], fun x => hd x.1⟩
          · right; rw [u1]; exact ⟨rfl, fun x => u2 x.2⟩
    · rename_i y
      rw [if_neg y]
      have hs : ∀ b, t + 1 ≤ b → (sgl ts t b ↔ sgl ts (t + 1) b) := fun b hb => sgl_skip (fun z => y (tI_eq.2 z)) hb
      split at h
      · rename_i y1
        rw [if_pos y1]
        split at h
        · rename_i y'
          cases h
          left
          rw [if_pos y', hs _ (by omega)]
          refine ⟨rfl, sgl_1 ?_⟩
          rw [tI_eq] at y'; omega
        · rename_i y'
          rw [if_neg y']
          cases w : pP (pE ts n) ts false 120 (t + 1) with
          | none => rw [w] at h; cases h
          | some q =>
            rw [w] at h; cases h
            have bd := pP_bd (pE_bd n) _ _ _ w
            rw [hs _ (by simp only; omega)]
            rcases pV_P ih _ _ _ w with ⟨u1, u2⟩ | ⟨u1, u2⟩
            · left; rw [u1]; exact ⟨rfl, u2⟩
            · right; rw [u1]; exact ⟨rfl, u2⟩
      · rename_i y1
        rw [if_neg y1]
        split at h
        · rename_i z
          cases h
          left
          rw [if_pos z]
          exact ⟨rfl, sgl_1 (by have := sc_small z; omega)⟩
        · cases h
theorem pV_pE : ∀ n t e, n ≤ 3 → pV ts n t = some e → pE ts n t = some e := by
  intro n
  induction n with
  | zero => intro t e _ h; exact h
  | succ n ih =>
    intro t e hn h
    have ih' : ∀ t e, pV ts n t = some e → pE ts n t = some e := fun t e => ih t e (by omega)
    rw [pV] at h
    rw [pE]
    split at h
    · rename_i y
      rw [if_pos y]
      split at h
      · rename_i y'; rw [if_pos y']; exact h
      · rename_i y'
        rw [if_neg y']
        cases w : pP (pV ts n) ts true 120 (t + 1) with
        | none => rw [w] at h; cases h
        | some q =>
          rw [w] at h
          rw [pP_mono ih' _ _ _ w]
          have h' : (if dst ts q.1 = true then some q.2 else none) = some e := h
          split at h'
          · exact h'
          · cases h'
    · rename_i y
      rw [if_neg y]
      split at h
      · rename_i y1
        rw [if_pos y1]
        split at h
        · rename_i y'; rw [if_pos y']; exact h
        · rename_i y'
          rw [if_neg y']
          cases w : pP (pV ts n) ts false 120 (t + 1) with
          | none => rw [w] at h; cases h
          | some q => rw [w] at h; rw [pP_mono ih' _ _ _ w]; exact h
      · rename_i y1
        rw [if_neg y1]
        exact h
/-- the parts follow each other, a comma between them -/
def chn (ts : List tk) (n : Nat) (o : Bool) : List Nat → Prop
  | [] => True
  | m :: l => (o = true → isMem ts m = true) ∧ (∃ e, pE ts n (mv o m) = some e ∧ (l = [] → tI ts e 44 = false) ∧ ∀ m' l', l = m' :: l' → tI ts e 44 = true ∧ m' = e + 1) ∧ chn ts n o l
theorem pP_head {rc : Nat → Option Nat} {o : Bool} {f k : Nat} {q : List Nat × Nat} (h : pP rc ts o f k = some q) : ∃ l, q.1 = k :: l := by
  cases f with
  | zero => cases h
  | succ f =>
    obtain ⟨-, e, -, ⟨-, h⟩ | ⟨-, -, q', w, h⟩⟩ := pP_inv h
    · subst h; exact ⟨[], rfl⟩
    · subst h; exact ⟨q'.1, rfl⟩
theorem cl_44 {o : Bool} {e : Nat} (h : tI ts e (cl o) = true) : tI ts e 44 = false := by
  rw [tI_eq] at h
  rw [tI_ne, h]
  cases o <;> decide
theorem pP_chn {n : Nat} {o : Bool} : ∀ f k q, pP (pE ts n) ts o f k = some q → chn ts n o q.1 := by
  intro f
  induction f with
  | zero => intro k q h; cases h
  | succ f ih =>
    intro k q h
    obtain ⟨hm, e, z, ⟨y, h⟩ | ⟨y1, y2, q', w, h⟩⟩ := pP_inv h
    · subst h
      exact ⟨hm, ⟨e, z, fun _ => cl_44 y, fun _ _ h => by cases h⟩, True.intro⟩
    · subst h
      obtain ⟨l, hl⟩ := pP_head w
      have := ih _ _ w
      refine ⟨hm, ⟨e, z, fun h => ?_, fun m' l' h => ?_⟩, this⟩
      · rw [hl] at h; cases h
      · rw [hl] at h; cases h; exact ⟨y2, rfl⟩
/-- of a value that is an object -/
theorem kd_chn {t : Nat} : (tI ts t 123 = true → chn ts 3 true (kd ts t)) ∧ (tI ts t 91 = true → chn ts 3 false (kd ts t)) := by
  refine ⟨fun _ => ?_, fun _ => ?_⟩
  · unfold kd
    rename_i y
    rw [if_pos y]
    cases w : pP (pE ts 3) ts true 120 (t + 1) with
    | none => exact True.intro
    | some q => exact pP_chn _ _ _ w
  · unfold kd
    rename_i y
    rw [if_neg (by rw [tI_eq] at y ⊢; omega), if_pos y]
    cases w : pP (pE ts 3) ts false 120 (t + 1) with
    | none => exact True.intro
    | some q => exact pP_chn _ _ _ w
/-- where the parts begin -/
theorem kd_hd {n t e : Nat} (hn : n ≤ 3) (h : pE ts n t = some e) : (tI ts t 123 = true → (kd ts t = [] ∧ tI ts (t + 1) 125 = true) ∨ (∃ l, kd ts t = (t + 1) :: l ∧ tI ts (t + 1) 125 = false ∧ tI ts (t + 1) 93 = false)) ∧ (tI ts t 91 = true → (kd ts t = [] ∧ tI ts (t + 1) 93 = true) ∨ (∃ l, kd ts t = (t + 1) :: l ∧ tI ts (t + 1) 125 = false ∧ tI ts (t + 1) 93 = false)) := by
  refine ⟨fun y => ?_, fun y => ?_⟩
  · cases n with
    | zero =>
      rw [pE_0] at h
      split at h
      · rename_i z; have := sc_small z; rw [tI_eq] at y; omega
      · cases h
    | succ n =>
      rw [pE, if_pos y] at h
      split at h
      · rename_i y'; exact Or.inl ⟨kd_obj0 y y', y'⟩
      · rename_i y'
        cases w : pP (pE ts n) ts true 120 (t + 1) with
        | none => rw [w] at h; cases h
        | some q =>
          obtain ⟨l, hl⟩ := pP_head w
          refine Or.inr ⟨l, by rw [kd_obj (by omega) y w, hl], by simpa using y', ?_⟩
          obtain ⟨hm, -⟩ := pP_inv w
          have := (isMem_1 (hm rfl)).1
          rw [tI_ne]; omega
  · have y0 : ¬ tI ts t 123 = true := by rw [tI_eq] at y ⊢; omega
    cases n with
    | zero =>
      rw [pE_0] at h
      split at h
      · rename_i z; have := sc_small z; rw [tI_eq] at y; omega
      · cases h
    | succ n =>
      rw [pE, if_neg y0, if_pos y] at h
      split at h
      · rename_i y'; exact Or.inl ⟨kd_arr0 y y', y'⟩
      · rename_i y'
        cases w : pP (pE ts n) ts false 120 (t + 1) with
        | none => rw [w] at h; cases h
        | some q =>
          obtain ⟨l, hl⟩ := pP_head w
          refine Or.inr ⟨l, by rw [kd_arr (by omega) y w, hl], ?_, by simpa using y'⟩
          obtain ⟨-, e', z, -⟩ := pP_inv w
          rw [tI_ne]
          intro x
          have z : pE ts n (t + 1) = some e' := z
          have a1 : ¬ tI ts (t + 1) 123 = true := by rw [tI_eq]; omega
          have a2 : ¬ tI ts (t + 1) 91 = true := by rw [tI_eq]; omega
          have a3 : ¬ 0 < sc ts (t + 1) := fun w => by have := sc_small w; omega
          cases n with
          | zero => rw [pE_0, if_neg a3] at z; cases z
          | succ n => rw [pE, if_neg a1, if_neg a2, if_neg a3] at z; cases z
end
section
variable {ts : List tk}
theorem sub_P {n : Nat} {o : Bool} (ih : ∀ t e, pE ts n t = some e → ∀ x, t ≤ x → x < e → tI ts x 123 = true → ∃ e', pE ts 3 x = some e') : ∀ f k q, pP (pE ts n) ts o f k = some q → ∀ x, k ≤ x → x < q.2 → tI ts x 123 = true → ∃ e', pE ts 3 x = some e' := by
  intro f
  induction f with
  | zero => intro k q h; cases h
  | succ f ihf =>
    intro k q h x h1 h2 h3
    obtain ⟨hm, e, z, h⟩ := pP_inv h
    by_cases c1 : x < mv o k
    · cases o with
      | false => have : x < k := c1; omega
      | true =>
        have c1 : x < k + 2 := c1
        obtain ⟨m1, m2⟩ := isMem_1 (hm rfl)
        rw [tI_eq] at m2 h3
        have : x = k ∨ x = k + 1 := by omega
        rcases this with e | e <;> (subst e; omega)
    · by_cases c2 : x < e
      · exact ih _ _ z x (by omega) c2 h3
      · rcases h with ⟨y, h⟩ | ⟨-, y, q', w, h⟩
        · subst h
          have h2 : x < e + 1 := h2
          have : x = e := by omega
          subst this
          rw [tI_eq] at y h3
          exact absurd (y.symm.trans h3) (cl_ne o)
        · subst h
          by_cases c3 : x = e
          · subst c3; rw [tI_eq] at y h3; omega
          · exact ihf _ _ w x (by omega) h2 h3
theorem sub_E : ∀ n, n ≤ 3 → ∀ t e, pE ts n t = some e → ∀ x, t ≤ x → x < e → tI ts x 123 = true → ∃ e', pE ts 3 x = some e' := by
  intro n
  induction n with
  | zero =>
    intro _ t e h x h1 h2 h3
    rw [pE_0] at h
    split at h
    · rename_i z
      cases h
      have : x = t := by omega
      subst this
      rw [sc_tI z (by decide)] at h3; cases h3
    · cases h
  | succ n ih =>
    intro hn t e h x h1 h2 h3
    by_cases ex : x = t
    · subst ex; exact ⟨e, pE_mono hn h⟩
    · rw [pE] at h
      split at h
      · split at h
        · rename_i y; cases h; have : x = t + 1 := by omega
          subst this; rw [tI_eq] at y h3; omega
        · cases w : pP (pE ts n) ts true 120 (t + 1) with
          | none => rw [w] at h; cases h
          | some q => rw [w] at h; cases h; exact sub_P (ih (by omega)) _ _ _ w x (by omega) h2 h3
      · split at h
        · split at h
          · rename_i y; cases h; have : x = t + 1 := by omega
            subst this; rw [tI_eq] at y h3; omega
          · cases w : pP (pE ts n) ts false 120 (t + 1) with
            | none => rw [w] at h; cases h
            | some q => rw [w] at h; cases h; exact sub_P (ih (by omega)) _ _ _ w x (by omega) h2 h3
        · split at h
          · rename_i z
            cases h
            have : x = t := by omega
            exact absurd this ex
          · cases h
/-- a part's value is one level down -/
theorem chn_mem {n : Nat} {o : Bool} : ∀ {l : List Nat}, chn ts n o l → ∀ m ∈ l, (o = true → isMem ts m = true) ∧ ∃ e, pE ts n (mv o m) = some e := by
  intro l
  induction l with
  | nil => intro _ m hm; cases hm
  | cons a l ih =>
    intro hc m hm
    rcases List.mem_cons.1 hm with e | e
    · subst e; exact ⟨hc.1, hc.2.1.choose, hc.2.1.choose_spec.1⟩
    · exact ih hc.2.2 m e
end
