section
variable {ts : List tk}
theorem lx_str_ok : ∀ (n : Nat) (l : List Nat), l.length ≤ n → ∀ (q : List Nat × List Nat), lx_str l = some q → (∀ c ∈ q.1, c ∈ l) ∧ ∀ c ∈ q.2, c ∈ l := by
  intro n
  induction n with
  | zero =>
    intro l hl q h
    cases l with
    | nil => cases h
    | cons c r => exact absurd hl (by simp)
  | succ n ih =>
    intro l hl q h
    match l with
    | [] => cases h
    | [c] =>
      rw [lx_str] at h
      split at h
      · cases h; simp
      · cases h
    | c :: e :: r =>
      have hl1 : (e :: r).length ≤ n := by simp only [List.length_cons] at hl ⊢; omega
      have hl2 : r.length ≤ n := by simp only [List.length_cons] at hl; omega
      rw [lx_str] at h
      split at h
      · cases h
        exact ⟨fun c hc => absurd hc (by simp), fun x hx => List.mem_cons_of_mem _ hx⟩
      · split at h
        · cases h
        · split at h
          · split at h
            · cases z : lx_str r with
              | none => rw [z] at h; cases h
              | some y =>
                rw [z] at h; cases h
                obtain ⟨a, b⟩ := ih r hl2 y z
                refine ⟨fun c hc => ?_, fun c hc => ?_⟩
                · rcases List.mem_cons.1 hc with hc | hc
                  · subst hc; simp
                  · simp [a c hc]
                · simp [b c hc]
            · cases h
          · cases z : lx_str (e :: r) with
            | none => rw [z] at h; cases h
            | some y =>
              rw [z] at h; cases h
              obtain ⟨a, b⟩ := ih _ hl1 y z
              refine ⟨fun c hc => ?_, fun c hc => ?_⟩
              · rcases List.mem_cons.1 hc with hc | hc
                · subst hc; simp
                · exact List.mem_cons_of_mem _ (a c hc)
              · exact List.mem_cons_of_mem _ (b c hc)
theorem isSig_ge {c : Nat} (h : isSig c = true) : 10 ≤ c := by
  unfold isSig at h
  simp at h
  omega
theorem lx_one_ok (c : Nat) (r : List Nat) (h : ∀ x ∈ c :: r, x < 128) : ((lx_one c r).1.1 ≠ 4 → tk_ok (lx_one c r).1) ∧ ∀ x ∈ (lx_one c r).2, x < 128 := by
  unfold lx_one
  split
  · refine ⟨fun _ => Or.inl ⟨rfl, fun x hx => ?_⟩, fun x hx => h x ((List.dropWhile_sublist _).subset hx)⟩
    obtain ⟨y, hy, e⟩ := List.mem_map.1 hx
    have : isLet y = true := by
      have := List.all_takeWhile (p := isLet) (l := c :: r)
      exact List.all_eq_true.1 this y hy
    unfold isLet at this
    simp at this
    omega
  · split
    · exact ⟨fun _ => Or.inr (Or.inl rfl), fun x hx => h x (List.mem_of_mem_drop hx)⟩
    · split
      · exact ⟨fun _ => Or.inr (Or.inl rfl), fun x hx => h x (List.mem_cons_of_mem _ (List.mem_of_mem_drop hx))⟩
      · split
        · split
          · rename_i q hq
            obtain ⟨a, b⟩ := lx_str_ok _ r (Nat.le_refl _) q hq
            exact ⟨fun _ => Or.inr (Or.inr (Or.inl ⟨rfl, fun x hx => h x (List.mem_cons_of_mem _ (a x hx))⟩)), fun x hx => h x (List.mem_cons_of_mem _ (b x hx))⟩
          · exact ⟨fun z => absurd rfl z, fun x hx => h x (List.mem_cons_of_mem _ hx)⟩
        · split
          · rename_i hs
            exact ⟨fun _ => Or.inr (Or.inr (Or.inr (isSig_ge hs))), fun x hx => h x (List.mem_cons_of_mem _ hx)⟩
          · exact ⟨fun z => absurd rfl z, fun x hx => h x (List.mem_cons_of_mem _ hx)⟩
theorem lx_ok : ∀ (n : Nat) (bs : List Nat), (∀ x ∈ bs, x < 128) → ∀ q ∈ lx n bs, q.1 ≠ 4 → tk_ok q := by
  intro n
  induction n with
  | zero => intro bs _ q hq; simp [lx] at hq
  | succ n ih =>
    intro bs hb q hq h4
    cases bs with
    | nil => simp [lx] at hq
    | cons c r =>
      rw [lx] at hq
      split at hq
      · exact ih r (fun x hx => hb x (List.mem_cons_of_mem _ hx)) q hq h4
      · obtain ⟨a, b⟩ := lx_one_ok c r hb
        rcases List.mem_cons.1 hq with z | z
        · subst z; exact a h4
        · exact ih _ b q z h4
theorem tI_eq {t c : Nat} : tI ts t c = true ↔ (tA ts t).1 = c := by unfold tI; exact beq_iff_eq
theorem tI_ne {t c : Nat} : tI ts t c = false ↔ (tA ts t).1 ≠ c := by unfold tI; exact beq_eq_false_iff_ne
theorem tA_geP {t : Nat} (h : ts.length ≤ t) : tA ts t = (0, []) := by
  unfold tA
  rw [List.getD_eq_getElem?_getD, List.getElem?_eq_none h]
  rfl
theorem tI_lt {t c : Nat} (hc : 0 < c) (h : tI ts t c = true) : t < ts.length := by
  rcases Nat.lt_or_ge t ts.length with z | z
  · exact z
  · rw [tI_eq, tA_geP z] at h
    have : (0 : Nat) = c := h
    omega
theorem sc_lt {t : Nat} (h : 0 < sc ts t) : t < ts.length := by
  rcases Nat.lt_or_ge t ts.length with z | z
  · exact z
  · unfold sc tW at h
    rw [tA_geP z] at h
    exact absurd h (by decide)
theorem sc_small {t : Nat} (h : 0 < sc ts t) : (tA ts t).1 < 4 := by
  unfold sc at h
  split at h
  · omega
  · split at h
    · omega
    · split at h
      · rename_i z
        unfold tW at z
        rcases z with z | z
        · rw [beq_iff_eq.1 z]; decide
        · rw [beq_iff_eq.1 z]; decide
      · omega
theorem sc_tI {t c : Nat} (h : 0 < sc ts t) (hc : 4 ≤ c) : tI ts t c = false := by
  have := sc_small h
  rw [tI_ne]; omega
theorem isMem_1 {t : Nat} (h : isMem ts t = true) : (tA ts t).1 = 3 ∧ tI ts (t + 1) 58 = true := by
  unfold isMem at h
  simpa using h
theorem pE_0 {t : Nat} : pE ts 0 t = if 0 < sc ts t then some (t + 1) else none := rfl
theorem pP_inv {rc : Nat → Option Nat} {o : Bool} {f k : Nat} {q : List Nat × Nat} (h : pP rc ts o (f + 1) k = some q) : (o = true → isMem ts k = true) ∧ ∃ e, rc (mv o k) = some e ∧ ((tI ts e (cl o) = true ∧ q = ([k], e + 1)) ∨ (tI ts e (cl o) = false ∧ tI ts e 44 = true ∧ ∃ q', pP rc ts o f (e + 1) = some q' ∧ q = (k :: q'.1, q'.2))) := by
  rw [pP] at h
  split at h
  · cases h
  · rename_i hm
    refine ⟨fun ho => ?_, ?_⟩
    · subst ho; simpa using hm
    · cases z : rc (mv o k) with
      | none => rw [z] at h; cases h
      | some e =>
        rw [z] at h
        simp only at h
        refine ⟨e, rfl, ?_⟩
        split at h
        · rename_i y; cases h; exact Or.inl ⟨y, rfl⟩
        · rename_i y
          split at h
          · rename_i y'
            cases w : pP rc ts o f (e + 1) with
            | none => rw [w] at h; cases h
            | some q' => rw [w] at h; cases h; exact Or.inr ⟨by simpa using y, y', q', rfl, rfl⟩
          · cases h
theorem pP_1 {rc : Nat → Option Nat} {o : Bool} {f k e : Nat} (h1 : o = true → isMem ts k = true) (h2 : rc (mv o k) = some e) (h3 : tI ts e (cl o) = true) : pP rc ts o (f + 1) k = some ([k], e + 1) := by
  rw [pP, if_neg (by cases o with | false => simp | true => simp [h1 rfl]), h2]
  simp only
  rw [if_pos h3]
theorem pP_2 {rc : Nat → Option Nat} {o : Bool} {f k e : Nat} (h1 : o = true → isMem ts k = true) (h2 : rc (mv o k) = some e) (h3 : tI ts e (cl o) = false) (h4 : tI ts e 44 = true) : pP rc ts o (f + 1) k = (pP rc ts o f (e + 1)).map fun q => (k :: q.1, q.2) := by
  rw [pP, if_neg (by cases o with | false => simp | true => simp [h1 rfl]), h2]
  simp only
  rw [if_neg (by rw [h3]; decide), if_pos h4]
theorem mv_ge (o : Bool) (k : Nat) : k ≤ mv o k := by unfold mv; split <;> omega
theorem cl_pos (o : Bool) : 0 < cl o := by unfold cl; split <;> decide
theorem pP_bd {rc : Nat → Option Nat} {o : Bool} (hrc : ∀ t e, rc t = some e → t < e ∧ e ≤ ts.length) : ∀ f k q, pP rc ts o f k = some q → k < q.2 ∧ q.2 ≤ ts.length := by
  intro f
  induction f with
  | zero => intro k q h; cases h
  | succ f ih =>
    intro k q h
    obtain ⟨-, e, z, h⟩ := pP_inv h
    obtain ⟨e1, e2⟩ := hrc _ _ z
    have := mv_ge o k
    rcases h with ⟨y, h⟩ | ⟨-, -, q', w, h⟩
    · subst h
      have := tI_lt (cl_pos o) y
      exact ⟨by simp only; omega, by simp only; omega⟩
    · subst h
      have := ih _ _ w
      exact ⟨by simp only; omega, this.2⟩
theorem pE_bd : ∀ n t e, pE ts n t = some e → t < e ∧ e ≤ ts.length := by
  intro n
  induction n with
  | zero =>
    intro t e h
    rw [pE_0] at h
    split at h
    · rename_i z; cases h; have := sc_lt z; omega
    · cases h
  | succ n ih =>
    intro t e h
    rw [pE] at h
    split at h
    · split at h
      · rename_i y; cases h; have := tI_lt (by decide) y; omega
      · cases w : pP (pE ts n) ts true 120 (t + 1) with
        | none => rw [w] at h; cases h
        | some q => rw [w] at h; cases h; have := pP_bd ih _ _ _ w; exact ⟨by simp only; omega, this.2⟩
    · split at h
      · split at h
        · rename_i y; cases h; have := tI_lt (by decide) y; omega
        · cases w : pP (pE ts n) ts false 120 (t + 1) with
          | none => rw [w] at h; cases h
          | some q => rw [w] at h; cases h; have := pP_bd ih _ _ _ w; exact ⟨by simp only; omega, this.2⟩
      · split at h
        · rename_i z; cases h; have := sc_lt z; omega
        · cases h
theorem pP_mono {rc rc' : Nat → Option Nat} {o : Bool} (hrc : ∀ t e, rc t = some e → rc' t = some e) : ∀ f k q, pP rc ts o f k = some q → pP rc' ts o f k = some q := by
  intro f
  induction f with
  | zero => intro k q h; cases h
  | succ f ih =>
    intro k q h
    obtain ⟨hm, e, z, h⟩ := pP_inv h
    rcases h with ⟨y, h⟩ | ⟨y1, y2, q', w, h⟩
    · subst h; exact pP_1 hm (hrc _ _ z) y
    · subst h
      rw [pP_2 hm (hrc _ _ z) y1 y2, ih _ _ w]
      rfl
theorem pE_mono1 : ∀ n t e, pE ts n t = some e → pE ts (n + 1) t = some e := by
  intro n
  induction n with
  | zero =>
    intro t e h
    rw [pE_0] at h
    split at h
    · rename_i z
      cases h
      rw [pE, if_neg (by rw [sc_tI z (by decide)]; decide), if_neg (by rw [sc_tI z (by decide)]; decide), if_pos z]
    · cases h
  | succ n ih =>
    intro t e h
    rw [pE] at h
    rw [pE]
    split at h
    · rename_i y
      rw [if_pos y]
      split at h
      · rename_i y'; rw [if_pos y']; exact h
      · rename_i y'
        rw [if_neg y']
        cases w : pP (pE ts n) ts true 120 (t + 1) with
        | none => rw [w] at h; cases h
        | some q => rw [w] at h; rw [pP_mono ih _ _ _ w]; exact h
    · rename_i y
      rw [if_neg y]
      split at h
      · rename_i y2
        rw [if_pos y2]
        split at h
        · rename_i y'; rw [if_pos y']; exact h
        · rename_i y'
          rw [if_neg y']
          cases w : pP (pE ts n) ts false 120 (t + 1) with
          | none => rw [w] at h; cases h
          | some q => rw [w] at h; rw [pP_mono ih _ _ _ w]; exact h
      · rename_i y2
        rw [if_neg y2]
        exact h
theorem pE_mono {n m t e : Nat} (hnm : n ≤ m) (h : pE ts n t = some e) : pE ts m t = some e := by
  induction hnm with
  | refl => exact h
  | step _ ih => exact pE_mono1 _ _ _ ih
/-- how the model counts brackets -/
theorem ov_P {α : Type} {X : Nat → Nat → Bool → α} {rc : Nat → Option Nat} {D0 : Nat}
    (hX : ∀ k D, k < ts.length → D ≤ D0 + 1 → 0 < D → (tA ts k).1 ≠ 123 → (tA ts k).1 ≠ 91 → (tA ts k).1 ≠ 125 → (tA ts k).1 ≠ 93 → X k D true = X (k + 1) D true)
    (hC : ∀ k D, D ≤ D0 → tI ts k 125 = true ∨ tI ts k 93 = true → X k (D + 1) true = X (k + 1) D (decide (0 < D)))
    (hrc : ∀ t e D, D ≤ D0 → rc t = some e → X t (D + 1) true = X e (D + 1) true) {o : Bool} : ∀ f k q D, D ≤ D0 → pP rc ts o f k = some q → X k (D + 1) true = X q.2 D (decide (0 < D)) := by
  intro f
  induction f with
  | zero => intro k q D hD h; cases h
  | succ f ih =>
    intro k q D hD h
    obtain ⟨hm, e, z, h⟩ := pP_inv h
    have h0 : X k (D + 1) true = X e (D + 1) true := by
      rw [← hrc _ _ _ hD z]
      cases o with
      | false => rfl
      | true =>
        obtain ⟨m1, m2⟩ := isMem_1 (hm rfl)
        have m3 := tI_lt (by decide) m2
        rw [tI_eq] at m2
        rw [hX k (D + 1) (by omega) (by omega) (by omega) (by omega) (by omega) (by omega) (by omega), hX (k + 1) (D + 1) (by omega) (by omega) (by omega) (by omega) (by omega) (by omega) (by omega)]
        rfl
    rw [h0]
    rcases h with ⟨y, h⟩ | ⟨-, y, q', w, h⟩
    · subst h
      exact hC _ _ hD (by cases o; exact Or.inr y; exact Or.inl y)
    · subst h
      have y1 := tI_lt (by decide) y
      rw [tI_eq] at y
      rw [hX e (D + 1) (by omega) (by omega) (by omega) (by omega) (by omega) (by omega) (by omega)]
      exact ih _ q' _ hD w
theorem ov_E {α : Type} {X : Nat → Nat → Bool → α} {B : Nat}
    (hX : ∀ k D, k < ts.length → D ≤ B → (tA ts k).1 ≠ 123 → (tA ts k).1 ≠ 91 → (tA ts k).1 ≠ 125 → (tA ts k).1 ≠ 93 → X k D true = X (k + 1) D (decide (0 < D)))
    (hO : ∀ k D, D ≤ B → tI ts k 123 = true ∨ tI ts k 91 = true → X k D true = X (k + 1) (D + 1) true)
    (hC : ∀ k D, D ≤ B → tI ts k 125 = true ∨ tI ts k 93 = true → X k (D + 1) true = X (k + 1) D (decide (0 < D))) : ∀ n t e D, D + n ≤ B → pE ts n t = some e → X t D true = X e D (decide (0 < D)) := by
  intro n
  induction n with
  | zero =>
    intro t e D hD h
    rw [pE_0] at h
    split at h
    · rename_i z
      cases h
      have := sc_small z
      exact hX t D (sc_lt z) (by omega) (by omega) (by omega) (by omega) (by omega)
    · cases h
  | succ n ih =>
    intro t e D hD h
    have hX' : ∀ k D', k < ts.length → D' ≤ D + 1 → 0 < D' → (tA ts k).1 ≠ 123 → (tA ts k).1 ≠ 91 → (tA ts k).1 ≠ 125 → (tA ts k).1 ≠ 93 → X k D' true = X (k + 1) D' true := by
      intro k D' h1 h2 h3 a b c d
      rw [hX k D' h1 (by omega) a b c d, decide_eq_true h3]
    have ih' : ∀ t e D', D' ≤ D → pE ts n t = some e → X t (D' + 1) true = X e (D' + 1) true := by
      intro t e D' h1 h2
      rw [ih t e (D' + 1) (by omega) h2, decide_eq_true (by omega)]
    rw [pE] at h
    split at h
    · rename_i y
      rw [hO t D (by omega) (Or.inl y)]
      split at h
      · rename_i y'; cases h; exact hC _ _ (by omega) (Or.inl y')
      · cases w : pP (pE ts n) ts true 120 (t + 1) with
        | none => rw [w] at h; cases h
        | some q => rw [w] at h; cases h; exact ov_P hX' (fun k D' h1 h2 => hC k D' (by omega) h2) ih' _ _ _ _ (Nat.le_refl D) w
    · split at h
      · rename_i y
        rw [hO t D (by omega) (Or.inr y)]
        split at h
        · rename_i y'; cases h; exact hC _ _ (by omega) (Or.inr y')
        · cases w : pP (pE ts n) ts false 120 (t + 1) with
          | none => rw [w] at h; cases h
          | some q => rw [w] at h; cases h; exact ov_P hX' (fun k D' h1 h2 => hC k D' (by omega) h2) ih' _ _ _ _ (Nat.le_refl D) w
      · split at h
        · rename_i z
          cases h
          have := sc_small z
          exact hX t D (sc_lt z) (by omega) (by omega) (by omega) (by omega) (by omega)
        · cases h
end
