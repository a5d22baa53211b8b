/-! Tokens: how many, of which kinds; what is read has no bad one. -/
theorem lx_one_W (c : Nat) (r : List Nat) : 100 + 4 * (lx_one c r).1.2.length + 104 * (lx_one c r).2.length ≤ 104 * (r.length + 1) := by
  unfold lx_one
  by_cases hL : isLet c = true
  · rw [if_pos hL]
    show 100 + 4 * (((c :: r).takeWhile isLet).map sml).length + 104 * ((c :: r).dropWhile isLet).length ≤ _
    rw [takeWhile_drop, List.length_map, List.length_drop, List.length_cons]
    have h1 := tw_len isLet (c :: r)
    have h2 : 0 < ((c :: r).takeWhile isLet).length := by rw [List.takeWhile_cons_of_pos hL]; simp
    rw [List.length_cons] at h1
    omega
  · rw [if_neg hL]
    by_cases hD : isDig c = true
    · rw [if_pos hD]
      show 100 + 4 * (lx_num (c :: r)).length + 104 * ((c :: r).drop (lx_num (c :: r)).length).length ≤ _
      have h1 := lx_num_pos (l := c :: r) hD
      have h2 : (lx_num (c :: r)).length ≤ r.length + 1 := by
        rcases lx_num_len (c :: r) with z | z
        · rw [List.length_cons] at z; exact z
        · cases z
      rw [List.length_drop, List.length_cons]
      omega
    · rw [if_neg hD]
      by_cases hM : c = 45 ∧ isDig (r.getD 0 0) = true
      · rw [if_pos hM]
        show 100 + 4 * (45 :: lx_num r).length + 104 * (r.drop (lx_num r).length).length ≤ _
        have h1 := lx_num_pos hM.2
        have h2 : (lx_num r).length ≤ r.length := by
          rcases lx_num_len r with z | z
          · exact z
          · rw [z] at hM; exact absurd hM.2 (by decide)
        rw [List.length_drop, List.length_cons]
        omega
      · rw [if_neg hM]
        by_cases h34 : c = 34
        · rw [if_pos h34]
          cases hs : lx_str r with
          | none => simp; omega
          | some q =>
            obtain ⟨m, e1, e2⟩ := lx_str_split _ r (Nat.le_refl _) q.1 q.2 hs
            have h1 := uesc_len _ m (Nat.le_refl _)
            rw [e2] at h1
            have h2 : r.length = m.length + 1 + q.2.length := by rw [e1]; simp; omega
            show 100 + 4 * q.1.length + 104 * q.2.length ≤ _
            omega
        · rw [if_neg h34]
          split <;> (simp; omega)
theorem lx_W : ∀ (n : Nat) (l : List Nat), ((lx n l).map fun q => 100 + 4 * q.2.length).sum ≤ 104 * l.length := by
  intro n
  induction n with
  | zero => intro l; simp [lx]
  | succ n ih =>
    intro l
    cases l with
    | nil => simp [lx]
    | cons c r =>
      rw [lx]
      split
      · have := ih r
        rw [List.length_cons]
        omega
      · have := ih (lx_one c r).2
        have := lx_one_W c r
        rw [List.map_cons, List.sum_cons, List.length_cons]
        omega
theorem lx_kind (c : Nat) (r : List Nat) (h : ∀ x ∈ c :: r, x < 128) : (lx_one c r).1.1 < 128 ∧ (lx_one c r).1.1 ≠ 0 ∧ ∀ x ∈ (lx_one c r).2, x < 128 := by
  refine ⟨?_, ?_, (lx_one_ok c r h).2⟩
  · unfold lx_one
    split
    · show 1 < 128; decide
    · split
      · show 2 < 128; decide
      · split
        · show 2 < 128; decide
        · split
          · split
            · show 3 < 128; decide
            · show 4 < 128; decide
          · split
            · exact h c List.mem_cons_self
            · show 4 < 128; decide
  · unfold lx_one
    split
    · show 1 ≠ 0; decide
    · split
      · show 2 ≠ 0; decide
      · split
        · show 2 ≠ 0; decide
        · split
          · split
            · show 3 ≠ 0; decide
            · show 4 ≠ 0; decide
          · split
            · rename_i hs
              have := isSig_ge hs
              show c ≠ 0
              omega
            · show 4 ≠ 0; decide
theorem lx_kinds : ∀ (n : Nat) (l : List Nat), (∀ x ∈ l, x < 128) → ∀ q ∈ lx n l, q.1 < 128 ∧ q.1 ≠ 0 := by
  intro n
  induction n with
  | zero => intro l _ q hq; simp [lx] at hq
  | succ n ih =>
    intro l hl q hq
    cases l with
    | nil => simp [lx] at hq
    | cons c r =>
      rw [lx] at hq
      split at hq
      · exact ih r (fun x hx => hl x (List.mem_cons_of_mem _ hx)) q hq
      · have k := lx_kind c r hl
        rcases List.mem_cons.mp hq with rfl | hq
        · exact ⟨k.1, k.2.1⟩
        · exact ih _ k.2.2 q hq
/-- between these places there is no bad token -/
def gdA (ts : List tk) (a b : Nat) : Prop := ∀ i, a ≤ i → i < b → (tA ts i).1 ≠ 4
theorem gdA_app {ts : List tk} {a b c : Nat} (h1 : gdA ts a b) (h2 : gdA ts b c) : gdA ts a c := fun i hi hc => by
  by_cases z : i < b
  · exact h1 i hi z
  · exact h2 i (by omega) hc
theorem gdA_1 {ts : List tk} {a : Nat} (h : (tA ts a).1 ≠ 4) : gdA ts a (a + 1) := fun i h1 h2 => by rw [show i = a by omega]; exact h
theorem gdA_I {ts : List tk} {a c : Nat} (h : tI ts a c = true) (hc : c ≠ 4) : gdA ts a (a + 1) := gdA_1 (by rw [tI_eq] at h; omega)
theorem gdA_s {ts : List tk} {a : Nat} (h : 0 < sc ts a) : gdA ts a (a + 1) := gdA_1 (by have := sc_small h; omega)
theorem gdA_P {ts : List tk} {rc : Nat → Option Nat} {o : Bool} (hrc : ∀ t e, rc t = some e → gdA ts t e) : ∀ f k q, pP rc ts o f k = some q → gdA ts k q.2 := by
  intro f
  induction f with
  | zero => intro k q h; cases h
  | succ f ih =>
    intro k q h
    obtain ⟨hm, e, he, z⟩ := pP_inv h
    have g0 : gdA ts k (mv o k) := by
      cases o with
      | false => exact fun i h1 h2 => by simp only [mv, Bool.false_eq_true, if_false] at h2; omega
      | true =>
        obtain ⟨m1, m2⟩ := isMem_1 (hm rfl)
        exact gdA_app (gdA_1 (by omega)) (gdA_I m2 (by decide))
    have g1 := gdA_app g0 (hrc _ _ he)
    rcases z with ⟨z1, z2⟩ | ⟨z1, z2, q', z3, z4⟩
    · rw [z2]
      exact gdA_app g1 (gdA_I z1 (by cases o <;> decide))
    · rw [z4]
      exact gdA_app (gdA_app g1 (gdA_I z2 (by decide))) (show gdA ts (e + 1) q'.2 from ih _ q' z3)
theorem gdA_E {ts : List tk} : ∀ n t e, pE ts n t = some e → gdA ts t e := by
  intro n
  induction n with
  | zero =>
    intro t e h
    rw [pE_0] at h
    split at h
    · rename_i hs; cases h; exact gdA_s hs
    · cases h
  | succ n ih =>
    intro t e h
    rw [pE] at h
    split at h
    · rename_i h1
      split at h
      · rename_i h2
        cases h
        exact gdA_app (gdA_I h1 (by decide)) (gdA_I h2 (by decide))
      · obtain ⟨q, hq, he⟩ := Option.map_eq_some_iff.mp h
        rw [← he]
        exact gdA_app (gdA_I h1 (by decide)) (gdA_P ih _ _ _ hq)
    · split at h
      · rename_i h1
        split at h
        · rename_i h2
          cases h
          exact gdA_app (gdA_I h1 (by decide)) (gdA_I h2 (by decide))
        · obtain ⟨q, hq, he⟩ := Option.map_eq_some_iff.mp h
          rw [← he]
          exact gdA_app (gdA_I h1 (by decide)) (gdA_P ih _ _ _ hq)
      · split at h
        · rename_i hs; cases h; exact gdA_s hs
        · cases h
theorem gdA_good {ts : List tk} (h : gdA ts 0 ts.length) : lx_good ts = true := by
  unfold lx_good
  rw [List.all_eq_true]
  intro q hq
  obtain ⟨i, hi, e⟩ := List.mem_iff_getElem.mp hq
  have := h i (Nat.zero_le _) hi
  unfold tA at this
  rw [List.getD_eq_getElem?_getD, List.getElem?_eq_getElem hi] at this
  simp only [Option.getD_some, e] at this
  exact decide_eq_true this
/-- of members there is one for four tokens at most -/
theorem pP_four {ts : List tk} {rc : Nat → Option Nat} (hrc : ∀ t e, rc t = some e → t < e) : ∀ f k q, pP rc ts true f k = some q → 4 * q.1.length ≤ q.2 - k ∧ k ≤ q.2 := by
  intro f
  induction f with
  | zero => intro k q h; cases h
  | succ f ih =>
    intro k q h
    obtain ⟨hm, e, he, z⟩ := pP_inv h
    have := hrc _ _ he
    rw [show mv true k = k + 2 from rfl] at this
    rcases z with ⟨z1, z2⟩ | ⟨z1, z2, q', z3, z4⟩
    · rw [z2]
      simp
      omega
    · have := ih _ _ z3
      rw [z4]
      simp only [List.length_cons]
      omega
theorem kd_four {ts : List tk} {t e : Nat} (h1 : tI ts t 123 = true) (h : pE ts 3 t = some e) : 4 * (kd ts t).length ≤ e - t := by
  rw [pE, if_pos h1] at h
  split at h
  · rename_i h2
    rw [kd_obj0 h1 h2]
    simp
  · obtain ⟨q, hq, he⟩ := Option.map_eq_some_iff.mp h
    rw [kd_obj (by decide) h1 hq]
    have := pP_four (fun t e h => (pE_bd _ _ _ h).1) _ _ _ hq
    omega
