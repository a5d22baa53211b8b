/-! What is read of a filter, or of a patch, has no bad token. -/
theorem gdA_W {ts : List tk} {a : Nat} {u : List Nat} (h : tW ts a u = true) : gdA ts a (a + 1) := gdA_1 (by
  unfold tW at h
  rw [eq_of_beq h]
  show (1 : Nat) ≠ 4
  decide)
theorem gdA_k {ts : List tk} {a : Nat} (h : (tA ts a).1 = 1) : gdA ts a (a + 1) := gdA_1 (by omega)
theorem vld_ne {op : List Nat} {ty : Nat} (h : vld op ty = true) : op ≠ [] := by
  rintro rfl
  unfold vld at h
  rw [decide_eq_true_eq] at h
  rcases h with z | z | ⟨z, -⟩ | ⟨z, -⟩
  · exact absurd z (by decide)
  · exact absurd z (by decide)
  · exact absurd z (by decide)
  · exact absurd z (by decide)
theorem gdA_cC {ts : List tk} {w : Bool} {k : Nat} {q : stp × Nat} (h : cC ts w k = some q) : gdA ts k q.2 := by
  unfold cC at h
  split at h
  · cases h
  · rename_i hc
    have c1 : pAt ts w k ≠ 0 := fun z => hc (Or.inl z)
    have c2 : ¬ (k + 1 < oAt ts w k ∧ tW ts k w_mail = false) := fun z => hc (Or.inr (Or.inl z))
    have c3 : opw ts (oAt ts w k) = w_pr ∨ (vld (opw ts (oAt ts w k)) (tyO (pAt ts w k)) = true ∧ sc ts (oAt ts w k + 1) = tyO (pAt ts w k)) := Classical.not_not.mp (fun z => hc (Or.inr (Or.inr z)))
    cases h
    have g0 : gdA ts k (k + 1) := gdA_k (pAt_k c1)
    have g1 : gdA ts k (oAt ts w k) := by
      by_cases e : (!w && tI ts (k + 1) 46) = true
      · have eo : oAt ts w k = k + 3 := by unfold oAt; rw [if_pos e]
        rw [Bool.and_eq_true] at e
        have hw : w = false := by cases w <;> simp_all
        subst hw
        have hm : tW ts k w_mail = true := by
          cases z : tW ts k w_mail
          · exact absurd ⟨by omega, z⟩ c2
          · rfl
        have g2 : gdA ts (k + 2) (k + 3) := by
          unfold pAt at c1
          rw [if_neg (by decide), if_pos hm] at c1
          by_cases v : tW ts (k + 2) w_v = true
          · exact gdA_W v
          · by_cases p : tW ts (k + 2) w_p = true
            · exact gdA_W p
            · rw [if_neg (fun z => by rcases z with z | z
                                      · rw [e.2] at z; cases z
                                      · exact v z), if_neg p] at c1
              exact absurd rfl c1
        rw [eo]
        exact gdA_app (gdA_app g0 (gdA_I e.2 (by decide))) g2
      · have eo : oAt ts w k = k + 1 := by unfold oAt; rw [if_neg e]
        rw [eo]
        exact g0
    show gdA ts k (if opw ts (oAt ts w k) = w_pr then oAt ts w k + 1 else oAt ts w k + 2)
    have g2 : gdA ts (oAt ts w k) (oAt ts w k + 1) := gdA_k (opw_k (by
      rcases c3 with z | z
      · rw [z]; decide
      · exact vld_ne z.1))
    split
    · exact gdA_app g1 g2
    · rename_i hn
      have z := c3.resolve_left hn
      have hs : 0 < sc ts (oAt ts w k + 1) := by
        rw [z.2]
        unfold tyO
        split
        · decide
        · split <;> decide
      exact gdA_app (gdA_app g1 g2) (gdA_s hs)
theorem gdA_cT {ts : List tk} {rO : Bool → Nat → Option (cdP × Nat)} (hO : ∀ w k q, rO w k = some q → gdA ts k q.2) {w : Bool} {k : Nat} {q : cdP × Nat} (h : cT (hd ts) itn ts rO w k = some q) : gdA ts k q.2 := by
  unfold cT at h
  split at h
  · rename_i h1
    rw [Bool.and_eq_true] at h1
    obtain ⟨y, hy, h⟩ := Option.bind_eq_some_iff.mp h
    split at h
    · rename_i h2
      cases h
      exact gdA_app (gdA_app (gdA_app (gdA_W h1.1) (gdA_I h1.2 (by decide))) (hO _ _ _ hy)) (gdA_I h2 (by decide))
    · cases h
  · split at h
    · rename_i h1
      obtain ⟨y, hy, h⟩ := Option.bind_eq_some_iff.mp h
      split at h
      · rename_i h2
        cases h
        exact gdA_app (gdA_app (gdA_I h1 (by decide)) (hO _ _ _ hy)) (gdA_I h2 (by decide))
      · cases h
    · split at h
      · rename_i h1
        rw [Bool.and_eq_true, Bool.and_eq_true] at h1
        obtain ⟨y, hy, h⟩ := Option.bind_eq_some_iff.mp h
        split at h
        · rename_i h2
          cases h
          exact gdA_app (gdA_app (gdA_app (gdA_W h1.2.1) (gdA_I h1.2.2 (by decide))) (hO _ _ _ hy)) (gdA_I h2 (by decide))
        · cases h
      · obtain ⟨y, hy, he⟩ := Option.map_eq_some_iff.mp h
        rw [← he]
        exact gdA_cC hy
theorem gdA_cL {ts : List tk} {rT : Nat → Option (cdP × Nat)} (hT : ∀ k q, rT k = some q → gdA ts k q.2) : ∀ f o a k q, cL ts rT f o a k = some q → gdA ts k q.2 := by
  intro f
  induction f with
  | zero => intro o a k q h; cases h
  | succ f ih =>
    intro o a k q h
    rw [cL] at h
    cases e : rT k with
    | none => rw [e] at h; cases h
    | some y =>
      rw [e] at h
      simp only at h
      have g1 := hT k y e
      split at h
      · rename_i h1
        exact gdA_app (gdA_app g1 (gdA_W h1)) (ih _ _ _ _ h)
      · split at h
        · rename_i h1
          exact gdA_app (gdA_app g1 (gdA_W h1)) (ih _ _ _ _ h)
        · cases h
          exact g1
theorem gdA_cF {ts : List tk} : ∀ n w k q, cF ts n w k = some q → gdA ts k q.2 := by
  intro n
  induction n with
  | zero => intro w k q h; exact gdA_cL (fun k q hq => gdA_cT (fun w k q h => by cases h) hq) _ _ _ _ _ h
  | succ n ih => intro w k q h; exact gdA_cL (fun k q hq => gdA_cT (fun w k q h => ih w k q h) hq) _ _ _ _ _ h
theorem gdA_V {ts : List tk} {n t e : Nat} (hn : n ≤ 3) (h : pV ts n t = some e) : gdA ts t e := gdA_E _ _ _ (pV_pE n t e hn h)
theorem gdA_Tg {ts : List tk} {c k : Nat} {q : (Nat × cdP) × Nat} (h : rTg ts c k = some q) : gdA ts k q.2 := by
  unfold rTg at h
  split at h
  · cases h
    exact fun i h1 h2 => absurd h2 (by show ¬ i < k; omega)
  · split at h
    · split at h
      · cases h
      · rename_i hp
        cases h
        exact gdA_k (pAt_k hp)
    · rename_i hm
      have hm' : tW ts k w_mail = true := by
        cases z : tW ts k w_mail
        · exact absurd z hm
        · rfl
      obtain ⟨b, hb, h⟩ := Option.bind_eq_some_iff.mp h
      have gb : gdA ts k b.2 := by
        split at hb
        · rename_i h1
          obtain ⟨y, hy, hb⟩ := Option.bind_eq_some_iff.mp hb
          split at hb
          · rename_i h2
            cases hb
            exact gdA_app (gdA_app (gdA_app (gdA_W hm') (gdA_I h1 (by decide))) (gdA_cF _ _ _ _ hy)) (gdA_I h2 (by decide))
          · cases hb
        · cases hb
          exact gdA_W hm'
      split at h
      · cases h
        exact gb
      · rename_i h46
        have h46' : tI ts b.2 46 = true := by
          cases z : tI ts b.2 46
          · exact absurd z h46
          · rfl
        have g2 := gdA_app gb (gdA_I h46' (by decide))
        split at h
        · rename_i h3
          cases h
          exact gdA_app g2 (gdA_W h3)
        · split at h
          · rename_i h3
            cases h
            exact gdA_app g2 (gdA_W h3)
          · cases h
theorem gdA_Op {ts : List tk} {k : Nat} {q : opr × Nat} (h : rOp ts k = some q) : gdA ts k q.2 := by
  unfold rOp at h
  split at h
  · cases h
  · rename_i hs
    have g0 : gdA ts k (k + 1) := by
      by_cases a : tI ts k 43 = true
      · exact gdA_I a (by decide)
      · by_cases b : tI ts k 45 = true
        · exact gdA_I b (by decide)
        · by_cases c : tI ts k 61 = true
          · exact gdA_I c (by decide)
          · exact absurd ⟨by simpa using a, by simpa using b, by simpa using c⟩ hs
    obtain ⟨b, hb, h⟩ := Option.bind_eq_some_iff.mp h
    have g1 := gdA_app g0 (gdA_Tg hb)
    split at h
    · cases h
      exact g1
    · split at h
      · cases h
      · rename_i h58
        have h58' : tI ts b.2 58 = true := by
          cases z : tI ts b.2 58
          · exact absurd z h58
          · rfl
        obtain ⟨e, he, h⟩ := Option.map_eq_some_iff.mp h
        rw [← h]
        exact gdA_app (gdA_app g1 (gdA_I h58' (by decide))) (gdA_V (by decide) he)
theorem gdA_Ops {ts : List tk} : ∀ f k l, rOps ts f k = some l → gdA ts k ts.length := by
  intro f
  induction f with
  | zero => intro k l h; cases h
  | succ f ih =>
    intro k l h
    rw [rOps] at h
    obtain ⟨q, hq, h⟩ := Option.bind_eq_some_iff.mp h
    have g1 := gdA_Op hq
    split at h
    · rename_i e
      rw [e] at g1
      exact g1
    · split at h
      · rename_i h10
        obtain ⟨l', hl, -⟩ := Option.map_eq_some_iff.mp h
        exact gdA_app (gdA_app g1 (gdA_I h10 (by decide))) (ih _ _ hl)
      · cases h
