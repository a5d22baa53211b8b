section
variable {d : Nat} {h : mx_H} {ts : List tk}
theorem nI_any (x : Int32) : ∃ v, x = nI v := ⟨x.toBitVec.toNat, by apply Int32.toBitVec_inj.1; simp [nI]⟩
/-- what is taken away needs no value -/
theorem aTg_45 {way : Nat} (hw : way ≤ 11) (g : prs → Option Nat → Bool) (v v' : Nat) (p : prs) : aTg ts 45 way g v p = aTg ts 45 way g v' p := by
  have h1 : ∀ way, aPl ts 45 way v p = aPl ts 45 way v' p := by
    intro way
    unfold aPl
    by_cases e : way < 3 ∨ (way = 3 ∧ 45 = 45)
    · rw [if_pos e, if_pos e]
    · rw [if_neg e, if_neg e, if_pos rfl, if_pos rfl]
  have h2 : aMl ts 45 v p = aMl ts 45 v' p := rfl
  have h3 : ∀ part g, part < 3 → aCh ts 45 part v g p = aCh ts 45 part v' g p := by
    intro part g hp
    rcases (show part = 0 ∨ part = 1 ∨ part = 2 by omega) with q | q | q <;> subst q <;> rfl
  unfold aTg
  by_cases a : way < 6
  · rw [if_pos a, if_pos a, h1]
  · rw [if_neg a, if_neg a]
    by_cases b : way = 6
    · rw [if_pos b, if_pos b, h2]
    · rw [if_neg b, if_neg b]
      by_cases c : way < 9
      · rw [if_pos c, if_pos c, h3 _ _ (by omega)]
      · rw [if_neg c, if_neg c, h3 _ _ (by omega)]
end
