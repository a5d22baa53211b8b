/-! What a method comes to, without fuel: mx_G, and its equations. -/
theorem mx_run_up1 : ∀ (n d mi pc : Nat) (L : mx_L) (st : List Value) (h : mx_H) (r : Option Value × mx_H), mx_run n d mi pc L st h = some r → mx_run (n + 1) d mi pc L st h = some r := by
  intro n
  induction n with
  | zero => intro d mi pc L st h r hr; simp only [mx_run] at hr; cases hr
  | succ n ih =>
    intro d mi pc L st h r hr
    rw [mx_run] at hr
    rw [mx_run]
    split at hr
    · cases hr
    · rename_i ins hins
      try rw [hins]
      try dsimp only
      split at hr
      · rename_i rv hrt
        try rw [hrt]
        exact hr
      · rename_i hrt
        try rw [hrt]
        try dsimp only
        split at hr
        · rename_i mj htg
          try rw [htg]
          try dsimp only
          split at hr
          · rename_i hc
            try rw [if_pos hc]
            split at hr
            · cases hr
            · split at hr
              · rename_i rv h1 hcall
                rw [ih _ _ _ _ _ _ _ hcall]
                exact ih _ _ _ _ _ _ _ hr
              · cases hr
          · cases hr
        · rename_i htg
          try rw [htg]
          try dsimp only
          split at hr
          · rename_i w st1 h1 hnt
            try rw [hnt]
            try dsimp only
            split at hr
            · rename_i hc
              try rw [if_pos hc]
              exact ih _ _ _ _ _ _ _ hr
            · cases hr
          · rename_i hnt
            try rw [hnt]
            try dsimp only
            split at hr
            · rename_i pc1 L1 st1 h1 hs
              try rw [hs]
              exact ih _ _ _ _ _ _ _ hr
            · cases hr
theorem mx_run_up {n d mi pc : Nat} {L : mx_L} {st : List Value} {h : mx_H} {r : Option Value × mx_H} (hr : mx_run n d mi pc L st h = some r) {k : Nat} (hk : n ≤ k) : mx_run k d mi pc L st h = some r := by
  induction k with
  | zero => rw [show n = 0 by omega] at hr; exact hr
  | succ k ih =>
    by_cases e : n = k + 1
    · subst e; exact hr
    · exact mx_run_up1 _ _ _ _ _ _ _ _ (ih (by omega))
noncomputable def mx_G (d mi pc : Nat) (L : mx_L) (st : List Value) (h : mx_H) : Option (Option Value × mx_H) := @dite _ (∃ r n, mx_run n d mi pc L st h = some r) (Classical.propDecidable _) (fun hx => some (Classical.choose hx)) (fun _ => none)
theorem mx_G_iff {d mi pc : Nat} {L : mx_L} {st : List Value} {h : mx_H} {r : Option Value × mx_H} : mx_G d mi pc L st h = some r ↔ ∃ n, mx_run n d mi pc L st h = some r := by
  unfold mx_G
  constructor
  · intro hg
    split at hg
    · rename_i hx
      obtain ⟨n, hn⟩ := Classical.choose_spec hx
      rw [← Option.some.inj hg]
      exact ⟨n, hn⟩
    · cases hg
  · rintro ⟨n, hn⟩
    have hx : ∃ r n, mx_run n d mi pc L st h = some r := ⟨r, n, hn⟩
    rw [dif_pos hx]
    obtain ⟨k, hk⟩ := Classical.choose_spec hx
    have e1 := mx_run_up hn (Nat.le_max_left n k)
    have e2 := mx_run_up hk (Nat.le_max_right n k)
    rw [e1] at e2
    exact e2.symm
theorem mx_G_of {n d mi pc : Nat} {L : mx_L} {st : List Value} {h : mx_H} {r : Option Value × mx_H} (hr : mx_run n d mi pc L st h = some r) : mx_G d mi pc L st h = some r := mx_G_iff.mpr ⟨n, hr⟩
/-- two states of one run -/
theorem mx_G_eq {d mi pc d' mi' pc' : Nat} {L L' : mx_L} {st st' : List Value} {h h' : mx_H} (h1 : ∀ n r, mx_run (n + 1) d mi pc L st h = some r ↔ mx_run n d' mi' pc' L' st' h' = some r) : mx_G d mi pc L st h = mx_G d' mi' pc' L' st' h' := by
  apply Option.ext
  intro r
  rw [mx_G_iff, mx_G_iff]
  constructor
  · rintro ⟨n, hn⟩
    cases n with
    | zero => simp only [mx_run] at hn; cases hn
    | succ n => exact ⟨n, (h1 n r).mp hn⟩
  · rintro ⟨n, hn⟩
    exact ⟨n + 1, (h1 n r).mpr hn⟩
theorem mx_G_ret {d mi pc : Nat} {L : mx_L} {st : List Value} {h : mx_H} {ins : Jvm.ClassFile.Instr} {rv : Option Value} (hat : mt_at mi pc = some ins) (hr : mx_ret mi ins st = some rv) : mx_G d mi pc L st h = some (rv, h) := by
  refine mx_G_of (n := 1) ?_
  rw [mx_run, hat]
  dsimp only
  rw [hr]
theorem mx_G_st {d mi pc pc1 : Nat} {L L1 : mx_L} {st st1 : List Value} {h h1 : mx_H} {ins : Jvm.ClassFile.Instr} (hat : mt_at mi pc = some ins) (hr : mx_ret mi ins st = none) (ht : mx_tgt mi ins st h = none) (hn : mx_nat mi ins st h = none) (hs : mx_st1 mi pc ins L st h = some (pc1, L1, st1, h1)) : mx_G d mi pc L st h = mx_G d mi pc1 L1 st1 h1 := by
  refine mx_G_eq fun n r => ?_
  rw [mx_run, hat]
  dsimp only
  rw [hr]
  dsimp only
  rw [ht]
  dsimp only
  rw [hn]
  dsimp only
  rw [hs]
theorem mx_G_nat {d mi pc w : Nat} {L : mx_L} {st st1 : List Value} {h h1 : mx_H} {ins : Jvm.ClassFile.Instr} (hat : mt_at mi pc = some ins) (hr : mx_ret mi ins st = none) (ht : mx_tgt mi ins st h = none) (hn : mx_nat mi ins st h = some (w, st1, h1)) (hw : mx_wt st ≤ 9) : mx_G (d + 1) mi pc L st h = mx_G (d + 1) mi (pc + w) L st1 h1 := by
  refine mx_G_eq fun n r => ?_
  rw [mx_run, hat]
  dsimp only
  rw [hr]
  dsimp only
  rw [ht]
  dsimp only
  rw [hn]
  dsimp only
  rw [if_pos ⟨hw, Nat.succ_pos d⟩]
theorem mx_G_call {d mi pc mj : Nat} {L : mx_L} {st : List Value} {h h1 : mx_H} {ins : Jvm.ClassFile.Instr} {rv : Option Value} (hat : mt_at mi pc = some ins) (hr : mx_ret mi ins st = none) (ht : mx_tgt mi ins st h = some mj) (hc : mt_np mj ≤ st.length ∧ mx_wt (st.drop (mt_np mj)) ≤ 8 ∧ (mx_sl (st.take (mt_np mj)).reverse).length ≤ mt_mL mj)
    (hcall : mx_G d mj 0 (mx_ent mj (st.take (mt_np mj)).reverse) [] h = some (rv, h1)) : mx_G (d + 1) mi pc L st h = mx_G (d + 1) mi (pc + 3) L (rv.toList ++ st.drop (mt_np mj)) h1 := by
  obtain ⟨k, hk⟩ := mx_G_iff.mp hcall
  apply Option.ext
  intro r
  rw [mx_G_iff, mx_G_iff]
  constructor
  · rintro ⟨n, hn⟩
    cases n with
    | zero => simp only [mx_run] at hn; cases hn
    | succ n =>
      rw [mx_run, hat] at hn
      dsimp only at hn
      rw [hr] at hn
      dsimp only at hn
      rw [ht] at hn
      dsimp only at hn
      rw [if_pos hc] at hn
      split at hn
      · rename_i rv2 h2 hcall2
        have e1 := mx_run_up hk (Nat.le_max_left k n)
        have e2 := mx_run_up hcall2 (Nat.le_max_right k n)
        rw [e1] at e2
        cases e2
        exact ⟨n, hn⟩
      · cases hn
  · rintro ⟨n, hn⟩
    refine ⟨max k n + 1, ?_⟩
    rw [mx_run, hat]
    dsimp only
    rw [hr]
    dsimp only
    rw [ht]
    dsimp only
    rw [if_pos hc, mx_run_up hk (Nat.le_max_left k n)]
    exact mx_run_up hn (Nat.le_max_right k n)
