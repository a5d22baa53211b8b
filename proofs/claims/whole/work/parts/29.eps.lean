theorem mx_eps {α : Type} [Nonempty α] (P : α → Prop) (h : P (Classical.epsilon fun x => ¬ P x)) : ∀ x, P x := by
  intro x
  refine Classical.byContradiction fun hx => ?_
  exact (Classical.epsilon_spec (p := fun x => ¬ P x) ⟨x, hx⟩) h
theorem mx_go_G : ∀ (k n d mi pc : Nat) (L : mx_L) (st : List Value) (h : mx_H) (pc' : Nat) (L' : mx_L) (st' : List Value) (h1 : mx_H), mx_go k n d mi pc L st h = some (pc', L', st', h1) → mx_G d mi pc L st h = mx_G d mi pc' L' st' h1 := by
  intro k
  induction k with
  | zero => intro n d mi pc L st h pc' L' st' h1 hr; simp only [mx_go] at hr; cases hr; rfl
  | succ k ih =>
    intro n d mi pc L st h pc' L' st' h1 hr
    simp only [mx_go] at hr
    split at hr
    · cases hr
    · rename_i ins hins
      split at hr
      · cases hr
      · rename_i hrt
        split at hr
        · rename_i mj htg
          split at hr
          · rename_i hc
            split at hr
            · cases hr
            · split at hr
              · rename_i rv h2 hcall
                rw [mx_G_call hins hrt htg hc (mx_G_of hcall)]
                exact ih _ _ _ _ _ _ _ _ _ _ _ hr
              · cases hr
          · cases hr
        · rename_i htg
          split at hr
          · rename_i w st1 h2 hn
            split at hr
            · rename_i hw
              cases d with
              | zero => exact absurd hw.2 (by omega)
              | succ d =>
                rw [mx_G_nat hins hrt htg hn hw.1]
                exact ih _ _ _ _ _ _ _ _ _ _ _ hr
            · cases hr
          · rename_i hn
            split at hr
            · rename_i pc1 L1 st1 h2 hs
              rw [mx_G_st hins hrt htg hn hs]
              exact ih _ _ _ _ _ _ _ _ _ _ _ hr
            · cases hr
def mx_chk (n d L : Nat) (xs : Nat → Int32) : Bool := match mx_run n d 0 0 (mx_ent 0 [.ref 0]) [] (mx_olds L xs) with
  | some (some (.int v), h1) => decide (v = 1) && (decide (d ≤ 2048) && (decide (h1.length ≤ mt_nO + 600000) && decide (mx_tot h1 ≤ mx_tot (mx_olds L xs) + 7302250)))
  | _ => false
theorem mx_chk_law {n d L : Nat} {xs : Nat → Int32} (hc : mx_chk n d L xs = true) : mx_law L xs := by
  unfold mx_chk at hc
  split at hc
  · rename_i v h1 hr
    simp only [Bool.and_eq_true, decide_eq_true_eq] at hc
    obtain ⟨e1, e2, e3, e4⟩ := hc
    subst e1
    exact ⟨n, d, h1, hr, e2, e3, e4⟩
  · cases hc
theorem mx_tot_up (h : mx_H) (a k : Nat) (v : Value) : mx_tot (mx_up h a k v) = mx_tot h := by
  unfold mx_up
  split
  · rename_i q hq
    exact mx_tot_set hq (by simp)
  · rfl
