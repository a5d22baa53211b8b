/-! One call on fresh objects. -/
theorem mx_eps {α : Type} [Nonempty α] (P : α → Prop) (h : P (Classical.epsilon fun x => ¬ P x)) : ∀ x, P x := by
  intro x
  refine Classical.byContradiction fun hx => ?_
  exact (Classical.epsilon_spec (p := fun x => ¬ P x) ⟨x, hx⟩) h
theorem mx_go_G : ∀ (k n d mi pc : Nat) (L : mx_L) (st : List Value) (h : mx_H) (pc' : Nat) (L' : mx_L) (st' : List Value) (h1 : mx_H), mx_go k n d mi pc L st h = some (pc', L', st', h1) → mx_G d mi pc L st h = mx_G d mi pc' L' st' h1 := by
  intro k
  induction k with
  | zero => intro n d mi pc L st h pc' L' st' h1 hr; simp only [mx_go] at hr; cases hr; rfl
  | succ k ih =>
    intro n d mi pc L st h pc' L' st' h1 hr
    simp only [mx_go] at hr
    split at hr
    · cases hr
    · rename_i ins hins
      split at hr
      · cases hr
      · rename_i hrt
        split at hr
        · rename_i mj htg
          split at hr
          · rename_i hc
            split at hr
            · cases hr
            · split at hr
              · rename_i rv h2 hcall
                rw [mx_G_call hins hrt htg hc (mx_G_of hcall)]
                exact ih _ _ _ _ _ _ _ _ _ _ _ hr
              · cases hr
          · cases hr
        · rename_i htg
          split at hr
          · rename_i st1 h2 hn
            split at hr
            · rename_i hw
              cases d with
              | zero => exact absurd hw.2 (by omega)
              | succ d =>
                rw [mx_G_nat hins hrt htg hn hw.1]
                exact ih _ _ _ _ _ _ _ _ _ _ _ hr
            · cases hr
          · rename_i hn
            split at hr
            · rename_i pc1 L1 st1 h2 hs
              rw [mx_G_st hins hrt htg hn hs]
              exact ih _ _ _ _ _ _ _ _ _ _ _ hr
            · cases hr
def p1_go (xs : Nat → Int32) : Option mx_F := mx_go 16 400 31 0 0 (mx_ent 0 [.ref 0]) [] (mx_olds 5 xs)
def p1_h (xs : Nat → Int32) : mx_H := match p1_go xs with
  | some q => q.2.2.2
  | none => []
def p1_l0 : mx_L := [some (.ref 0), some (.ref 63), some (.ref 76), some (.int 0)]
def p1_c0 (xs : Nat → Int32) : Bool := match p1_go xs with
  | some q => q.1 == 26 && (decide (q.2.1 = p1_l0) && q.2.2.1.isEmpty)
  | none => false
theorem p1_c0t : ∀ xs, p1_c0 xs = true := mx_eps (fun xs => p1_c0 xs = true) (by decide +kernel)
theorem p1_goh (xs : Nat → Int32) : p1_go xs = some (26, p1_l0, [], p1_h xs) := by
  have h := p1_c0t xs
  unfold p1_c0 at h
  unfold p1_h
  cases e : p1_go xs with
  | none => rw [e] at h; cases h
  | some q =>
    rw [e] at h
    obtain ⟨a, b, c, dd⟩ := q
    simp only [Bool.and_eq_true, beq_iff_eq, decide_eq_true_eq, List.isEmpty_iff] at h
    obtain ⟨h1, h2, h3⟩ := h
    subst h1 h2 h3
    rfl
theorem p1_first (xs : Nat → Int32) : mx_G 31 0 0 (mx_ent 0 [.ref 0]) [] (mx_olds 5 xs) = mx_G 31 0 26 p1_l0 [] (p1_h xs) := mx_go_G _ _ _ _ _ _ _ _ _ _ _ _ (p1_goh xs)
theorem p1_hk (xs : Nat → Int32) : mx_keep (mx_olds 5 xs) (p1_h xs) := mx_go_keep _ _ _ _ _ _ _ _ _ _ _ _ (p1_goh xs)
/-- a fresh model, the class's own main places, the script, and room -/
def p1_F (h : mx_H) : Bool := decide (mx_tag h 76 = some (.inl 11)) && (decide (mx_ln h 76 = 40) && (decide (mx_el h 76 0 = .ref 77) && (decide (mx_tag h 77 = some (.inr .int)) && (decide (mx_ln h 77 = 800) && ((List.range 8).all (fun s => decide (mx_el h 77 (80 * s) = .int 0)) && (decide (mx_tag h 0 = some (.inr .int)) && (decide (mx_ln h 0 = 5) && (decide (h.length ≤ 1000) && (decide (mx_tot h ≤ 10000) && (decide (mx_tag h 63 = some (.inl 0)) && decide (mt_nO ≤ h.length)))))))))))
theorem p1_hF : ∀ xs, p1_F (p1_h xs) = true := mx_eps (fun xs => p1_F (p1_h xs) = true) (by decide +kernel)
