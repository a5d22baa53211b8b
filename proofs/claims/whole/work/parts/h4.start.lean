/-! The start: both objects are made. -/
theorem one_old {h h1 : mx_H} (hc : h1 = h ∨ (∃ (a : Nat) (q q' : mx_C), h[a]? = some q ∧ h1 = h.set a q' ∧ q'.2.length = q.2.length ∧ q'.1 = q.1 ∧ mt_nO ≤ a) ∨ ∃ q : mx_C, h1 = h ++ [q]) (hl : mt_nO ≤ h.length) : h.length ≤ h1.length ∧ ∀ a, a < mt_nO → h1[a]? = h[a]? := by
  rcases hc with z | ⟨a, q, q', _, z, _, _, hn⟩ | ⟨q, z⟩
  · rw [z]; exact ⟨Nat.le_refl _, fun _ _ => rfl⟩
  · rw [z]; exact ⟨by rw [List.length_set]; exact Nat.le_refl _, fun b hb => List.getElem?_set_ne (by omega)⟩
  · rw [z]; exact ⟨by rw [List.length_append]; omega, fun b hb => List.getElem?_append_left (by omega)⟩
theorem mx_run_len : ∀ n d mi pc L st h r, mx_run n d mi pc L st h = some r → mt_nO ≤ h.length → h.length ≤ r.2.length := by
  intro n
  induction n with
  | zero => intro d mi pc L st h r z; cases z
  | succ n ih =>
    intro d mi pc L st h r hr hl
    rw [mx_run] at hr
    split at hr
    · cases hr
    · split at hr
      · cases hr
        exact Nat.le_refl _
      · split at hr
        · split at hr
          · cases d with
            | zero => cases hr
            | succ d' =>
              simp only at hr
              split at hr
              · rename_i rv h1 hc
                have i1 := ih _ _ _ _ _ _ (rv, h1) hc hl
                have i2 := ih _ _ _ _ _ _ r hr (Nat.le_trans hl i1)
                exact Nat.le_trans i1 i2
              · cases hr
          · cases hr
        · split at hr
          · rename_i w st1 h1 hnat
            split at hr
            · have i1 := one_old (h := h) (h1 := h1) (by
                rcases mx_nat_heap hnat with (z | z) | z
                · exact Or.inl z
                · exact Or.inr (Or.inl z)
                · exact Or.inr (Or.inr z)) hl
              exact Nat.le_trans i1.1 (ih _ _ _ _ _ _ r hr (Nat.le_trans hl i1.1))
            · cases hr
          · split at hr
            · rename_i pc1 L1 st1 h1 hs
              have i1 := one_old (mx_st1_heap hs) hl
              exact Nat.le_trans i1.1 (ih _ _ _ _ _ _ r hr (Nat.le_trans hl i1.1))
            · cases hr
theorem mx_go_old : ∀ k n d mi pc L st h q, mx_go k n d mi pc L st h = some q → mt_nO ≤ h.length → ∀ a, a < mt_nO → q.2.2.2[a]? = h[a]? := by
  intro k
  induction k with
  | zero => intro n d mi pc L st h q hr _ a _; simp only [mx_go] at hr; cases hr; rfl
  | succ k ih =>
    intro n d mi pc L st h q hr hl a ha
    simp only [mx_go] at hr
    split at hr
    · cases hr
    · rename_i ins hins
      split at hr
      · cases hr
      · rename_i hrt
        split at hr
        · rename_i mj htg
          split at hr
          · rename_i hc
            split at hr
            · cases hr
            · split at hr
              · rename_i rv h2 hcall
                have o1 := mx_oldG (mx_G_of hcall) a ha hl
                have l1 := mx_run_len _ _ _ _ _ _ _ _ hcall hl
                exact (ih _ _ _ _ _ _ _ _ hr (Nat.le_trans hl l1) a ha).trans o1
              · cases hr
          · cases hr
        · rename_i htg
          split at hr
          · rename_i w st1 h2 hn
            split at hr
            · have i1 := one_old (h := h) (h1 := h2) (by
                rcases mx_nat_heap hn with (z | z) | z
                · exact Or.inl z
                · exact Or.inr (Or.inl z)
                · exact Or.inr (Or.inr z)) hl
              exact (ih _ _ _ _ _ _ _ _ hr (Nat.le_trans hl i1.1) a ha).trans (i1.2 a ha)
            · cases hr
          · rename_i hn
            split at hr
            · rename_i pc1 L1 st1 h2 hs
              have i1 := one_old (mx_st1_heap hs) hl
              exact (ih _ _ _ _ _ _ _ _ hr (Nat.le_trans hl i1.1) a ha).trans (i1.2 a ha)
            · cases hr
def w_go (c : mx_C) : Option mx_F := mx_go 10 400 32 0 0 (mx_ent 0 [.ref 0]) [] (c :: mt_old)
def w_h (c : mx_C) : mx_H := match w_go c with
  | some q => q.2.2.2
  | none => []
def w_l0 : mx_L := [some (.ref 0), some (.ref 63), some (.ref 76), some (.int 0)]
def w_c0 (c : mx_C) : Bool := match w_go c with
  | some q => q.1 == 18 && (decide (q.2.1 = w_l0) && q.2.2.1.isEmpty)
  | none => false
theorem w_c0t : ∀ c, w_c0 c = true := mx_eps (fun c => w_c0 c = true) (by decide +kernel)
theorem w_goh (c : mx_C) : w_go c = some (18, w_l0, [], w_h c) := by
  have h := w_c0t c
  unfold w_c0 at h
  unfold w_h
  split at h
  · rename_i q hq
    simp only [Bool.and_eq_true, beq_iff_eq, decide_eq_true_eq, List.isEmpty_iff] at h
    rw [hq]
    obtain ⟨a, b, e, f⟩ := q
    simp only at h
    rw [h.1, h.2.1, h.2.2]
  · cases h
theorem w_goh' (c : mx_C) : mx_go 10 400 32 0 0 (mx_ent 0 [.ref 0]) [] (c :: mt_old) = some (18, w_l0, [], w_h c) := by
  have h := w_goh c
  unfold w_go at h
  exact h
theorem w_first (c : mx_C) : mx_G 32 0 0 (mx_ent 0 [.ref 0]) [] (c :: mt_old) = mx_G 32 0 18 w_l0 [] (w_h c) := mx_go_G _ _ _ _ _ _ _ _ _ _ _ _ (w_goh' c)
theorem w_0 (c : mx_C) : (w_h c)[0]? = some c := by
  have hl : mt_nO ≤ (c :: mt_old).length := Nat.le_of_eq rfl
  have h := mx_go_old 10 400 32 0 0 (mx_ent 0 [.ref 0]) [] (c :: mt_old) (18, w_l0, [], w_h c) (w_goh' c) hl 0 (by decide)
  simpa using h
/-- all but the script -/
def w_W : mx_H := (w_h (.inl 99, [])).drop 1
theorem w_d : ∀ c, (w_h c).drop 1 = w_W := mx_eps (fun c => (w_h c).drop 1 = w_W) (by decide +kernel)
theorem w_at (c : mx_C) (a : Nat) : (w_h c)[a + 1]? = w_W[a]? := by rw [← w_d c, List.getElem?_drop, Nat.add_comm]
theorem w_len (c : mx_C) : (w_h c).length = 102 := by
  have h1 : ((w_h c).drop 1).length = 101 := by rw [w_d]; decide +kernel
  have h2 := (List.getElem?_eq_some_iff.mp (w_0 c)).1
  rw [List.length_drop] at h1
  omega
