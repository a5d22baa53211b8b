/-! Sorting: the order in which people come does not matter. -/
theorem cmpL_anti : ∀ x y : List Nat, cmpL y x = - cmpL x y := by
  intro x
  induction x with
  | nil => intro y; cases y <;> rfl
  | cons a x ih =>
    intro y
    cases y with
    | nil => rfl
    | cons b y =>
      rw [cmpL, cmpL]
      rcases Nat.lt_trichotomy a b with h | h | h
      · rw [if_neg (by omega), if_pos h, if_pos h]; rfl
      · subst h; rw [if_neg (by omega), if_neg (by omega), if_neg (by omega), if_neg (by omega)]; exact ih y
      · rw [if_pos h, if_neg (by omega), if_pos h]
theorem cmpL_0 : ∀ x y : List Nat, cmpL x y = 0 → x = y := by
  intro x
  induction x with
  | nil => intro y h; cases y with | nil => rfl | cons b y => cases h
  | cons a x ih =>
    intro y h
    cases y with
    | nil => cases h
    | cons b y =>
      rw [cmpL] at h
      split at h
      · cases h
      · split at h
        · cases h
        · rw [ih y h, show a = b from by omega]
theorem cmpL_self (x : List Nat) : cmpL x x = 0 := by have := cmpL_anti x x; omega
theorem cmpL_trans : ∀ x y z : List Nat, cmpL x y < 0 → cmpL y z < 0 → cmpL x z < 0 := by
  intro x
  induction x with
  | nil =>
    intro y z h1 h2
    cases y with
    | nil => exact h2
    | cons b y =>
      cases z with
      | nil => rw [cmpL] at h2; omega
      | cons c z => rw [cmpL]; omega
  | cons a x ih =>
    intro y z h1 h2
    cases y with
    | nil => rw [cmpL] at h1; omega
    | cons b y =>
      cases z with
      | nil => rw [cmpL] at h2; omega
      | cons c z =>
        rw [cmpL] at h1 h2 ⊢
        split at h1
        · split at h2
          · rw [if_pos (by omega)]; omega
          · split at h2
            · omega
            · rw [if_pos (by omega)]; omega
        · split at h1
          · omega
          · split at h2
            · rw [if_pos (by omega)]; omega
            · split at h2
              · omega
              · rw [if_neg (by omega), if_neg (by omega)]; exact ih y z h1 h2
theorem cmpI_anti (x y : Int) : cmpI y x = - cmpI x y := by unfold cmpI; (repeat split) <;> omega
/-- three ways, as an order has them -/
def tri {α : Type} (f : α → α → Int) : Prop := (∀ a b, f b a = - f a b) ∧ (∀ a b c, f a b < 0 → f b c < 0 → f a c < 0) ∧ (∀ a b c, f a b = 0 → f a c = f b c)
theorem tri_L : tri cmpL := ⟨cmpL_anti, cmpL_trans, fun a b c h => by rw [cmpL_0 a b h]⟩
theorem tri_I : tri cmpI := by
  refine ⟨cmpI_anti, fun a b c => ?_, fun a b c => ?_⟩ <;> (unfold cmpI; intros; repeat split) <;> (repeat (split at *)) <;> omega
theorem tri_C : tri srC := by
  refine ⟨fun a b => ?_, fun a b c h1 h2 => ?_, fun a b c h => ?_⟩
  · unfold srC
    rw [tri_L.1 a.1 b.1, tri_I.1 a.2 b.2]
    split <;> split <;> omega
  · unfold srC at *
    have t1 := tri_L.2.1 a.1 b.1 c.1
    have t2 := tri_L.2.2 a.1 b.1 c.1
    have t3 := tri_I.2.1 a.2 b.2 c.2
    have t4 := tri_L.2.2 c.1 b.1 a.1
    have t5 := tri_L.1 b.1 c.1
    have t6 := tri_L.1 a.1 c.1
    have t7 := tri_L.1 a.1 b.1
    split at h1
    · split at h2
      · rw [if_pos (by have := t1 h1 h2; omega)]; exact t1 h1 h2
      · rename_i z
        have : cmpL c.1 a.1 = cmpL b.1 a.1 := t4 (by omega)
        rw [if_pos (by omega)]; omega
    · rename_i y
      have e := t2 (by omega)
      split at h2
      · rw [if_pos (by omega)]; omega
      · rw [if_neg (by omega)]; exact t3 h1 h2
  · unfold srC at *
    have t2 := tri_L.2.2 a.1 b.1 c.1
    have t3 := tri_I.2.2 a.2 b.2 c.2
    split at h
    · omega
    · rename_i y
      rw [t2 (by omega), t3 h]
theorem tri_O (k : Nat) : tri (fun a b => srO a b k) := by
  refine ⟨fun a b => ?_, fun a b c => ?_, fun a b c => ?_⟩
  · simp only [srO]
    cases srV a k <;> cases srV b k <;> simp
    exact tri_C.1 _ _
  · simp only [srO]
    cases srV a k <;> cases srV b k <;> cases srV c k <;> simp
    exact tri_C.2.1 _ _ _
  · simp only [srO]
    cases srV a k <;> cases srV b k <;> cases srV c k <;> simp
    exact tri_C.2.2 _ _ _
theorem bef_iff (k : Nat) (dn : Bool) (a b : prs) : bef k dn a b = true ↔ (srO a b k = 0 ∧ a.1 < b.1) ∨ (srO a b k ≠ 0 ∧ (if dn = true then 0 < srO a b k else srO a b k < 0)) := by
  unfold bef
  split
  · rename_i h; simp [h]
  · rename_i h
    cases dn with
    | false => simp [h]
    | true => simp [h]; omega
theorem bef_trans {k : Nat} {dn : Bool} {a b c : prs} (h1 : bef k dn a b = true) (h2 : bef k dn b c = true) : bef k dn a c = true := by
  rw [bef_iff] at *
  have a1 := (tri_O k).1 a b
  have a2 := (tri_O k).1 b c
  have a3 := (tri_O k).1 a c
  have t1 := (tri_O k).2.1 a b c
  have t2 := (tri_O k).2.1 c b a
  have t3 := (tri_O k).2.2 a b c
  have t4 := (tri_O k).2.2 c b a
  simp only at *
  cases dn with
  | false => simp only [Bool.false_eq_true, if_false] at *; omega
  | true => simp only [if_true] at *; omega
theorem bef_asym {k : Nat} {dn : Bool} {a b : prs} (h1 : bef k dn a b = true) : bef k dn b a = false := by
  refine Bool.eq_false_iff.2 fun h2 => ?_
  rw [bef_iff] at *
  have a1 := (tri_O k).1 a b
  simp only at *
  cases dn with
  | false => simp only [Bool.false_eq_true, if_false] at *; omega
  | true => simp only [if_true] at *; omega
theorem bef_tot {k : Nat} {dn : Bool} {a b : prs} (h : a.1 ≠ b.1) : bef k dn a b = true ∨ bef k dn b a = true := by
  rw [bef_iff, bef_iff]
  have a1 := (tri_O k).1 a b
  simp only at *
  cases dn with
  | false => simp only [Bool.false_eq_true, if_false] at *; omega
  | true => simp only [if_true] at *; omega
theorem insR_comm1 {lt : prs → prs → Bool} (ht : ∀ a b c, lt a b = true → lt b c = true → lt a c = true) {x y : prs} (h : lt x y = true) (h' : lt y x = false) : ∀ l, insR lt x (insR lt y l) = insR lt y (insR lt x l) := by
  intro l
  induction l with
  | nil => simp only [insR]; rw [if_pos h, if_neg (by rw [h']; decide)]
  | cons z l ih =>
    by_cases hy : lt y z = true
    · have hx := ht _ _ _ h hy
      simp only [insR]
      rw [if_pos hy, if_pos hx, insR, if_pos hx, insR, if_pos hy, ih]
    · simp only [insR]
      rw [if_neg hy]
      by_cases hx : lt x z = true
      · rw [if_pos hx, insR, if_pos h, insR, if_pos hx, insR, if_neg hy]
      · rw [if_neg hx, insR, if_pos h, insR, if_neg hx, insR, if_neg (by rw [h']; decide)]
theorem insR_comm {k : Nat} {dn : Bool} {x y : prs} (h : x.1 ≠ y.1) (l : List prs) : insR (bef k dn) x (insR (bef k dn) y l) = insR (bef k dn) y (insR (bef k dn) x l) := by
  rcases bef_tot (k := k) (dn := dn) h with z | z
  · exact insR_comm1 (lt := bef k dn) (fun a b c => bef_trans) z (bef_asym z) l
  · exact (insR_comm1 (lt := bef k dn) (fun a b c => bef_trans) z (bef_asym z) l).symm
def ids (l : List prs) : List Nat := l.map fun p => p.1
theorem srt_perm {k : Nat} {dn : Bool} {l1 l2 : List prs} (h : l1.Perm l2) (hn : (ids l1).Nodup) : srt k dn l1 = srt k dn l2 := by
  unfold srt
  have : ∀ acc, l1.foldl (fun acc x => insR (bef k dn) x acc) acc = l2.foldl (fun acc x => insR (bef k dn) x acc) acc := by
    induction h with
    | nil => intro acc; rfl
    | cons x _ ih =>
      intro acc
      simp only [List.foldl_cons]
      exact ih (by unfold ids at *; simp only [List.map_cons, List.nodup_cons] at hn; exact hn.2) _
    | swap x y l =>
      intro acc
      simp only [List.foldl_cons]
      rw [insR_comm]
      unfold ids at hn
      simp only [List.map_cons, List.nodup_cons, List.mem_cons, not_or] at hn
      exact fun e => hn.1.1 e.symm
    | trans h1 _ ih1 ih2 =>
      intro acc
      rw [ih1 hn, ih2 ((h1.map _).nodup hn)]
  rw [this]
