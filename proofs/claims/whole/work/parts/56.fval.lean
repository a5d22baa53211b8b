section
variable {P : Type} {hd : P → Option Nat → stp → Bool} {its : P → Nat} {ts : List tk}
/-- how a row of steps is gone through, with what it has found on a stack; read backwards -/
def Cl0 (hd : P → Option Nat → stp → Bool) (p : P) (i : Option Nat) (X : List Bool → List stp → Prop) : Prop :=
  (∀ q st r, q.1 = 0 → X (hd p i q :: st) r → X st (q :: r)) ∧ (∀ b st r, X ((!b) :: st) r → X (b :: st) (sp 3 :: r)) ∧
  (∀ a b st r, X ((a && b) :: st) r → X (b :: a :: st) (sp 1 :: r)) ∧ (∀ a b st r, X ((a || b) :: st) r → X (b :: a :: st) (sp 2 :: r))
def vI (hd : P → Option Nat → stp → Bool) (p : P) (i : Option Nat) (c : List stp) (b : Bool) : Prop := ∀ X, Cl0 hd p i X → ∀ st r, X (b :: st) r → X st (c ++ r)
def Cl1 (hd : P → Option Nat → stp → Bool) (its : P → Nat) (w : Bool) (p : P) (i : Option Nat) (X : List Bool → List stp → Prop) : Prop :=
  Cl0 hd p i X ∧ (w = false → ∀ (c : List stp) (b : Nat → Bool) st r, (∀ j, vI hd p (some j) c (b j)) → X (((List.range (its p)).any b) :: st) r → X st (((4, 0, [], c.length) :: c) ++ r))
def vW (hd : P → Option Nat → stp → Bool) (its : P → Nat) (w : Bool) (p : P) (i : Option Nat) (c : List stp) (b : Bool) : Prop := ∀ X, Cl1 hd its w p i X → ∀ st r, X (b :: st) r → X st (c ++ r)
theorem vW_I {p : P} {i : Option Nat} {c : List stp} {b : Bool} (h : vW hd its true p i c b) : vI hd p i c b := fun X hX => h X ⟨hX, fun z => by cases z⟩
/-- code and meaning go together -/
def cdV (hd : P → Option Nat → stp → Bool) (its : P → Nat) (w : Bool) (c : cdT P) : Prop := ∀ p i, vW hd its w p i c.1 (c.2 p i)
theorem cdV_not {w : Bool} {a : cdT P} (h : cdV hd its w a) : cdV hd its w (cd_not a) := by
  intro p i X hX st r hx
  simp only [cd_not, List.append_assoc]
  exact h p i X hX _ _ (hX.1.2.1 _ _ _ hx)
theorem cdV_and {w : Bool} {a b : cdT P} (h : cdV hd its w a) (h' : cdV hd its w b) : cdV hd its w (cd_and a b) := by
  intro p i X hX st r hx
  simp only [cd_and, List.append_assoc]
  exact h p i X hX _ _ (h' p i X hX _ _ (hX.1.2.2.1 _ _ _ _ hx))
theorem cdV_or {w : Bool} {a b : cdT P} (h : cdV hd its w a) (h' : cdV hd its w b) : cdV hd its w (cd_or a b) := by
  intro p i X hX st r hx
  simp only [cd_or, List.append_assoc]
  exact h p i X hX _ _ (h' p i X hX _ _ (hX.1.2.2.2 _ _ _ _ hx))
theorem cdV_itm {a : cdT P} (h : cdV hd its true a) : cdV hd its false (cd_itm its a) := by
  intro p i X hX st r hx
  exact hX.2 rfl _ _ _ _ (fun j => vW_I (h p (some j))) hx
theorem cdV_one {w : Bool} {q : stp} (h : q.1 = 0) : cdV hd its w (cd_one hd q) := by
  intro p i X hX st r hx
  exact hX.1.1 q st r h hx
theorem cC_0 {w : Bool} {k : Nat} {q : stp × Nat} (h : cC ts w k = some q) : q.1.1 = 0 := by
  unfold cC at h
  split at h
  · cases h
  · cases h; rfl
theorem cT_val {rO : Bool → Nat → Option (cdT P × Nat)} (hr : ∀ w k q, rO w k = some q → cdV hd its w q.1) {w : Bool} {k : Nat} {q : cdT P × Nat} (h : cT hd its ts rO w k = some q) : cdV hd its w q.1 := by
  unfold cT at h
  split at h
  · cases z : rO w (k + 2) with
    | none => rw [z] at h; cases h
    | some q' =>
      rw [z] at h
      have h : (if tI ts q'.2 41 = true then some (cd_not q'.1, q'.2 + 1) else none) = some q := h
      split at h
      · cases h; exact cdV_not (hr _ _ _ z)
      · cases h
  · split at h
    · cases z : rO w (k + 1) with
      | none => rw [z] at h; cases h
      | some q' =>
        rw [z] at h
        have h : (if tI ts q'.2 41 = true then some (q'.1, q'.2 + 1) else none) = some q := h
        split at h
        · cases h; exact hr _ _ q' z
        · cases h
    · split at h
      · rename_i y
        have hw : w = false := by cases w with | true => cases y | false => rfl
        subst hw
        cases z : rO true (k + 2) with
        | none => rw [z] at h; cases h
        | some q' =>
          rw [z] at h
          have h : (if tI ts q'.2 93 = true then some (cd_itm its q'.1, q'.2 + 1) else none) = some q := h
          split at h
          · cases h; exact cdV_itm (hr _ _ _ z)
          · cases h
      · cases z : cC ts w k with
        | none => rw [z] at h; cases h
        | some q' => rw [z] at h; cases h; exact cdV_one (cC_0 z)
theorem cA_val {w : Bool} {a : Option (cdT P)} {c : cdT P} (ha : ∀ x, a = some x → cdV hd its w x) (hc : cdV hd its w c) : cdV hd its w (cA a c) := by
  cases a with
  | none => exact hc
  | some x => exact cdV_and (ha x rfl) hc
theorem cB_val {w : Bool} {a : Option (cdT P)} {c : cdT P} (ha : ∀ x, a = some x → cdV hd its w x) (hc : cdV hd its w c) : cdV hd its w (cB a c) := by
  cases a with
  | none => exact hc
  | some x => exact cdV_or (ha x rfl) hc
theorem cL_val {w : Bool} {rT : Nat → Option (cdT P × Nat)} (hr : ∀ k q, rT k = some q → cdV hd its w q.1) : ∀ f o a k q, (∀ x, o = some x → cdV hd its w x) → (∀ x, a = some x → cdV hd its w x) → cL ts rT f o a k = some q → cdV hd its w q.1 := by
  intro f
  induction f with
  | zero => intro o a k q _ _ h; cases h
  | succ f ih =>
    intro o a k q ho ha h
    rw [cL] at h
    cases z : rT k with
    | none => rw [z] at h; cases h
    | some q' =>
      rw [z] at h
      simp only at h
      have v := cA_val ha (hr _ _ z)
      split at h
      · exact ih _ _ _ _ ho (fun x hx => by cases hx; exact v) h
      · split at h
        · exact ih _ _ _ _ (fun x hx => by cases hx; exact cB_val ho v) (fun x hx => by cases hx) h
        · cases h; exact cB_val ho v
theorem cO_val : ∀ n w k q, cO hd its ts n w k = some q → cdV hd its w q.1 := by
  intro n
  induction n with
  | zero => intro w k q h; exact cL_val (fun k q h => cT_val (fun _ _ _ h => by cases h) h) _ _ _ _ _ (fun x hx => by cases hx) (fun x hx => by cases hx) h
  | succ n ih => intro w k q h; exact cL_val (fun k q h => cT_val ih h) _ _ _ _ _ (fun x hx => by cases hx) (fun x hx => by cases hx) h
end
