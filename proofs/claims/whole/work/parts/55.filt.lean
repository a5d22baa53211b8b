/-! Filters: what the text asks, and the code that the model makes of it. -/
def w_and : List Nat := [97, 110, 100]
def w_or : List Nat := [111, 114]
def w_not : List Nat := [110, 111, 116]
def w_mail : List Nat := [109, 97, 105, 108]
def w_pr : List Nat := [112, 114]
def w_eq : List Nat := [101, 113]
def w_ne : List Nat := [110, 101]
def w_co : List Nat := [99, 111]
def w_sw : List Nat := [115, 119]
def w_ew : List Nat := [101, 119]
def w_gt : List Nat := [103, 116]
def w_ge : List Nat := [103, 101]
def w_lt : List Nat := [108, 116]
def w_le : List Nat := [108, 101]
def w_id : List Nat := [105, 100]
def w_version : List Nat := [118, 101, 114, 115, 105, 111, 110]
def w_name : List Nat := [110, 97, 109, 101]
def w_age : List Nat := [97, 103, 101]
def w_on : List Nat := [111, 110]
def w_v : List Nat := [118]
def w_p : List Nat := [112]
/-- a step: what it is, the path, the operator, and the place of the value or the number of steps in the brackets -/
abbrev stp : Type := Nat × Nat × List Nat × Nat
def sp (n : Nat) : stp := (n, 0, [], 0)
def tyO (way : Nat) : Nat := if way = 3 ∨ way = 6 then 2 else if way = 5 ∨ way = 7 then 3 else 1
def opw (ts : List tk) (o : Nat) : List Nat := if (tA ts o).1 = 1 then (tA ts o).2 else []
def pAt (ts : List tk) (w : Bool) (k : Nat) : Nat :=
  if w = true then (if tW ts k w_v = true then 6 else if tW ts k w_p = true then 7 else 0)
  else if tW ts k w_mail = true then (if tI ts (k + 1) 46 = false ∨ tW ts (k + 2) w_v = true then 6 else if tW ts (k + 2) w_p = true then 7 else 0)
  else if tW ts k w_id = true then 1 else if tW ts k w_version = true then 2 else if tW ts k w_name = true then 3 else if tW ts k w_age = true then 4 else if tW ts k w_on = true then 5 else 0
def vld (op : List Nat) (ty : Nat) : Bool := decide (op = w_eq ∨ op = w_ne ∨ ((op = w_gt ∨ op = w_ge ∨ op = w_lt ∨ op = w_le) ∧ ty < 3) ∨ ((op = w_co ∨ op = w_sw ∨ op = w_ew) ∧ ty = 2))
def oAt (ts : List tk) (w : Bool) (k : Nat) : Nat := if (!w && tI ts (k + 1) 46) = true then k + 3 else k + 1
def cC (ts : List tk) (w : Bool) (k : Nat) : Option (stp × Nat) :=
  if pAt ts w k = 0 ∨ (k + 1 < oAt ts w k ∧ tW ts k w_mail = false) ∨ ¬ (opw ts (oAt ts w k) = w_pr ∨ (vld (opw ts (oAt ts w k)) (tyO (pAt ts w k)) = true ∧ sc ts (oAt ts w k + 1) = tyO (pAt ts w k))) then none
  else some ((0, pAt ts w k, opw ts (oAt ts w k), oAt ts w k + 1), if opw ts (oAt ts w k) = w_pr then oAt ts w k + 1 else oAt ts w k + 2)
section
variable {P : Type} (hd : P → Option Nat → stp → Bool) (its : P → Nat)
/-- code, and what it says -/
abbrev cdT (P : Type) : Type := List stp × (P → Option Nat → Bool)
def cd_not (a : cdT P) : cdT P := (a.1 ++ [sp 3], fun p i => !a.2 p i)
def cd_and (a b : cdT P) : cdT P := (a.1 ++ b.1 ++ [sp 1], fun p i => a.2 p i && b.2 p i)
def cd_or (a b : cdT P) : cdT P := (a.1 ++ b.1 ++ [sp 2], fun p i => a.2 p i || b.2 p i)
def cd_itm (a : cdT P) : cdT P := ((4, 0, [], a.1.length) :: a.1, fun p _ => (List.range (its p)).any fun j => a.2 p (some j))
def cd_one (q : stp) : cdT P := ([q], fun p i => hd p i q)
def cT (ts : List tk) (rO : Bool → Nat → Option (cdT P × Nat)) (w : Bool) (k : Nat) : Option (cdT P × Nat) :=
  if (tW ts k w_not && tI ts (k + 1) 40) = true then (rO w (k + 2)).bind fun q => if tI ts q.2 41 = true then some (cd_not q.1, q.2 + 1) else none
  else if tI ts k 40 = true then (rO w (k + 1)).bind fun q => if tI ts q.2 41 = true then some (q.1, q.2 + 1) else none
  else if (!w && (tW ts k w_mail && tI ts (k + 1) 91)) = true then (rO true (k + 2)).bind fun q => if tI ts q.2 93 = true then some (cd_itm its q.1, q.2 + 1) else none
  else (cC ts w k).map fun q => (cd_one hd q.1, q.2)
def cA (a : Option (cdT P)) (c : cdT P) : cdT P := match a with | none => c | some x => cd_and x c
def cB (o : Option (cdT P)) (c : cdT P) : cdT P := match o with | none => c | some x => cd_or x c
def cL (ts : List tk) (rT : Nat → Option (cdT P × Nat)) : Nat → Option (cdT P) → Option (cdT P) → Nat → Option (cdT P × Nat)
  | 0, _, _, _ => none
  | f + 1, o, a, k => match rT k with
    | none => none
    | some q => if tW ts q.2 w_and = true then cL ts rT f o (some (cA a q.1)) (q.2 + 1)
      else if tW ts q.2 w_or = true then cL ts rT f (some (cB o (cA a q.1))) none (q.2 + 1)
      else some (cB o (cA a q.1), q.2)
/-- a filter at k, n more pairs may be opened in it -/
def cO (ts : List tk) : Nat → Bool → Nat → Option (cdT P × Nat)
  | 0, w, k => cL ts (cT hd its ts (fun _ _ => none) w) 120 none none k
  | n + 1, w, k => cL ts (cT hd its ts (cO ts n) w) 120 none none k
end
def red (all : Bool) : List Nat → List stp → List Nat × List stp
  | [], out => ([], out)
  | x :: s, out => if x = 1 ∨ (all = true ∧ x = 2) then red all s (out ++ [sp x]) else (x :: s, out)
section
variable {P : Type} {hd : P → Option Nat → stp → Bool} {its : P → Nat} {ts : List tk}
theorem tyO_pos (n : Nat) : 0 < tyO n := by
  unfold tyO
  split
  · decide
  · split <;> decide
theorem tW_lt {t : Nat} {w : List Nat} (h : tW ts t w = true) : t < ts.length := by
  rcases Nat.lt_or_ge t ts.length with z | z
  · exact z
  · unfold tW at h
    rw [tA_geP z] at h
    have := beq_iff_eq.1 h
    cases this
theorem opw_lt {o : Nat} (h : opw ts o ≠ []) : o < ts.length := by
  rcases Nat.lt_or_ge o ts.length with z | z
  · exact z
  · exact absurd (by unfold opw; rw [tA_geP z]; rfl) h
theorem oAt_gt (w : Bool) (k : Nat) : k < oAt ts w k := by unfold oAt; split <;> omega
theorem cC_bd {w : Bool} {k : Nat} {q : stp × Nat} (h : cC ts w k = some q) : k + 2 ≤ q.2 ∧ q.2 ≤ ts.length := by
  have hg := oAt_gt (ts := ts) w k
  unfold cC at h
  split at h
  · cases h
  · rename_i z
    have z : ¬ (¬ (opw ts (oAt ts w k) = w_pr ∨ (vld (opw ts (oAt ts w k)) (tyO (pAt ts w k)) = true ∧ sc ts (oAt ts w k + 1) = tyO (pAt ts w k)))) := fun x => z (Or.inr (Or.inr x))
    cases h
    simp only
    split
    · rename_i y
      have := opw_lt (ts := ts) (o := oAt ts w k) (by rw [y]; decide)
      omega
    · rename_i y
      rcases Decidable.not_not.1 z with x | x
      · exact absurd x y
      · have : 0 < sc ts (oAt ts w k + 1) := by rw [x.2]; exact tyO_pos _
        have := sc_lt this
        omega
theorem cT_bd {rO : Bool → Nat → Option (cdT P × Nat)} {w : Bool} {k : Nat} {q : cdT P × Nat} (hr : ∀ w k q, rO w k = some q → k < q.2) (h : cT hd its ts rO w k = some q) : k < q.2 ∧ q.2 ≤ ts.length := by
  unfold cT at h
  split at h
  · cases z : rO w (k + 2) with
    | none => rw [z] at h; cases h
    | some q' =>
      rw [z] at h
      have h : (if tI ts q'.2 41 = true then some (cd_not q'.1, q'.2 + 1) else none) = some q := h
      split at h
      · rename_i y; cases h; have := hr _ _ _ z; have := tI_lt (by decide) y; exact ⟨by simp only; omega, by simp only; omega⟩
      · cases h
  · split at h
    · cases z : rO w (k + 1) with
      | none => rw [z] at h; cases h
      | some q' =>
        rw [z] at h
        have h : (if tI ts q'.2 41 = true then some (q'.1, q'.2 + 1) else none) = some q := h
        split at h
        · rename_i y; cases h; have := hr _ _ _ z; have := tI_lt (by decide) y; exact ⟨by simp only; omega, by simp only; omega⟩
        · cases h
    · split at h
      · cases z : rO true (k + 2) with
        | none => rw [z] at h; cases h
        | some q' =>
          rw [z] at h
          have h : (if tI ts q'.2 93 = true then some (cd_itm its q'.1, q'.2 + 1) else none) = some q := h
          split at h
          · rename_i y; cases h; have := hr _ _ _ z; have := tI_lt (by decide) y; exact ⟨by simp only; omega, by simp only; omega⟩
          · cases h
      · cases z : cC ts w k with
        | none => rw [z] at h; cases h
        | some q' => rw [z] at h; cases h; have := cC_bd z; exact ⟨by simp only; omega, this.2⟩
theorem cL_bd {rT : Nat → Option (cdT P × Nat)} (hr : ∀ k q, rT k = some q → k < q.2 ∧ q.2 ≤ ts.length) : ∀ f o a k q, cL ts rT f o a k = some q → k < q.2 ∧ q.2 ≤ ts.length ∧ tW ts q.2 w_and = false ∧ tW ts q.2 w_or = false := by
  intro f
  induction f with
  | zero => intro o a k q h; cases h
  | succ f ih =>
    intro o a k q h
    rw [cL] at h
    cases z : rT k with
    | none => rw [z] at h; cases h
    | some q' =>
      rw [z] at h
      simp only at h
      have := hr _ _ z
      split at h
      · have := ih _ _ _ _ h; exact ⟨by omega, this.2⟩
      · rename_i y1
        split at h
        · have := ih _ _ _ _ h; exact ⟨by omega, this.2⟩
        · rename_i y2
          cases h
          exact ⟨this.1, this.2, by simpa using y1, by simpa using y2⟩
theorem cO_bd : ∀ n w k q, cO hd its ts n w k = some q → k < q.2 ∧ q.2 ≤ ts.length ∧ tW ts q.2 w_and = false ∧ tW ts q.2 w_or = false := by
  intro n
  induction n with
  | zero => intro w k q h; exact cL_bd (fun k q h => cT_bd (fun _ _ _ h => by cases h) h) _ _ _ _ _ h
  | succ n ih => intro w k q h; exact cL_bd (fun k q h => cT_bd (fun w k q h => (ih w k q h).1) h) _ _ _ _ _ h
theorem tW_tI {t c : Nat} {w : List Nat} (h : tW ts t w = true) (hc : c ≠ 1) : tI ts t c = false := by
  unfold tW at h
  rw [tI_ne, beq_iff_eq.1 h]
  exact fun z => hc z.symm
theorem red_len (all : Bool) : ∀ s out, (red all s out).1.length + (red all s out).2.length = s.length + out.length := by
  intro s
  induction s with
  | nil => intro out; rfl
  | cons x s ih =>
    intro out
    rw [red]
    split
    · rw [ih]; simp only [List.length_append, List.length_cons, List.length_nil]; omega
    · rfl
/-- no operator waits on top -/
def bas (s : List Nat) : Prop := ∀ x s', s = x :: s' → x ≠ 1 ∧ x ≠ 2
theorem red_bas {s : List Nat} (h : bas s) (all : Bool) (out : List stp) : red all s out = (s, out) := by
  cases s with
  | nil => rfl
  | cons x s => rw [red, if_neg]; have := h x s rfl; omega
/-- what waits on top of s -/
def pnd (o a : Bool) (s : List Nat) : List Nat := (if a = true then [1] else []) ++ (if o = true then [2] else []) ++ s
section
variable {X : Nat → Bool → Nat → Bool → List Nat → List stp → Nat → Prop}
/-- how the model's reader goes on, read backwards -/
def fwd (ts : List tk) (X : Nat → Bool → Nat → Bool → List Nat → List stp → Nat → Prop) : Prop :=
  (∀ k D w s out i, out.length + s.length ≤ k → k ≤ ts.length → D ≤ 5 → tW ts k w_not = true → tI ts (k + 1) 40 = true → X (k + 2) true (D + 1) w (4 :: s) out i → X k true D w s out i) ∧
  (∀ k D w s out i, out.length + s.length ≤ k → k ≤ ts.length → D ≤ 5 → tI ts k 40 = true → X (k + 1) true (D + 1) w (3 :: s) out i → X k true D w s out i) ∧
  (∀ k D s out i, out.length + s.length ≤ k → k ≤ ts.length → D ≤ 5 → tW ts k w_mail = true → tI ts (k + 1) 91 = true → X (k + 2) true (D + 1) true (5 :: s) (out ++ [sp 5]) out.length → X k true D false s out i) ∧
  (∀ k D w s out i q, out.length + s.length ≤ k → k ≤ ts.length → D ≤ 6 → (tW ts k w_not && tI ts (k + 1) 40) = false → tI ts k 40 = false → (!w && (tW ts k w_mail && tI ts (k + 1) 91)) = false → cC ts w k = some q → X q.2 false D w s (out ++ [q.1]) i → X k true D w s out i) ∧
  (∀ k D w s out i, out.length + s.length ≤ k → k ≤ ts.length → D ≤ 6 → tW ts k w_and = true → X (k + 1) true D w (1 :: (red false s out).1) (red false s out).2 i → X k false D w s out i) ∧
  (∀ k D w s out i, out.length + s.length ≤ k → k ≤ ts.length → D ≤ 6 → tW ts k w_or = true → X (k + 1) true D w (2 :: (red true s out).1) (red true s out).2 i → X k false D w s out i) ∧
  (∀ k D w s out i s' out', out.length + s.length ≤ k → k ≤ ts.length → D ≤ 5 → tI ts k 41 = true → red true s out = (3 :: s', out') → X (k + 1) false D w s' out' i → X k false (D + 1) w s out i) ∧
  (∀ k D w s out i s' out', out.length + s.length ≤ k → k ≤ ts.length → D ≤ 5 → tI ts k 41 = true → red true s out = (4 :: s', out') → X (k + 1) false D w s' (out' ++ [sp 3]) i → X k false (D + 1) w s out i) ∧
  (∀ k D w s out i s' out', out.length + s.length ≤ k → k ≤ ts.length → D ≤ 5 → tI ts k 93 = true → red true s out = (5 :: s', out') → i < out'.length → out'.getD i (sp 9) = sp 5 → X (k + 1) false D false s' (out'.set i (4, 0, [], out'.length - i - 1)) i → X k false (D + 1) w s out i)
/-- what the model's reader refuses -/
def stopsAt (ts : List tk) (X : Nat → Bool → Nat → Bool → List Nat → List stp → Nat → Prop) : Prop :=
  (∀ k w s out i, out.length + s.length ≤ k → k ≤ ts.length → (tW ts k w_not && tI ts (k + 1) 40) = true ∨ tI ts k 40 = true ∨ (!w && (tW ts k w_mail && tI ts (k + 1) 91)) = true → X k true 6 w s out i) ∧
  (∀ k D w s out i, out.length + s.length ≤ k → k ≤ ts.length → D ≤ 6 → (tW ts k w_not && tI ts (k + 1) 40) = false → tI ts k 40 = false → (!w && (tW ts k w_mail && tI ts (k + 1) 91)) = false → cC ts w k = none → X k true D w s out i) ∧
  (∀ k D w s out i s' out', out.length + s.length ≤ k → k ≤ ts.length → D ≤ 5 → tI ts k 41 = true → red true s out = (5 :: s', out') → i ≤ ts.length → X k false (D + 1) w s out i) ∧
  (∀ k D w s out i x s' out', out.length + s.length ≤ k → k ≤ ts.length → D ≤ 5 → tI ts k 93 = true → red true s out = (x :: s', out') → x ≠ 5 → X k false (D + 1) w s out i) ∧
  (∀ k D w s out i x s' out', out.length + s.length ≤ k → k ≤ ts.length → D ≤ 6 → tW ts k w_and = false → tW ts k w_or = false → tI ts k 41 = false → tI ts k 93 = false → red true s out = (x :: s', out') → X k false D w s out i)
def T_ok (ts : List tk) (X : Nat → Bool → Nat → Bool → List Nat → List stp → Nat → Prop) (D : Nat) (rT : Bool → Nat → Option (cdT P × Nat)) : Prop :=
  ∀ w k s out i q, out.length + s.length ≤ k → k ≤ ts.length → rT w k = some q → (∀ i', (w = true → i' = i) → (out ++ q.1.1).length + s.length ≤ q.2 → X q.2 false D w s (out ++ q.1.1) i') → X k true D w s out i
def O_ok (ts : List tk) (X : Nat → Bool → Nat → Bool → List Nat → List stp → Nat → Prop) (D : Nat) (rO : Bool → Nat → Option (cdT P × Nat)) : Prop :=
  ∀ w k s out i q, out.length + s.length ≤ k → k ≤ ts.length → bas s → rO w k = some q → (∀ i' s' out', (w = true → i' = i) → red true s' out' = (s, out ++ q.1.1) → out'.length + s'.length ≤ q.2 → X q.2 false D w s' out' i') → X k true D w s out i
def oc (o : Option (cdT P)) : List stp := match o with | none => [] | some x => x.1
theorem pnd_red {s : List Nat} (hs : bas s) {o a : Option (cdT P)} {out : List stp} {c : cdT P} : red true (pnd o.isSome a.isSome s) (out ++ oc o ++ oc a ++ c.1) = (s, out ++ (cB o (cA a c)).1) := by
  cases o with
  | none =>
    cases a with
    | none => simp only [pnd, cB, cA, oc, Option.isSome]; simp only [List.append_nil, Bool.false_eq_true, if_false, List.nil_append]; exact red_bas hs _ _
    | some x =>
      simp only [pnd, cB, cA, cd_and, oc, Option.isSome]
      simp only [List.append_nil, Bool.false_eq_true, if_false, if_true, List.nil_append, List.cons_append]
      rw [red, if_pos (Or.inl rfl), red_bas hs]
      simp only [List.append_assoc]
  | some y =>
    cases a with
    | none =>
      simp only [pnd, cB, cA, cd_or, oc, Option.isSome]
      simp only [List.append_nil, Bool.false_eq_true, if_false, if_true, List.nil_append, List.cons_append]
      rw [red, if_pos (Or.inr ⟨rfl, rfl⟩), red_bas hs]
      simp only [List.append_assoc]
    | some x =>
      simp only [pnd, cB, cA, cd_or, cd_and, oc, Option.isSome]
      simp only [if_true, List.nil_append, List.cons_append]
      rw [red, if_pos (Or.inl rfl), red, if_pos (Or.inr ⟨rfl, rfl⟩), red_bas hs]
      simp only [List.append_assoc]
theorem pnd_redF {s : List Nat} (hs : bas s) {o a : Option (cdT P)} {out : List stp} {c : cdT P} : red false (pnd o.isSome a.isSome s) (out ++ oc o ++ oc a ++ c.1) = (pnd o.isSome false s, out ++ oc o ++ (cA a c).1) := by
  have h2 : ∀ out, red false (pnd o.isSome false s) out = (pnd o.isSome false s, out) := by
    intro out
    cases o with
    | none => simp only [pnd, Option.isSome]; simp only [List.append_nil, Bool.false_eq_true, if_false, List.nil_append]; exact red_bas hs _ _
    | some y =>
      simp only [pnd, Option.isSome]
      simp only [Bool.false_eq_true, if_false, if_true, List.nil_append, List.cons_append]
      rw [red, if_neg (by decide)]
  cases a with
  | none => simp only [oc, cA, List.append_nil]; exact h2 _
  | some x =>
    have : pnd o.isSome (some x).isSome s = 1 :: pnd o.isSome false s := rfl
    rw [this, red, if_pos (Or.inl rfl), h2]
    simp only [oc, cA, cd_and, List.append_assoc]
theorem L_ok {D : Nat} (hD : D ≤ 6) {w : Bool} {rT : Bool → Nat → Option (cdT P × Nat)} (F : fwd ts X) (hb : ∀ k q, rT w k = some q → k < q.2 ∧ q.2 ≤ ts.length) (H : T_ok ts X D rT) {s : List Nat} (hs : bas s) {out : List stp} : ∀ f o a k i q, (out ++ oc o ++ oc a).length + (pnd o.isSome a.isSome s).length ≤ k → k ≤ ts.length → cL ts (rT w) f o a k = some q →
    (∀ i' s' out', (w = true → i' = i) → red true s' out' = (s, out ++ q.1.1) → out'.length + s'.length ≤ q.2 → X q.2 false D w s' out' i') → X k true D w (pnd o.isSome a.isSome s) (out ++ oc o ++ oc a) i := by
  intro f
  induction f with
  | zero => intro o a k i q _ _ h; cases h
  | succ f ih =>
    intro o a k i q hl hk h hX
    rw [cL] at h
    cases z : rT w k with
    | none => rw [z] at h; cases h
    | some q1 =>
      rw [z] at h
      simp only at h
      have bd := hb _ _ z
      refine H w k _ _ i q1 hl hk z fun i' hi' hl' => ?_
      have rl := red_len false (pnd o.isSome a.isSome s) (out ++ oc o ++ oc a ++ q1.1.1)
      have rl' := red_len true (pnd o.isSome a.isSome s) (out ++ oc o ++ oc a ++ q1.1.1)
      rw [pnd_redF hs] at rl
      rw [pnd_red hs] at rl'
      simp only at rl rl'
      split at h
      · rename_i y
        have y' := tW_lt y
        refine F.2.2.2.2.1 _ D w _ _ i' hl' bd.2 hD y ?_
        rw [pnd_redF hs]
        refine ih o (some (cA a q1.1)) _ i' q ?_ (by omega) h fun i2 s2 out2 h1 => hX i2 s2 out2 fun hw => (h1 hw).trans (hi' hw)
        show (out ++ oc o ++ (cA a q1.1).1).length + (1 :: pnd o.isSome false s).length ≤ _
        simp only [List.length_cons]; omega
      · split at h
        · rename_i y
          have y' := tW_lt y
          refine F.2.2.2.2.2.1 _ D w _ _ i' hl' bd.2 hD y ?_
          rw [pnd_red hs]
          have := ih (some (cB o (cA a q1.1))) none (q1.2 + 1) i' q ?_ (by omega) h fun i2 s2 out2 h1 => hX i2 s2 out2 fun hw => (h1 hw).trans (hi' hw)
          · simp only [oc, List.append_nil] at this
            exact this
          · simp only [oc, List.append_nil]
            show (out ++ (cB o (cA a q1.1)).1).length + (2 :: s).length ≤ _
            simp only [List.length_cons]; omega
        · cases h
          exact hX i' _ _ hi' (pnd_red hs) hl'
theorem bas_c {x : Nat} (h1 : x ≠ 1) (h2 : x ≠ 2) (s : List Nat) : bas (x :: s) := fun y s' h => by cases h; exact ⟨h1, h2⟩
theorem tW2 {t : Nat} {w w' : List Nat} (h : tW ts t w = true) (hw : w ≠ w') : tW ts t w' = false := by
  unfold tW at h ⊢
  rw [beq_iff_eq.1 h]
  exact beq_eq_false_iff_ne.2 fun z => hw (by cases z; rfl)
theorem set_mid (out c : List stp) (x y : stp) : (out ++ x :: c).set out.length y = out ++ y :: c := by
  rw [List.set_append_right _ _ (Nat.le_refl _), Nat.sub_self]
  rfl
/-- what holds for the pairs one deeper holds for the terms -/
theorem T_of_O {D : Nat} (hD : D ≤ 6) {rO : Bool → Nat → Option (cdT P × Nat)} (F : fwd ts X) (hb : ∀ w k q, rO w k = some q → k < q.2 ∧ q.2 ≤ ts.length ∧ tW ts q.2 w_and = false ∧ tW ts q.2 w_or = false) (H : D ≤ 5 → O_ok ts X (D + 1) rO) (h6 : D = 6 → ∀ w k, rO w k = none) : T_ok ts X D (cT hd its ts rO) := by
  intro w k s out i q hl hk h hX
  unfold cT at h
  split at h
  · rename_i y
    obtain ⟨y1, y2⟩ := Bool.and_eq_true_iff.1 y
    have y3 := tI_lt (by decide) y2
    cases z : rO w (k + 2) with
    | none => rw [z] at h; cases h
    | some q' =>
      rw [z] at h
      have h : (if tI ts q'.2 41 = true then some (cd_not q'.1, q'.2 + 1) else none) = some q := h
      split at h
      · rename_i v
        cases h
        have hD5 : D ≤ 5 := by
          rcases Nat.lt_or_ge D 6 with u | u
          · omega
          · rw [h6 (by omega)] at z; cases z
        have bd := hb _ _ _ z
        have v1 := tI_lt (by decide) v
        refine F.1 k D w s out i hl hk hD5 y1 y2 (H hD5 w (k + 2) (4 :: s) out i q' (by simp only [List.length_cons]; omega) (by omega) (bas_c (by decide) (by decide) s) z fun i' s' out' hi hr hl' => ?_)
        refine F.2.2.2.2.2.2.2.1 _ D w s' out' i' s (out ++ q'.1.1) hl' bd.2.1 hD5 v hr ?_
        have rl := red_len true s' out'
        rw [hr] at rl
        simp only [List.length_cons] at rl
        have e : out ++ q'.1.1 ++ [sp 3] = out ++ (cd_not q'.1).1 := by simp only [cd_not, List.append_assoc]
        rw [e]
        refine hX i' hi ?_
        rw [← e, List.length_append]
        simp only [List.length_cons, List.length_nil]
        omega
      · cases h
  · rename_i y
    split at h
    · rename_i y2
      have y3 := tI_lt (by decide) y2
      cases z : rO w (k + 1) with
      | none => rw [z] at h; cases h
      | some q' =>
        rw [z] at h
        have h : (if tI ts q'.2 41 = true then some (q'.1, q'.2 + 1) else none) = some q := h
        split at h
        · rename_i v
          cases h
          have hD5 : D ≤ 5 := by
            rcases Nat.lt_or_ge D 6 with u | u
            · omega
            · rw [h6 (by omega)] at z; cases z
          have bd := hb _ _ _ z
          have v1 := tI_lt (by decide) v
          refine F.2.1 k D w s out i hl hk hD5 y2 (H hD5 w (k + 1) (3 :: s) out i q' (by simp only [List.length_cons]; omega) (by omega) (bas_c (by decide) (by decide) s) z fun i' s' out' hi hr hl' => ?_)
          refine F.2.2.2.2.2.2.1 _ D w s' out' i' s (out ++ q'.1.1) hl' bd.2.1 hD5 v hr ?_
          have rl := red_len true s' out'
          rw [hr] at rl
          simp only [List.length_cons] at rl
          refine hX i' hi ?_
          simp only
          omega
        · cases h
    · rename_i y2
      split at h
      · rename_i y3
        obtain ⟨y4, y5⟩ := Bool.and_eq_true_iff.1 y3
        obtain ⟨y6, y7⟩ := Bool.and_eq_true_iff.1 y5
        have y8 := tI_lt (by decide) y7
        have hw : w = false := by cases w with | true => cases y4 | false => rfl
        subst hw
        cases z : rO true (k + 2) with
        | none => rw [z] at h; cases h
        | some q' =>
          rw [z] at h
          have h : (if tI ts q'.2 93 = true then some (cd_itm its q'.1, q'.2 + 1) else none) = some q := h
          split at h
          · rename_i v
            cases h
            have hD5 : D ≤ 5 := by
              rcases Nat.lt_or_ge D 6 with u | u
              · omega
              · rw [h6 (by omega)] at z; cases z
            have bd := hb _ _ _ z
            have v1 := tI_lt (by decide) v
            refine F.2.2.1 k D s out i hl hk hD5 y6 y7 (H hD5 true (k + 2) (5 :: s) (out ++ [sp 5]) out.length q' (by simp only [List.length_cons, List.length_append, List.length_nil]; omega) (by omega) (bas_c (by decide) (by decide) s) z fun i' s' out' hi hr hl' => ?_)
            have hi := hi rfl
            subst hi
            have rl := red_len true s' out'
            rw [hr] at rl
            simp only [List.length_cons, List.length_append, List.length_nil] at rl
            refine F.2.2.2.2.2.2.2.2 _ D true s' out' out.length s (out ++ [sp 5] ++ q'.1.1) hl' bd.2.1 hD5 v hr (by simp only [List.length_append, List.length_cons, List.length_nil]; omega) (by rw [List.append_assoc, List.singleton_append, List.getD_eq_getElem?_getD, List.getElem?_append_right (Nat.le_refl _), Nat.sub_self]; rfl) ?_
            have e : (out ++ [sp 5] ++ q'.1.1).set out.length (4, 0, [], (out ++ [sp 5] ++ q'.1.1).length - out.length - 1) = out ++ (cd_itm its q'.1).1 := by
              rw [List.append_assoc, List.singleton_append, set_mid]
              simp only [cd_itm, List.length_append, List.length_cons]
              rw [show out.length + (q'.1.1.length + 1) - out.length - 1 = q'.1.1.length from by omega]
            rw [e]
            refine hX out.length (fun h => by cases h) ?_
            simp only [cd_itm, List.length_append, List.length_cons]
            omega
          · cases h
      · rename_i y3
        cases z : cC ts w k with
        | none => rw [z] at h; cases h
        | some q' =>
          rw [z] at h
          cases h
          have bd := cC_bd z
          refine F.2.2.2.1 k D w s out i q' hl hk hD (by simpa using y) (by simpa using y2) (by simpa using y3) z (hX i (fun _ => rfl) ?_)
          simp only [cd_one, List.length_append, List.length_cons, List.length_nil]
          omega
theorem O_ok_n (F : fwd ts X) : ∀ n D, D + n = 6 → O_ok ts X D (cO hd its ts n) := by
  intro n
  induction n with
  | zero =>
    intro D hD w k s out i q hl hk hs h hX
    have T : T_ok ts X D (cT hd its ts (fun _ _ => none)) := T_of_O (by omega) F (fun _ _ _ h => by cases h) (fun h => by omega) (fun _ _ _ => rfl)
    have := L_ok (by omega) F (fun k q h => cT_bd (fun _ _ _ h => by cases h) h) T hs 120 none none k i q (by simpa [oc, pnd] using hl) hk h hX
    simpa [oc, pnd] using this
  | succ n ih =>
    intro D hD w k s out i q hl hk hs h hX
    have T : T_ok ts X D (cT hd its ts (cO hd its ts n)) := T_of_O (by omega) F (fun w k q h => cO_bd n w k q h) (fun h => ih (D + 1) (by omega)) (fun h => by omega)
    have := L_ok (by omega) F (fun k q h => cT_bd (fun w k q h => (cO_bd n w k q h).1) h) T hs 120 none none k i q (by simpa [oc, pnd] using hl) hk h hX
    simpa [oc, pnd] using this
def T_no (ts : List tk) (X : Nat → Bool → Nat → Bool → List Nat → List stp → Nat → Prop) (D : Nat) (rT : Bool → Nat → Option (cdT P × Nat)) : Prop :=
  ∀ w k s out i, out.length + s.length ≤ k → k ≤ ts.length → rT w k = none → X k true D w s out i
theorem L_no {D : Nat} (hD : D ≤ 6) {w : Bool} {rT : Bool → Nat → Option (cdT P × Nat)} (F : fwd ts X) (hb : ∀ k q, rT w k = some q → k < q.2 ∧ q.2 ≤ ts.length) (H : T_ok ts X D rT) (H' : T_no ts X D rT) {s : List Nat} (hs : bas s) {out : List stp} : ∀ f o a k i, (out ++ oc o ++ oc a).length + (pnd o.isSome a.isSome s).length ≤ k → k ≤ ts.length → ts.length + 1 ≤ k + 2 * f → cL ts (rT w) f o a k = none →
    X k true D w (pnd o.isSome a.isSome s) (out ++ oc o ++ oc a) i := by
  intro f
  induction f with
  | zero => intro o a k i _ _ h; omega
  | succ f ih =>
    intro o a k i hl hk hf h
    rw [cL] at h
    cases z : rT w k with
    | none => exact H' w k _ _ i hl hk z
    | some q1 =>
      rw [z] at h
      simp only at h
      have bd := hb _ _ z
      refine H w k _ _ i q1 hl hk z fun i' hi' hl' => ?_
      have rl := red_len false (pnd o.isSome a.isSome s) (out ++ oc o ++ oc a ++ q1.1.1)
      have rl' := red_len true (pnd o.isSome a.isSome s) (out ++ oc o ++ oc a ++ q1.1.1)
      rw [pnd_redF hs] at rl
      rw [pnd_red hs] at rl'
      simp only at rl rl'
      split at h
      · rename_i y
        have y' := tW_lt y
        refine F.2.2.2.2.1 _ D w _ _ i' hl' bd.2 hD y ?_
        rw [pnd_redF hs]
        refine ih o (some (cA a q1.1)) _ i' ?_ (by omega) (by omega) h
        show (out ++ oc o ++ (cA a q1.1).1).length + (1 :: pnd o.isSome false s).length ≤ _
        simp only [List.length_cons]; omega
      · split at h
        · rename_i y
          have y' := tW_lt y
          refine F.2.2.2.2.2.1 _ D w _ _ i' hl' bd.2 hD y ?_
          rw [pnd_red hs]
          have := ih (some (cB o (cA a q1.1))) none (q1.2 + 1) i' ?_ (by omega) (by omega) h
          · simp only [oc, List.append_nil] at this
            exact this
          · simp only [oc, List.append_nil]
            show (out ++ (cB o (cA a q1.1)).1).length + (2 :: s).length ≤ _
            simp only [List.length_cons]; omega
        · cases h
def O_no (ts : List tk) (X : Nat → Bool → Nat → Bool → List Nat → List stp → Nat → Prop) (D : Nat) (rO : Bool → Nat → Option (cdT P × Nat)) : Prop :=
  ∀ w k s out i, out.length + s.length ≤ k → k ≤ ts.length → bas s → rO w k = none → X k true D w s out i
theorem T_of_Ono {D : Nat} (hD : D ≤ 6) {rO : Bool → Nat → Option (cdT P × Nat)} (F : fwd ts X) (N : stopsAt ts X) (hb : ∀ w k q, rO w k = some q → k < q.2 ∧ q.2 ≤ ts.length ∧ tW ts q.2 w_and = false ∧ tW ts q.2 w_or = false) (H : D ≤ 5 → O_ok ts X (D + 1) rO) (H' : D ≤ 5 → O_no ts X (D + 1) rO) : T_no ts X D (cT hd its ts rO) := by
  intro w k s out i hl hk h
  have e41 : ∀ e D' w' s' out' i' x (s2 : List Nat) out2, D' ≤ 5 → out'.length + s'.length ≤ e → e ≤ ts.length → tW ts e w_and = false → tW ts e w_or = false → ¬ tI ts e 41 = true → x ≠ 5 → red true s' out' = (x :: s2, out2) → X e false (D' + 1) w' s' out' i' := by
    intro e D' w' s' out' i' x s2 out2 h0 h1 h2 a1 a2 a3 hx hr
    by_cases v : tI ts e 93 = true
    · exact N.2.2.2.1 e D' w' s' out' i' x s2 out2 h1 h2 h0 v hr hx
    · exact N.2.2.2.2 e (D' + 1) w' s' out' i' x s2 out2 h1 h2 (by omega) a1 a2 (by simpa using a3) (by simpa using v) hr
  unfold cT at h
  split at h
  · rename_i y
    obtain ⟨y1, y2⟩ := Bool.and_eq_true_iff.1 y
    have y3 := tI_lt (by decide) y2
    rcases Nat.lt_or_ge D 6 with u | u
    · have hD5 : D ≤ 5 := by omega
      refine F.1 k D w s out i hl hk hD5 y1 y2 ?_
      cases z : rO w (k + 2) with
      | none => exact H' hD5 w (k + 2) (4 :: s) out i (by simp only [List.length_cons]; omega) (by omega) (bas_c (by decide) (by decide) s) z
      | some q' =>
        rw [z] at h
        have h : (if tI ts q'.2 41 = true then some (cd_not q'.1, q'.2 + 1) else none) = none := h
        split at h
        · cases h
        · rename_i v
          have bd := hb _ _ _ z
          refine H hD5 w (k + 2) (4 :: s) out i q' (by simp only [List.length_cons]; omega) (by omega) (bas_c (by decide) (by decide) s) z fun i' s' out' hi hr hl' => ?_
          exact e41 _ _ _ _ _ _ _ _ _ (by omega) hl' bd.2.1 bd.2.2.1 bd.2.2.2 v (by decide) hr
    · have : D = 6 := by omega
      subst this
      exact N.1 k w s out i hl hk (Or.inl y)
  · rename_i y
    split at h
    · rename_i y2
      have y3 := tI_lt (by decide) y2
      rcases Nat.lt_or_ge D 6 with u | u
      · have hD5 : D ≤ 5 := by omega
        refine F.2.1 k D w s out i hl hk hD5 y2 ?_
        cases z : rO w (k + 1) with
        | none => exact H' hD5 w (k + 1) (3 :: s) out i (by simp only [List.length_cons]; omega) (by omega) (bas_c (by decide) (by decide) s) z
        | some q' =>
          rw [z] at h
          have h : (if tI ts q'.2 41 = true then some (q'.1, q'.2 + 1) else none) = none := h
          split at h
          · cases h
          · rename_i v
            have bd := hb _ _ _ z
            refine H hD5 w (k + 1) (3 :: s) out i q' (by simp only [List.length_cons]; omega) (by omega) (bas_c (by decide) (by decide) s) z fun i' s' out' hi hr hl' => ?_
            exact e41 _ _ _ _ _ _ _ _ _ (by omega) hl' bd.2.1 bd.2.2.1 bd.2.2.2 v (by decide) hr
      · have : D = 6 := by omega
        subst this
        exact N.1 k w s out i hl hk (Or.inr (Or.inl y2))
    · rename_i y2
      split at h
      · rename_i y3
        obtain ⟨y4, y5⟩ := Bool.and_eq_true_iff.1 y3
        obtain ⟨y6, y7⟩ := Bool.and_eq_true_iff.1 y5
        have y8 := tI_lt (by decide) y7
        have hw : w = false := by cases w with | true => cases y4 | false => rfl
        rcases Nat.lt_or_ge D 6 with u | u
        · have hD5 : D ≤ 5 := by omega
          subst hw
          refine F.2.2.1 k D s out i hl hk hD5 y6 y7 ?_
          cases z : rO true (k + 2) with
          | none => exact H' hD5 true (k + 2) (5 :: s) (out ++ [sp 5]) out.length (by simp only [List.length_cons, List.length_append, List.length_nil]; omega) (by omega) (bas_c (by decide) (by decide) s) z
          | some q' =>
            rw [z] at h
            have h : (if tI ts q'.2 93 = true then some (cd_itm its q'.1, q'.2 + 1) else none) = none := h
            split at h
            · cases h
            · rename_i v
              have bd := hb _ _ _ z
              refine H hD5 true (k + 2) (5 :: s) (out ++ [sp 5]) out.length q' (by simp only [List.length_cons, List.length_append, List.length_nil]; omega) (by omega) (bas_c (by decide) (by decide) s) z fun i' s' out' hi hr hl' => ?_
              by_cases v' : tI ts q'.2 41 = true
              · exact N.2.2.1 _ _ _ _ _ _ _ _ hl' bd.2.1 (by omega) v' hr (by rw [hi rfl]; omega)
              · exact N.2.2.2.2 _ _ _ _ _ _ _ _ _ hl' bd.2.1 (by omega) bd.2.2.1 bd.2.2.2 (by simpa using v') (by simpa using v) hr
        · have : D = 6 := by omega
          subst this
          exact N.1 k w s out i hl hk (Or.inr (Or.inr y3))
      · rename_i y3
        cases z : cC ts w k with
        | none => exact N.2.1 k D w s out i hl hk hD (by simpa using y) (by simpa using y2) (by simpa using y3) z
        | some q' => rw [z] at h; cases h
theorem O_no_n (F : fwd ts X) (N : stopsAt ts X) (hts : ts.length ≤ 200) : ∀ n D, D + n = 6 → O_no ts X D (cO hd its ts n) := by
  intro n
  induction n with
  | zero =>
    intro D hD w k s out i hl hk hs h
    have T : T_ok ts X D (cT hd its ts (fun _ _ => none)) := T_of_O (by omega) F (fun _ _ _ h => by cases h) (fun h => by omega) (fun _ _ _ => rfl)
    have T' : T_no ts X D (cT hd its ts (fun _ _ => none)) := T_of_Ono (by omega) F N (fun _ _ _ h => by cases h) (fun h => by omega) (fun h => by omega)
    have := L_no (by omega) F (fun k q h => cT_bd (fun _ _ _ h => by cases h) h) T T' hs 120 none none k i (by simpa [oc, pnd] using hl) hk (by omega) h
    simpa [oc, pnd] using this
  | succ n ih =>
    intro D hD w k s out i hl hk hs h
    have T : T_ok ts X D (cT hd its ts (cO hd its ts n)) := T_of_O (by omega) F (fun w k q h => cO_bd n w k q h) (fun h => O_ok_n F n (D + 1) (by omega)) (fun h => by omega)
    have T' : T_no ts X D (cT hd its ts (cO hd its ts n)) := T_of_Ono (by omega) F N (fun w k q h => cO_bd n w k q h) (fun h => O_ok_n F n (D + 1) (by omega)) (fun h => ih (D + 1) (by omega))
    have := L_no (by omega) F (fun k q h => cT_bd (fun w k q h => (cO_bd n w k q h).1) h) T T' hs 120 none none k i (by simpa [oc, pnd] using hl) hk (by omega) h
    simpa [oc, pnd] using this
end
end
