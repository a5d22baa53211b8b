section
variable {ts : List tk} {X : Nat → List Bool → Bool → Prop}
def op (o : Bool) : Nat := if o = true then 123 else 91
/-- how the model goes through a value, read backwards -/
def bfw (ts : List tk) (X : Nat → List Bool → Bool → Prop) : Prop :=
  (∀ k os, k < ts.length → os.length ≤ 3 → 0 < sc ts k → X (k + 1) os false → X k os true) ∧
  (∀ k os o, os.length ≤ 2 → tI ts k (op o) = true → tI ts (k + 1) (cl o) = false → (o = true → isMem ts (k + 1) = true) → X (mv o (k + 1)) (o :: os) true → X k os true) ∧
  (∀ k os o, os.length ≤ 2 → tI ts k (op o) = true → tI ts (k + 1) (cl o) = true → X (k + 1) (o :: os) false → X k os true) ∧
  (∀ k os o, os.length ≤ 2 → tI ts k (cl o) = true → X (k + 1) os false → X k (o :: os) false) ∧
  (∀ k os o, os.length ≤ 2 → tI ts k (cl o) = false → tI ts k 44 = true → (o = true → isMem ts (k + 1) = true) → X (mv o (k + 1)) (o :: os) true → X k (o :: os) false)
def bst (ts : List tk) (X : Nat → List Bool → Bool → Prop) : Prop :=
  (∀ k os o, os.length = 3 → tI ts k (op o) = true → X k os true) ∧
  (∀ k os, os.length ≤ 2 → tI ts k 123 = true → tI ts (k + 1) 125 = false → isMem ts (k + 1) = false → X k os true) ∧
  (∀ k os, k ≤ ts.length → os.length ≤ 3 → tI ts k 123 = false → tI ts k 91 = false → sc ts k = 0 → X k os true) ∧
  (∀ k os o, k ≤ ts.length → os.length ≤ 2 → tI ts k (cl o) = false → tI ts k 44 = false → X k (o :: os) false) ∧
  (∀ k os, os.length ≤ 2 → tI ts k 125 = false → tI ts k 44 = true → isMem ts (k + 1) = false → X k (true :: os) false)
theorem op_ne {o : Bool} {t : Nat} (h : tI ts t (op o) = true) : (o = true → tI ts t 123 = true) ∧ (o = false → tI ts t 123 = false ∧ tI ts t 91 = true) := by
  rw [tI_eq] at h
  refine ⟨fun ho => ?_, fun ho => ?_⟩
  · subst ho; rw [tI_eq, h]; rfl
  · subst ho; rw [tI_ne, tI_eq, h]; exact ⟨by decide, rfl⟩
theorem b_P {n : Nat} {o : Bool} {os : List Bool} (F : bfw ts X) (hos : os.length ≤ 2) (H : ∀ t e, pE ts n t = some e → X e (o :: os) false → X t (o :: os) true) : ∀ f k q, pP (pE ts n) ts o f k = some q → X q.2 os false → X (mv o k) (o :: os) true := by
  intro f
  induction f with
  | zero => intro k q h; cases h
  | succ f ih =>
    intro k q h hX
    obtain ⟨-, e, z, ⟨y, h⟩ | ⟨y1, y2, q', w, h⟩⟩ := pP_inv h
    · subst h
      exact H _ _ z (F.2.2.2.1 _ _ _ hos y hX)
    · subst h
      refine H _ _ z (F.2.2.2.2 _ _ _ hos y1 y2 ?_ (ih _ q' w hX))
      intro ho
      cases f with
      | zero => cases w
      | succ f => exact (pP_inv w).1 ho
theorem b_E (F : bfw ts X) : ∀ n t e os, os.length + n = 3 → pE ts n t = some e → X e os false → X t os true := by
  intro n
  induction n with
  | zero =>
    intro t e os ho h hX
    rw [pE_0] at h
    split at h
    · rename_i z; cases h; exact F.1 _ _ (sc_lt z) (by omega) z hX
    · cases h
  | succ n ih =>
    intro t e os ho h hX
    have hob : ∀ (o : Bool) q, tI ts t (op o) = true → tI ts (t + 1) (cl o) = false → pP (pE ts n) ts o 120 (t + 1) = some q → X q.2 os false → X t os true := by
      intro o q y1 y2 w hx
      exact F.2.1 t os o (by omega) y1 y2 (pP_inv w).1 (b_P F (by omega) (fun t e => ih t e (o :: os) (by simp only [List.length_cons]; omega)) _ _ _ w hx)
    have hoe : ∀ (o : Bool), tI ts t (op o) = true → tI ts (t + 1) (cl o) = true → X (t + 2) os false → X t os true := by
      intro o y1 y2 hx
      exact F.2.2.1 t os o (by omega) y1 y2 (F.2.2.2.1 _ _ _ (by omega) y2 hx)
    rw [pE] at h
    split at h
    · rename_i y
      split at h
      · rename_i y'; cases h; exact hoe true y y' hX
      · rename_i y'
        cases w : pP (pE ts n) ts true 120 (t + 1) with
        | none => rw [w] at h; cases h
        | some q => rw [w] at h; cases h; exact hob true q y (Bool.eq_false_iff.2 y') w hX
    · split at h
      · rename_i y
        split at h
        · rename_i y'; cases h; exact hoe false y y' hX
        · rename_i y'
          cases w : pP (pE ts n) ts false 120 (t + 1) with
          | none => rw [w] at h; cases h
          | some q => rw [w] at h; cases h; exact hob false q y (Bool.eq_false_iff.2 y') w hX
      · split at h
        · rename_i z; cases h; exact F.1 _ _ (sc_lt z) (by omega) z hX
        · cases h
theorem b_Pno {n : Nat} {o : Bool} {os : List Bool} (F : bfw ts X) (N : bst ts X) (hos : os.length ≤ 2) (H : ∀ t e, pE ts n t = some e → X e (o :: os) false → X t (o :: os) true) (H' : ∀ t, t ≤ ts.length → pE ts n t = none → X t (o :: os) true) :
    ∀ f k, k ≤ ts.length → ts.length + 1 ≤ k + f → (o = true → isMem ts k = true) → pP (pE ts n) ts o f k = none → X (mv o k) (o :: os) true := by
  intro f
  induction f with
  | zero => intro k h1 h2; omega
  | succ f ih =>
    intro k h1 h2 hm h
    cases z : pE ts n (mv o k) with
    | none =>
      refine H' _ ?_ z
      cases o with
      | false => exact h1
      | true =>
        have := tI_lt (by decide) (isMem_1 (hm rfl)).2
        show k + 2 ≤ _
        omega
    | some e =>
      have bd := pE_bd _ _ _ z
      have mg := mv_ge o k
      refine H _ _ z ?_
      by_cases y : tI ts e (cl o) = true
      · rw [pP_1 hm z y] at h; cases h
      · have y := Bool.eq_false_iff.2 y
        by_cases y2 : tI ts e 44 = true
        · rw [pP_2 hm z y y2] at h
          have e1 := tI_lt (by decide) y2
          have h : pP (pE ts n) ts o f (e + 1) = none := by
            cases w : pP (pE ts n) ts o f (e + 1) with
            | none => rfl
            | some q => rw [w] at h; cases h
          by_cases hm' : o = true → isMem ts (e + 1) = true
          · exact F.2.2.2.2 _ _ _ hos y y2 hm' (ih (e + 1) (by omega) (by omega) hm' h)
          · have ho : o = true := by
              cases o with
              | true => rfl
              | false => exact absurd (fun x => by cases x) hm'
            subst ho
            refine N.2.2.2.2 _ _ hos y y2 ?_
            exact Bool.eq_false_iff.2 fun x => hm' fun _ => x
        · exact N.2.2.2.1 _ _ _ bd.2 hos y (Bool.eq_false_iff.2 y2)
theorem b_no (F : bfw ts X) (N : bst ts X) (hl : ts.length ≤ 120) : ∀ n t os, os.length + n = 3 → t ≤ ts.length → pE ts n t = none → X t os true := by
  intro n
  induction n with
  | zero =>
    intro t os ho ht h
    rw [pE_0] at h
    split at h
    · cases h
    · rename_i z
      by_cases y : tI ts t 123 = true
      · exact N.1 t os true (by omega) y
      · by_cases y2 : tI ts t 91 = true
        · exact N.1 t os false (by omega) y2
        · exact N.2.2.1 t os ht (by omega) (Bool.eq_false_iff.2 y) (Bool.eq_false_iff.2 y2) (by omega)
  | succ n ih =>
    intro t os ho ht h
    have hob : ∀ (o : Bool), tI ts t (op o) = true → tI ts (t + 1) (cl o) = false → pP (pE ts n) ts o 120 (t + 1) = none → X t os true := by
      intro o y1 y2 w
      have t1 := tI_lt (by cases o <;> decide) y1
      by_cases hm : o = true → isMem ts (t + 1) = true
      · exact F.2.1 t os o (by omega) y1 y2 hm (b_Pno F N (by omega) (fun t e => b_E F n t e (o :: os) (by simp only [List.length_cons]; omega)) (fun t ht => ih t (o :: os) (by simp only [List.length_cons]; omega) ht) 120 (t + 1) (by omega) (by omega) hm w)
      · have ho : o = true := by
          cases o with
          | true => rfl
          | false => exact absurd (fun x => by cases x) hm
        subst ho
        exact N.2.1 t os (by omega) y1 y2 (Bool.eq_false_iff.2 fun x => hm fun _ => x)
    rw [pE] at h
    split at h
    · rename_i y
      split at h
      · cases h
      · rename_i y'
        cases w : pP (pE ts n) ts true 120 (t + 1) with
        | none => exact hob true y (Bool.eq_false_iff.2 y') w
        | some q => rw [w] at h; cases h
    · rename_i y0
      split at h
      · rename_i y
        split at h
        · cases h
        · rename_i y'
          cases w : pP (pE ts n) ts false 120 (t + 1) with
          | none => exact hob false y (Bool.eq_false_iff.2 y') w
          | some q => rw [w] at h; cases h
      · rename_i y2
        split at h
        · cases h
        · exact N.2.2.1 t os ht (by omega) (Bool.eq_false_iff.2 y0) (Bool.eq_false_iff.2 y2) (by omega)
end
