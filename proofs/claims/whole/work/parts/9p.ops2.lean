section
variable {d : Nat} {h : mx_H} {ts : List tk}
def ecB (e : Int) : Prop := -500 < e ∧ e ≤ 0
theorem fin_b (p : prs) (l : List itf) : ecB (fin p l).1 := by
  unfold fin
  split
  · exact ⟨(by decide : (-500 : Int) < -401), (by decide : (-401 : Int) ≤ 0)⟩
  · exact ⟨(by decide : (-500 : Int) < 0), (by decide : (0 : Int) ≤ 0)⟩
theorem aPl_b (c way v : Nat) (p : prs) : ecB (aPl ts c way v p).1 := by
  rcases aPl_e (ts := ts) c way v p with q | q | q <;> rw [q] <;> exact ⟨by decide, by decide⟩
theorem aMl_b (c v : Nat) (p : prs) : ecB (aMl ts c v p).1 := by
  unfold aMl
  repeat' split
  all_goals first | exact fin_b _ _ | exact ⟨(by decide : (-500 : Int) < 0), (by decide : (0 : Int) ≤ 0)⟩ | exact ⟨(by decide : (-500 : Int) < -401), (by decide : (-401 : Int) ≤ 0)⟩ | exact ⟨(by decide : (-500 : Int) < -413), (by decide : (-413 : Int) ≤ 0)⟩
theorem aCh_b (c part v : Nat) (g : prs → Option Nat → Bool) (p : prs) : ecB (aCh ts c part v g p).1 := by
  unfold aCh
  repeat' split
  all_goals first | exact fin_b _ _ | exact ⟨(by decide : (-500 : Int) < 0), (by decide : (0 : Int) ≤ 0)⟩ | exact ⟨(by decide : (-500 : Int) < -401), (by decide : (-401 : Int) ≤ 0)⟩ | exact ⟨(by decide : (-500 : Int) < -402), (by decide : (-402 : Int) ≤ 0)⟩ | exact ⟨(by decide : (-500 : Int) < -403), (by decide : (-403 : Int) ≤ 0)⟩
theorem aTg_b (c way : Nat) (g : prs → Option Nat → Bool) (v : Nat) (p : prs) : ecB (aTg ts c way g v p).1 := by
  unfold aTg
  repeat' split
  · exact aPl_b ..
  · exact aMl_b ..
  · exact aCh_b ..
  · exact aCh_b ..
theorem aAl_b (c : Nat) : ∀ l p, ecB (aAl ts c l p).1 := by
  intro l
  induction l with
  | nil => intro p; exact ⟨(by decide : (-500 : Int) < 0), (by decide : (0 : Int) ≤ 0)⟩
  | cons m l ih =>
    intro p
    rw [aAl]
    by_cases a : nmf ts m = w_id ∨ nmf ts m = w_version
    · rw [if_pos a]; exact ih p
    · rw [if_neg a]
      by_cases b : wyN (nmf ts m) = 0
      · rw [if_pos b]; exact ⟨(by decide : (-500 : Int) < -401), (by decide : (-401 : Int) ≤ 0)⟩
      · rw [if_neg b]
        have t := aTg_b (ts := ts) c (wyN (nmf ts m)) (fun _ _ => true) (m + 2) p
        generalize aTg ts c (wyN (nmf ts m)) (fun _ _ => true) (m + 2) p = u at *
        obtain ⟨e, p'⟩ := u
        show ecB (if e = 0 then aAl ts c l p' else (e, p)).1
        by_cases z : e = 0
        · rw [if_pos z]; exact ih p'
        · rw [if_neg z]; exact t
theorem aOp_b (o : opr) (p : prs) : ecB (aOp ts o p).1 := by
  unfold aOp
  split
  · split
    · exact aAl_b ..
    · exact ⟨(by decide : (-500 : Int) < -401), (by decide : (-401 : Int) ≤ 0)⟩
  · exact aTg_b ..
theorem ecB_0 {e : Int} (h : ecB e) : (Int32.ofInt e = 0 ↔ e = 0) ∧ (e ≠ 0 → ¬ (0 : Int32) ≤ Int32.ofInt e) := by
  obtain ⟨a, b⟩ := h
  have t : (Int32.ofInt e).toInt = e := Int32.toInt_ofInt_of_le (by show (-2147483648 : Int) ≤ e; omega) (by show e < 2147483648; omega)
  refine ⟨⟨fun z => ?_, fun z => by rw [z]; rfl⟩, fun z y => ?_⟩
  · rw [z] at t
    exact t.symm
  · have := Int32.le_iff_toInt_le.1 y
    rw [t] at this
    have : (0 : Int) ≤ e := this
    omega
end
