section
variable {d : Nat} {h : mx_H} {ts : List tk}
/-- the value is right -/
def chO (ts : List tk) (c part v : Nat) : Bool := if part = 1 then ftx ts v else if part = 2 then decide (sc ts v = 3) else iiB ts v (c == 61)
/-- the items that the operation makes of the chosen -/
def chR (ts : List tk) (c part v : Nat) (bs : List Bool) (l : List itm) : Int × List itf :=
  if c = 45 ∧ part = 1 then (-402, mrk l) else if c = 45 ∧ part = 0 then (0, mrk (dpd l bs))
  else if c ≠ 45 ∧ (bs.all fun b => !b) = true then (-403, mrk l)
  else if c = 45 ∨ chO ts c part v = true then (0, chM (chF ts c part v) l bs) else (-401, mrk l)
theorem kp_mrk (l : List itm) : kp (mrk l) = l := by
  have e : ∀ l, kp1 (mrk l) = none := by
    intro l
    induction l with
    | nil => rfl
    | cons x l ih =>
      show (if false = true then _ else (kp1 (mrk l)).map _) = none
      rw [ih]
      rfl
  unfold kp
  rw [e]
  show (mrk l).map (fun x => x.1) = l
  unfold mrk
  rw [List.map_map]
  exact List.map_id l
theorem chM_ext {f g : itm → itf} (e : ∀ x, f x = g x) (l : List itm) (bs : List Bool) : chM f l bs = chM g l bs := by rw [funext e]
theorem aCh_R {c part v : Nat} {g : prs → Option Nat → Bool} {p : prs} (hp : part < 3) (W : wfP p) (hv : c ≠ 45 → vOk ts v) : aCh ts c part v g p = fnR p (chR ts c part v (chs g p) (pit p)) := by
  unfold aCh chR fnR
  generalize hbs : chs g p = bs
  by_cases a1 : c = 45 ∧ part = 1
  · rw [if_pos a1, if_pos a1]; rfl
  rw [if_neg a1, if_neg a1]
  by_cases a2 : c = 45 ∧ part = 0
  · rw [if_pos a2, if_pos a2, if_pos rfl]
    show (0, sIt p (dpd (pit p) bs)) = fin p (mrk (dpd (pit p) bs))
    unfold fin
    rw [kp_mrk, if_neg]
    have sub : (dpd (pit p) bs).Sublist (pit p) := drop_sub _ _
    rw [(wfI_sub W.2.2 sub).2.2]
    decide
  rw [if_neg a2, if_neg a2]
  by_cases a3 : c ≠ 45 ∧ (bs.all fun b => !b) = true
  · rw [if_pos a3, if_pos a3]; rfl
  rw [if_neg a3, if_neg a3]
  by_cases p1 : part = 1
  · rw [if_pos p1]
    subst p1
    have c45 : c ≠ 45 := fun z => a1 ⟨z, rfl⟩
    unfold chO
    rw [if_pos rfl]
    by_cases f : ftx ts v = true
    · rw [if_pos f, if_pos (Or.inr f), if_pos rfl]
      rfl
    · have nn : ¬ (c = 45 ∨ ftx ts v = true) := fun z => z.elim c45 f
      rw [if_neg f]
      simp only [if_neg nn]
      rfl
  rw [if_neg p1]
  by_cases p2 : part = 2
  · rw [if_pos p2]
    subst p2
    by_cases c45 : c = 45
    · rw [if_pos c45, if_pos (Or.inl c45), if_pos rfl]
      congr 1
      refine chM_ext (fun x => ?_) _ _
      unfold chF
      rw [if_neg (by decide), if_pos rfl, if_pos c45]
    · rw [if_neg c45]
      have : chO ts c 2 v = decide (sc ts v = 3) := rfl
      rw [this]
      by_cases f : sc ts v = 3
      · rw [if_pos f, if_pos (Or.inr (decide_eq_true f)), if_pos rfl]
        congr 1
        refine chM_ext (fun x => ?_) _ _
        unfold chF
        rw [if_neg (by decide), if_pos rfl, if_neg c45]
      · have nn : ¬ (c = 45 ∨ decide (sc ts v = 3) = true) := fun z => z.elim c45 fun y => f (of_decide_eq_true y)
        rw [if_neg f]
        simp only [if_neg nn]
        rfl
  rw [if_neg p2]
  have p0 : part = 0 := by omega
  subst p0
  have c45 : c ≠ 45 := fun z => a2 ⟨z, rfl⟩
  have hv := hv c45
  have : chO ts c 0 v = iiB ts v (c == 61) := rfl
  rw [this, iO_val hv]
  unfold iiB
  by_cases y : tI ts v 123 = true ∧ (kd ts v).all (gl ts) = true
  · rw [if_pos y, y.1, y.2, Bool.true_and, Bool.and_true]
    by_cases c61 : c = 61
    · have cb : (c == 61) = true := by rw [c61]; rfl
      rw [cb, Bool.not_true, Bool.false_or]
      simp only [if_pos c61]
      cases z : fnd ts (kd ts v) w_v with
      | none =>
        have z1 : (itO ts v).1 = none := by unfold itO; rw [z]; rfl
        have nn : ¬ (c = 45 ∨ (none : Option Nat).isSome = true) := fun q => q.elim c45 (by decide)
        rw [z1]
        simp only [if_neg nn]
        rfl
      | some m =>
        have z1 : (itO ts v).1 = some (tx ts (m + 2)) := by unfold itO; rw [z]; rfl
        have nn : c = 45 ∨ (some m).isSome = true := Or.inr rfl
        rw [z1]
        simp only [if_pos nn, if_true]
        congr 1
        refine chM_ext (fun x => ?_) _ _
        unfold chF gai
        rw [if_neg (by decide), if_neg (by decide), z1, if_pos c61]
        cases (itO ts v).2 <;> rfl
    · have cb : (c == 61) = false := beq_eq_false_iff_ne.2 c61
      rw [cb, Bool.not_false, Bool.true_or, if_pos (Or.inr rfl), if_pos rfl]
      simp only [if_neg c61]
      congr 1
      refine chM_ext (fun x => ?_) _ _
      unfold chF
      rw [if_neg (by decide), if_neg (by decide), if_neg c61]
  · rw [if_neg y]
    have : (tI ts v 123 && ((!(c == 61) || (fnd ts (kd ts v) w_v).isSome) && (kd ts v).all (gl ts))) = false := by
      cases q1 : tI ts v 123 with
      | false => rfl
      | true =>
        cases q2 : (kd ts v).all (gl ts) with
        | false => rw [Bool.and_false]; rfl
        | true => exact absurd ⟨q1, q2⟩ y
    have nn : ¬ (c = 45 ∨ false = true) := fun q => q.elim c45 (by decide)
    rw [this]
    simp only [if_neg nn]
    rfl
end
