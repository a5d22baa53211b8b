section
variable {d : Nat} {h : mx_H}
def Ppu (a k : Nat) : Bool := a == 78 || (a == 76 && k == 3)
theorem stpu : stP Ppu := ⟨fun _ _ => rfl, rfl, rfl, fun _ => rfl⟩
theorem buf_B {bs : List Nat} (B : rm_buf h bs) : rm_B h bs.length := by
  have T := B.1
  have q := T.2.2.1 (2, 78, .char, 120) (by decide)
  obtain ⟨x, hx⟩ := T.2.2.2 3 (by decide)
  have b3 := B.2.2.1
  have b4 : mi h 76 3 = x := by unfold mi; rw [hx]
  refine ⟨mr_t76 T, T.2.1, q.1, by rw [hx, ← b3, b4], q.2.1, q.2.2.1⟩
theorem mb_nat {c : Int32} (e : mb_ok c = true) : c = nI c.toNatClampNeg ∧ c.toNatClampNeg < 128 := by
  have b : (0 : Int) ≤ c.toInt ∧ c.toInt ≤ 126 := by
    unfold mb_ok at e
    rcases Bool.or_eq_true _ _ ▸ e with z | z
    · rw [of_decide_eq_true z]; decide
    · rw [Bool.and_eq_true] at z
      have a1 := Int32.le_iff_toInt_le.1 (of_decide_eq_true z.1)
      have a2 := Int32.le_iff_toInt_le.1 (of_decide_eq_true z.2)
      have a1 : (32 : Int) ≤ c.toInt := a1
      have a2 : c.toInt ≤ (126 : Int) := a2
      omega
  have t : c.toNatClampNeg = c.toInt.toNat := rfl
  rw [t]
  refine ⟨Int32.toInt_inj.1 ?_, by omega⟩
  rw [nI_toInt (by omega)]
  omega
/-- the letters that come, the last first -/
def pLt (w : Int32) : Nat → List Nat
  | 0 => []
  | k + 1 => (mb w k).toNatClampNeg :: pLt w k
theorem rm_appB (w : Int32) : ∀ k bs h, rm_buf h bs → bs.length + k ≤ 120 → (∀ p, p < k → mb_ok (mb w p) = true) → rm_buf (rm_app w k bs.length h) (bs ++ pLt w k) ∧ mf Ppu h (rm_app w k bs.length h) := by
  intro k
  induction k with
  | zero => intro bs h B _ _; exact ⟨by rw [pLt, List.append_nil]; exact B, mf_rfl B.1⟩
  | succ k ih =>
    intro bs h B hk hw
    obtain ⟨c1, c2⟩ := mb_nat (hw k (Nat.lt_succ_self _))
    have T := B.1
    have m1 : mf Ppu h (mx_up h 78 bs.length (.int (mb w k))) := mf_up (mf_rfl T) (by decide) rfl
    have T1 := m1.1
    have m2 : mf Ppu h (mx_up (mx_up h 78 bs.length (.int (mb w k))) 76 3 (.int (nI (bs.length + 1)))) := mf_f m1 (by decide) rfl
    have B2 : rm_buf (mx_up (mx_up h 78 bs.length (.int (mb w k))) 76 3 (.int (nI (bs.length + 1)))) (bs ++ [(mb w k).toNatClampNeg]) := by
      refine ⟨m2.1, by rw [List.length_append, List.length_singleton]; omega, by rw [mi_f T1 (by decide), if_pos rfl, List.length_append, List.length_singleton], fun j hj => ?_⟩
      rw [List.length_append, List.length_singleton] at hj
      rw [mi_up, if_neg (by omega), mi_a T mr_ty_78 (by show _ < 120; omega), List.getD_eq_getElem?_getD, List.getElem?_append]
      by_cases e : j = bs.length
      · rw [if_pos e, if_neg (by omega), show j - bs.length = 0 by omega]
        exact ⟨c1, c2⟩
      · rw [if_neg e, if_pos (by omega), ← List.getD_eq_getElem?_getD]
        exact B.2.2.2 j (by omega)
    obtain ⟨B3, m3⟩ := ih _ _ B2 (by rw [List.length_append, List.length_singleton]; omega) fun p hp => hw p (by omega)
    rw [List.length_append, List.length_singleton, List.append_assoc] at B3
    rw [List.length_append, List.length_singleton] at m3
    exact ⟨B3, mf_trans m2 m3⟩
def s_put (w n : Int32) (bs : List Nat) : Int × List Nat :=
  if n < 1 ∨ 4 < n ∨ 120 < bs.length + n.toNatClampNeg ∨ (List.range n.toNatClampNeg).all (fun p => mb_ok (mb w p)) = false then (0, bs) else (1, bs ++ pLt w n.toNatClampNeg)
theorem rm_putB {bs : List Nat} {sl : slt} {s : sto} (M : mSt h sl s) (B : rm_buf h bs) (w n : Int32) :
    ∃ h', mx_G d 237 0 [some (.ref 76), some (.int w), some (.int n), none, none] [] h = some (some (.int (Int32.ofInt (s_put w n bs).1)), h') ∧ mSt h' sl s ∧ rm_buf h' (s_put w n bs).2 := by
  have r := rm_put (d := d) (buf_B B) B.2.1 w n
  unfold s_put
  by_cases c : n < 1 ∨ 4 < n ∨ 120 < bs.length + n.toNatClampNeg ∨ (List.range n.toNatClampNeg).all (fun p => mb_ok (mb w p)) = false
  · rw [if_pos c] at r ⊢
    exact ⟨h, r, M, B⟩
  · rw [if_neg c] at r ⊢
    have c3 : bs.length + n.toNatClampNeg ≤ 120 := Nat.le_of_not_lt fun z => c (Or.inr (Or.inr (Or.inl z)))
    have c4 : (List.range n.toNatClampNeg).all (fun p => mb_ok (mb w p)) = true := by
      cases z : (List.range n.toNatClampNeg).all (fun p => mb_ok (mb w p)) with
      | true => rfl
      | false => exact absurd (Or.inr (Or.inr (Or.inr z))) c
    obtain ⟨B', m⟩ := rm_appB w n.toNatClampNeg bs h B c3 fun p hp => List.all_eq_true.1 c4 p (List.mem_range.2 hp)
    exact ⟨_, r, mSt_mf M m stpu, B'⟩
end
