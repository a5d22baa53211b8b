theorem mx_tryA {d a p : Nat} {h : mx_H} {k n : Int32} {f : Nat → Int32} (ht : mx_tag h a = some (.inl 0)) (hl : mx_ln h a = 7) (h5 : mx_el h a 5 = .int n) (h3 : mx_el h a 3 = .ref p) (hp : mx_tag h p = some (.inr .int)) (hpl : mx_ln h p = 8) (hf : ∀ j, j < 8 → mx_el h p j = .int (f j)) (hn : n ≤ 8) :
    mx_G d 209 0 [some (.ref a), some (.int k)] [] h = some (some (.int (if k < 0 ∨ n ≤ k then -404 else f k.toNatClampNeg)), h) := by
  rw [g209_0, g209_1]
  by_cases hk : k < 0
  · simp only [hk, if_true, true_or, g209_21, g209_24]
  · rw [if_neg hk]
    by_cases hk2 : n ≤ k
    · simp only [g209_4, g209_5, mx_isr_ref, g209_6, mx_kn_int, ht, hl, h5, Nat.reduceLT, g209_9, hk2, if_true, or_true, g209_21, g209_24]
    · have hk3 : k.toNatClampNeg < 8 := by
        have e1 := Int32.lt_iff_toInt_lt (a := k) (b := 0)
        have e2 := Int32.le_iff_toInt_le (a := n) (b := k)
        have e3 := Int32.le_iff_toInt_le (a := n) (b := 8)
        simp at e1 e2 e3
        have : k.toNatClampNeg = k.toInt.toNat := rfl
        omega
      have hk4 : 0 ≤ k := by simpa using hk
      simp only [g209_4, g209_5, mx_isr_ref, g209_6, mx_kn_int, mx_kn_ref, ht, hl, h5, Nat.reduceLT, g209_9, hk2, if_false, g209_12, g209_13, h3, g209_16, g209_17, hp, hpl, hk3, hk4, hf, g209_18, g209_24, hk, or_self]
