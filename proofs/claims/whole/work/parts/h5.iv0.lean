/-! What holds at the start; the law. -/
def w_K (k : Nat) : Bool := match w_W[6 + 2 * k]? with
  | some (.inl 5, [.ref b, .int z, _, _]) => decide (b = 8 + 2 * k ∧ z = 0)
  | _ => false
theorem w_Kt : ∀ k, k < 28 → w_K k = true ∧ w_W[7 + 2 * k]? = some (.inr .byte, nvs (kts.getD k [])) ∧ (∀ c ∈ kts.getD k [], c < 128) ∧ (kts.getD k []).length ≤ 1000 ∧ mx_str (7 + 2 * k) = true := by decide +kernel
theorem w_cA : w_W[1]? = some (.inr oT, []) ∧ w_W[2]? = some (.inr .int, nvs [1, 1, 2, 1, 0, 2, 2, 0]) ∧ w_W[3]? = some (.inr .int, nvs [0, 2, 3, 4, 5]) ∧ w_W[4]? = some (.inr .byte, nvs dOn) ∧ w_W[5]? = some (.inr .byte, nvs dTe) := by decide +kernel
theorem w_cB : w_W[62]? = some (.inl 0, [.ref 64, .ref 71, .ref 72, .ref 73, .ref 74, .int (nI 0), .int (nI 0)]) ∧ w_W[63]? = some (.inl 1, [.ref 65, .ref 66, .ref 67, .ref 68, .ref 69, .int (nI 0), .int (nI 0), .int (nI 0)]) ∧ w_W[64]? = some (.inr .char, nvs (List.replicate 120 0)) ∧ w_W[65]? = some (.inr .int, nvs (List.replicate 121 0)) ∧ w_W[66]? = some (.inr .int, nvs (List.replicate 121 0)) := by decide +kernel
theorem w_cC : w_W[67]? = some (.inr .int, nvs (List.replicate 121 0)) ∧ w_W[69]? = some (.inr .byte, nvs (List.replicate 16 0)) ∧ w_W[72]? = some (.inr .int, nvs (List.replicate 8 0)) ∧ w_W[74]? = some (.inr .byte, nvs (List.replicate 16 0)) := by decide +kernel
def w_S (a b : Nat) : Bool := match w_W[a]? with
  | some (.inl 2, [.ref x, .int z, .int _, .int n]) => decide (x = b ∧ z = 0 ∧ n = 0)
  | _ => false
def w_A (a : Nat) : Bool := match w_W[a]? with
  | some (.inl 3, [.ref x, .int n, .int _]) => decide (x = 2 ∧ n = 0)
  | _ => false
theorem w_SA : w_S 68 70 = true ∧ w_S 73 75 = true ∧ w_A 70 = true ∧ w_A 71 = true := by decide +kernel
def w_m : List Value := (List.range 40).map fun k => match mr_tab.find? (fun q => q.1 == k) with
  | some q => .ref q.2.1
  | none => .int 0
theorem w_76 : w_W[75]? = some (.inl 11, w_m) := by decide +kernel
theorem w_tab : ∀ q ∈ mr_tab, w_W[q.2.1 - 1]? = some (.inr q.2.2.1, List.replicate q.2.2.2 (if q.2.2.1 = .long then .long 0 else .int 0)) ∧ w_m.getD q.1 .null = .ref q.2.1 := by decide +kernel
theorem w_mi : ∀ k ∈ mr_int, w_m.getD k .null = .int 0 := by decide +kernel
theorem w_7 : ∀ a, a < 62 → (w_W[a]?.map fun q => q.1) ≠ some (.inl 7) := by decide +kernel
section
variable {c : mx_C}
theorem w_SB {a b : Nat} (hs : w_S a b = true) (ha : 62 ≤ a) (hb : 63 ≤ b) (e : (w_h c)[b]? = some (.inr .byte, nvs (List.replicate 16 0))) : SB (w_h c) (a + 1) b 0 (List.replicate 16 0) := by
  unfold w_S at hs
  split at hs
  · rename_i x z m n hq
    have hs := of_decide_eq_true hs
    obtain ⟨rfl, rfl, rfl⟩ := hs
    exact ⟨⟨m, by rw [w_at]; exact hq⟩, e, fun y hy => by have := (List.mem_replicate.mp hy).2; omega, Nat.zero_le _, by simp, hb, by omega, by simp⟩
  · cases hs
theorem w_AL {a : Nat} (hs : w_A a = true) (ha : 62 ≤ a) (e2 : (w_h c)[2]? = some (.inr oT, [])) : AL (w_h c) (a + 1) 2 0 [] := by
  unfold w_A at hs
  split at hs
  · rename_i x n m hq
    have hs := of_decide_eq_true hs
    obtain ⟨rfl, rfl⟩ := hs
    exact ⟨⟨m, by rw [w_at]; exact hq⟩, e2, by simp, by decide, by omega, Or.inl ⟨rfl, rfl⟩⟩
  · cases hs
theorem w_KK : KK (w_h c) := by
  obtain ⟨c1, c2, c3, -⟩ := w_cA
  refine ⟨fun k hk => ?_, by rw [w_at]; exact c1, by rw [w_at]; exact c2, by rw [w_at]; exact c3⟩
  obtain ⟨h1, h2, h3, h4, h5⟩ := w_Kt k hk
  unfold w_K at h1
  split at h1
  · rename_i b z v2 v3 hq
    have h1 := of_decide_eq_true h1
    obtain ⟨rfl, rfl⟩ := h1
    exact ⟨⟨v2, v3, by rw [show 7 + 2 * k = 6 + 2 * k + 1 by omega, w_at]; exact hq⟩, by rw [show 8 + 2 * k = 7 + 2 * k + 1 by omega, w_at]; exact h2, h3, h4, Or.inr h5⟩
  · cases h1
theorem w_cSt : cSt (w_h c) 70 75 2 2 [] ([], 0, []) := by
  obtain ⟨c1, c2, c3, c4, c5⟩ := w_cA
  obtain ⟨c62, c63, c64, c65, c66⟩ := w_cB
  obtain ⟨c67, c69, c72, c74⟩ := w_cC
  obtain ⟨s1, s2, a1, a2⟩ := w_SA
  have e2 : (w_h c)[2]? = some (.inr oT, []) := by rw [w_at]; exact c1
  refine ⟨w_KK, by rw [w_len]; exact Nat.le_refl _, by unfold pS; rw [w_at]; exact c62, ?_, ⟨0, [], w_AL a1 (by decide) e2, rfl, by simp, fun k hk => (by cases hk)⟩, ⟨0, [], w_AL a2 (by decide) e2, by simp, by simp⟩, ⟨List.replicate 8 0, by rw [w_at]; exact c72, by simp, rfl, by simp⟩, ⟨0, List.replicate 16 0, w_SB s2 (by decide) (by decide) (by rw [w_at]; exact c74), Or.inl rfl⟩, by decide, Or.inl rfl, Or.inl rfl, fun _ => rfl⟩
  refine ⟨List.replicate 120 0, List.replicate 121 0, List.replicate 121 0, List.replicate 121 0, 0, 0, 0, List.replicate 16 0, ⟨by rw [w_at]; exact c63, by rw [w_at]; exact c64, by rw [w_at]; exact c65, by rw [w_at]; exact c66, by rw [w_at]; exact c67, by simp, by simp, by simp, by simp, by simp, fun y hy => by have := (List.mem_replicate.mp hy).2; omega⟩, rfl, w_SB s1 (by decide) (by decide) (by rw [w_at]; exact c69), by decide, by simp, Or.inl rfl⟩
theorem w_T : mr_T (w_h c) := by
  have e76 : (w_h c)[76]? = some (.inl 11, w_m) := by rw [w_at]; exact w_76
  refine ⟨ce_t e76, by rw [ce_n e76]; rfl, fun q hq => ?_, fun k hk => ⟨0, by rw [ce_e e76]; exact w_mi k hk⟩⟩
  obtain ⟨h1, h2⟩ := w_tab q hq
  have hr := mr_tab_r q hq
  have e : (w_h c)[q.2.1]? = some (.inr q.2.2.1, List.replicate q.2.2.2 (if q.2.2.1 = .long then .long 0 else .int 0)) := by rw [show q.2.1 = q.2.1 - 1 + 1 by omega, w_at]; exact h1
  refine ⟨by rw [ce_e e76]; exact h2, ce_t e, by rw [ce_n e]; simp, fun k hk => ?_⟩
  have el : mx_el (w_h c) q.2.1 k = (if q.2.2.1 = .long then .long 0 else .int 0) := by
    rw [ce_e e, List.getD_eq_getElem?_getD]
    simp [hk]
  rw [el]
  unfold mr_ok
  split
  · rename_i z; rw [if_pos z]; exact ⟨0, rfl⟩
  · rename_i z; rw [if_neg (fun y => z y)]; exact ⟨0, rfl⟩
theorem w_mi0 : mi (w_h c) 76 1 = 0 ∧ mi (w_h c) 76 34 = 0 ∧ mi (w_h c) 76 3 = 0 ∧ ∀ k, k < 800 → mi (w_h c) 77 k = 0 := by
  have e76 : (w_h c)[76]? = some (.inl 11, w_m) := by rw [w_at]; exact w_76
  have z : ∀ k ∈ mr_int, mi (w_h c) 76 k = 0 := fun k hk => by unfold mi; rw [ce_e e76, w_mi k hk]
  refine ⟨z 1 (by decide), z 34 (by decide), z 3 (by decide), fun k hk => ?_⟩
  have h1 := (w_tab (0, 77, .int, 800) (by decide)).1
  have e : (w_h c)[77]? = some (.inr .int, List.replicate 800 (.int 0)) := by rw [w_at]; exact h1
  unfold mi
  rw [ce_e e, List.getD_eq_getElem?_getD, List.getElem?_replicate, if_pos hk]
  rfl
theorem w_mSt : mSt (w_h c) (List.replicate 8 none) ([], 0, []) := by
  obtain ⟨z1, z2, z3, z4⟩ := w_mi0 (c := c)
  refine ⟨w_T, ⟨rfl, List.Perm.refl _, List.nodup_nil, fun p hp => (by cases hp)⟩, fun k hk => ?_, ⟨z1, by decide, fun p hp => (by cases hp)⟩, z2, by decide, fun k hk => (by cases hk)⟩
  have : (List.replicate 8 (none : Option prs)).getD k none = none := by
    rw [List.getD_eq_getElem?_getD, List.getElem?_replicate, if_pos hk]
    rfl
  rw [this]
  exact z4 _ (by omega)
theorem w_IV {L : Nat} {xs : Nat → Int32} : IV 0 (mx_scr L xs) (w_h (mx_scr L xs)) [] ([], 0, []) := by
  obtain ⟨c1, c2, c3, c4, c5⟩ := w_cA
  refine ⟨70, 75, 2, 2, List.replicate 8 none, w_cSt, w_mSt, ⟨w_T, by simp, w_mi0.2.2.1, fun k hk => (by cases hk)⟩, ⟨by rw [w_at]; exact c4, by rw [w_at]; exact c5⟩, fun a ha => ?_, w_0 _, by decide, fun p hp => (by cases hp), by unfold ids; simp⟩
  cases a with
  | zero => rw [ce_t (w_0 _)]; intro z; cases z
  | succ a =>
    have := w_7 a (by omega)
    unfold mx_tag
    rw [w_at]
    exact this
end
theorem w_mw (c : mx_C) : mw (w_h c) ≤ mx_tot (c :: mt_old) + 20000 := by
  have hd : w_h c = c :: w_W := by
    have h0 := w_0 c
    have h1 := w_d c
    cases hh : w_h c with
    | nil => rw [hh] at h0; cases h0
    | cons a r =>
      rw [hh] at h0 h1
      cases h0
      rw [← h1]
      rfl
  have t1 : mx_tot (c :: mt_old) = c.2.length + mx_tot mt_old := by simp [mx_tot]
  have t2 : mx_tot (w_h c) = c.2.length + mx_tot w_W := by rw [hd]; simp [mx_tot]
  have t3 : mx_tot w_W + 1224 ≤ mx_tot mt_old + 20000 := by decide +kernel
  unfold mw
  rw [w_len, t2, t1]
  omega
theorem whole_law {L : Nat} (hL : L ≤ 2560) (xs : Nat → Int32) : mx_law L xs := by
  obtain ⟨h1, a, b⟩ := lw_loop (d := 0) (xs := xs) hL 513 0 (w_h (mx_scr L xs)) [] ([], 0, []) (by decide) (by omega) w_IV
  have f := w_first (mx_scr L xs)
  rw [show w_l0 = [some (.ref 0), some (.ref 63), some (.ref 76), some (.int (nI (5 * 0)))] from rfl] at f
  rw [Nat.zero_add] at a
  rw [← f] at a
  obtain ⟨n, hn⟩ := mx_G_iff.mp a
  have hw := w_mw (mx_scr L xs)
  have hm : mw h1 = 12 * h1.length + mx_tot h1 := rfl
  have ho : mx_olds L xs = mx_scr L xs :: mt_old := rfl
  rw [List.length_nil] at b
  have hk := mx_run_len _ _ _ _ _ _ _ _ hn (Nat.le_of_eq rfl)
  have hl0 : (mx_scr L xs :: mt_old).length = 63 := rfl
  have hnO : mt_nO = 63 := by decide
  have hkeep := (mx_run_mono _ _ _ _ _ _ _ _ _ hn).2
  refine ⟨n, 32, h1, hn, by decide, ?_, ?_⟩
  · rw [hnO]
    simp only at hk
    omega
  · rw [ho]
    omega
