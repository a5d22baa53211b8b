/-- the law's run in the small machine, within the claim's room -/
def mx_law (L : Nat) (xs : Nat → Int32) : Prop := ∃ (n d : Nat) (h1 : mx_H), mx_run n d 0 0 (mx_ent 0 [.ref 0]) [] (mx_olds L xs) = some (some (.int 1), h1) ∧ d ≤ 2048 ∧ h1.length ≤ mt_nO + 600000 ∧ mx_tot h1 ≤ mx_tot (mx_olds L xs) + 7302249
theorem mx_start {p : Program} {e : Env} {s : State} {m : MethodId} {below : List Frame} {meth : Method} {c : Code} (l : Launch) {b L : Nat} {xs : Nat → Int32} (hlaw : mx_law L xs) (C0 : lw_At p s m meth c b L xs) : W p l e room_1 s m #[Value.ref b] below meth c s.heap [] 0 0 (lw_Z below #[Value.ref b] s) (entryFrame m ([Value.ref b] : List Value).toArray 4) := by
  obtain ⟨n, d, h1, hrun, hd, hc, ht⟩ := hlaw
  obtain ⟨D, dA, al, hal, hal0, hK, hT⟩ := mx_world C0
  obtain ⟨hx, hb, hr, hml, hown, hts0, hX, hbl, hlk, hgv⟩ := C0
  have hS : mx_Std p s m #[Value.ref b] meth c 0 D dA al s.heap.size s.heap (mx_olds L xs) := ⟨hx, hb, hml, hown, hT, hr, hlk, fun h => absurd h (by decide), hK⟩
  have hR0 : mx_R D dA al s.heap.size s.heap (mx_olds L xs) (mx_olds L xs) s.heap := ⟨Nat.le_refl _, by omega, fun _ _ => rfl, fun _ _ => rfl, fun i q hi hq => absurd (List.getElem?_eq_some_iff.mp hq).1 (by omega)⟩
  have harg : ([Value.ref b] : List Value) = ([.ref 0] : List Value).map (mx_tr al) := by simp [mx_tr, hal0]
  have hm := mx_run_mono _ _ _ _ _ _ _ _ _ hrun
  have hL0 : (mx_olds L xs).length = mt_nO := mx_olds_len L xs
  have w := mx_sim l D dA al s.heap.size s.heap (mx_olds L xs) hal hL0 rfl n d 0 0 _ [] _ _ _ hrun p e room_1 s m #[Value.ref b] below meth c s.heap [] 0 0 _ _ _ hS (mx_RL.entry al [.ref 0] (n := 4) (by decide)) hR0 (fun q hq => by cases hq) (by show d ≤ 2048; exact hd) (by show 40 * d ≤ 84000; omega) rfl rfl (by show 0 + _ ≤ 600000; omega) (by show 0 + _ ≤ 7302249; omega)
  refine W.eq (show entryFrame m ([Value.ref b] : List Value).toArray 4 = F0 m 0 ((lg_sl (([.ref 0] : List Value).map (mx_tr al)) ++ List.replicate (4 - (lg_sl (([.ref 0] : List Value).map (mx_tr al))).length) Slot.unset).toArray) [] from by rw [harg, lg_entry_eq]) ?_
  intro T hT' X
  obtain ⟨t, a1, o, o1, o2, ⟨ho, -⟩, Lc, ⟨f1, f2, f3⟩, hLc⟩ := w T hT' X
  exact ⟨t, a1, o, o1, o2, ho, f1, f2, f3.weaken (fun y hy hlt => absurd hlt (Nat.not_lt.mpr (hLc y hy))) (by omega) (by omega)⟩
