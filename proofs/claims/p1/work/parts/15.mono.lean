section MXM
set_option maxHeartbeats 8000000 in
theorem mx_st1_heap {mi pc pc' : Nat} {ins : Jvm.ClassFile.Instr} {L L' : mx_L} {st st' : List Value} {h h' : mx_H} (hst : mx_st1 mi pc ins L st h = some (pc', L', st', h')) :
    h' = h ∨ (∃ (a : Nat) (q q' : mx_C), h[a]? = some q ∧ h' = h.set a q' ∧ q'.2.length = q.2.length ∧ q'.1 = q.1 ∧ mt_nO ≤ a) ∨ ∃ q : mx_C, h' = h ++ [q] := by
  cases ins with
  | aconst_null =>
    simp only [mx_st1] at hst
    cases hst
    exact Or.inl rfl
  | iconst k =>
    simp only [mx_st1] at hst
    cases hst
    exact Or.inl rfl
  | bipush k =>
    simp only [mx_st1] at hst
    cases hst
    exact Or.inl rfl
  | sipush k =>
    simp only [mx_st1] at hst
    cases hst
    exact Or.inl rfl
  | ldc i =>
    simp only [mx_st1, Option.map_eq_some_iff] at hst
    obtain ⟨v, hv, hst⟩ := hst
    cases hst
    exact Or.inl rfl
  | iload i =>
    simp only [mx_st1, Option.map_eq_some_iff] at hst
    obtain ⟨v, hv, hst⟩ := hst
    cases hst
    exact Or.inl rfl
  | iload_n k =>
    simp only [mx_st1, Option.map_eq_some_iff] at hst
    obtain ⟨v, hv, hst⟩ := hst
    cases hst
    exact Or.inl rfl
  | aload i =>
    simp only [mx_st1, Option.map_eq_some_iff] at hst
    obtain ⟨v, hv, hst⟩ := hst
    cases hst
    exact Or.inl rfl
  | aload_n k =>
    simp only [mx_st1, Option.map_eq_some_iff] at hst
    obtain ⟨v, hv, hst⟩ := hst
    cases hst
    exact Or.inl rfl
  | istore i =>
    simp only [mx_st1, mx_si] at hst
    split at hst
    · split at hst
      · rename_i hlt
        cases hst
        exact Or.inl rfl
      · cases hst
    · cases hst
  | istore_n k =>
    simp only [mx_st1, mx_si] at hst
    split at hst
    · split at hst
      · rename_i hlt
        cases hst
        exact Or.inl rfl
      · cases hst
    · cases hst
  | astore i =>
    simp only [mx_st1, mx_sa] at hst
    split at hst
    · rename_i v r
      split at hst
      · rename_i hlt
        cases hst
        exact Or.inl rfl
      · cases hst
    · cases hst
  | astore_n k =>
    simp only [mx_st1, mx_sa] at hst
    split at hst
    · rename_i v r
      split at hst
      · rename_i hlt
        cases hst
        exact Or.inl rfl
      · cases hst
    · cases hst
  | iinc i k =>
    simp only [mx_st1, Option.map_eq_some_iff] at hst
    obtain ⟨x, hv, hst⟩ := hst
    cases hst
    exact Or.inl rfl
  | iadd =>
    simp only [mx_st1, mx_i2] at hst
    split at hst
    · cases hst
      exact Or.inl rfl
    · cases hst
  | isub =>
    simp only [mx_st1, mx_i2] at hst
    split at hst
    · cases hst
      exact Or.inl rfl
    · cases hst
  | imul =>
    simp only [mx_st1, mx_i2] at hst
    split at hst
    · cases hst
      exact Or.inl rfl
    · cases hst
  | iand =>
    simp only [mx_st1, mx_i2] at hst
    split at hst
    · cases hst
      exact Or.inl rfl
    · cases hst
  | ior =>
    simp only [mx_st1, mx_i2] at hst
    split at hst
    · cases hst
      exact Or.inl rfl
    · cases hst
  | ixor =>
    simp only [mx_st1, mx_i2] at hst
    split at hst
    · cases hst
      exact Or.inl rfl
    · cases hst
  | ishl =>
    simp only [mx_st1, mx_i2] at hst
    split at hst
    · cases hst
      exact Or.inl rfl
    · cases hst
  | ishr =>
    simp only [mx_st1, mx_i2] at hst
    split at hst
    · cases hst
      exact Or.inl rfl
    · cases hst
  | iushr =>
    simp only [mx_st1, mx_i2] at hst
    split at hst
    · cases hst
      exact Or.inl rfl
    · cases hst
  | ineg =>
    simp only [mx_st1, mx_i1] at hst
    split at hst
    · cases hst
      exact Or.inl rfl
    · cases hst
  | i2b =>
    simp only [mx_st1, mx_i1] at hst
    split at hst
    · cases hst
      exact Or.inl rfl
    · cases hst
  | i2c =>
    simp only [mx_st1, mx_i1] at hst
    split at hst
    · cases hst
      exact Or.inl rfl
    · cases hst
  | i2s =>
    simp only [mx_st1, mx_i1] at hst
    split at hst
    · cases hst
      exact Or.inl rfl
    · cases hst
  | idiv =>
    simp only [mx_st1, mx_d2] at hst
    split at hst
    · split at hst
      · cases hst
      · rename_i hne
        cases hst
        exact Or.inl rfl
    · cases hst
  | irem =>
    simp only [mx_st1, mx_d2] at hst
    split at hst
    · split at hst
      · cases hst
      · rename_i hne
        cases hst
        exact Or.inl rfl
    · cases hst
  | dup =>
    simp only [mx_st1] at hst
    split at hst
    · split at hst
      · rename_i hc
        cases hst
        exact Or.inl rfl
      · cases hst
    · cases hst
  | pop =>
    simp only [mx_st1] at hst
    split at hst
    · split at hst
      · rename_i hc
        cases hst
        exact Or.inl rfl
      · cases hst
    · cases hst
  | dup_x1 =>
    simp only [mx_st1] at hst
    split at hst
    · split at hst
      · rename_i hc
        cases hst
        exact Or.inl rfl
      · cases hst
    · cases hst
  | dup_x2 =>
    simp only [mx_st1] at hst
    split at hst
    · split at hst
      · rename_i hc
        cases hst
        exact Or.inl rfl
      · cases hst
    · cases hst
  | dup2 =>
    simp only [mx_st1] at hst
    split at hst
    · split at hst
      · rename_i hc
        cases hst
        exact Or.inl rfl
      · cases hst
    · cases hst
  | ifCond q off =>
    simp only [mx_st1] at hst
    split at hst
    · simp only [Option.map_eq_some_iff] at hst
      obtain ⟨n, hn, hst⟩ := hst
      cases hst
      exact Or.inl rfl
    · cases hst
  | if_icmp q off =>
    simp only [mx_st1] at hst
    split at hst
    · simp only [Option.map_eq_some_iff] at hst
      obtain ⟨n, hn, hst⟩ := hst
      cases hst
      exact Or.inl rfl
    · cases hst
  | if_acmp q off =>
    simp only [mx_st1] at hst
    split at hst
    · split at hst
      · rename_i hc
        simp only [Option.map_eq_some_iff] at hst
        obtain ⟨n, hn, hst⟩ := hst
        cases hst
        exact Or.inl rfl
      · cases hst
    · cases hst
  | ifnull off =>
    simp only [mx_st1] at hst
    split at hst
    · simp only [Option.map_eq_some_iff] at hst
      obtain ⟨n, hn, hst⟩ := hst
      cases hst
      exact Or.inl rfl
    · cases hst
      exact Or.inl rfl
    · cases hst
  | ifnonnull off =>
    simp only [mx_st1] at hst
    split at hst
    · simp only [Option.map_eq_some_iff] at hst
      obtain ⟨n, hn, hst⟩ := hst
      cases hst
      exact Or.inl rfl
    · cases hst
      exact Or.inl rfl
    · cases hst
  | goto off =>
    simp only [mx_st1, Option.map_eq_some_iff] at hst
    obtain ⟨n, hn, hst⟩ := hst
    cases hst
    exact Or.inl rfl
  | tableswitch d lo hi offs =>
    simp only [mx_st1] at hst
    split at hst
    · split at hst
      · rename_i hc
        simp only [Option.map_eq_some_iff] at hst
        obtain ⟨n, hn, hst⟩ := hst
        cases hst
        exact Or.inl rfl
      · rename_i hc
        simp only [Option.bind_eq_some_iff, Option.map_eq_some_iff] at hst
        obtain ⟨o, ho, n, hn, hst⟩ := hst
        cases hst
        exact Or.inl rfl
    · cases hst
  | lookupswitch d ps =>
    simp only [mx_st1] at hst
    split at hst
    · split at hst
      · rename_i hc
        simp only [Option.map_eq_some_iff] at hst
        obtain ⟨n, hn, hst⟩ := hst
        cases hst
        exact Or.inl rfl
      · cases hst
    · cases hst
  | getfield i =>
    simp only [mx_st1, mx_gf] at hst
    split at hst
    · split at hst
      · rename_i ci fs fid ha hfl
        simp only [Option.bind_eq_some_iff] at hst
        obtain ⟨k, hk, v, hv, hst⟩ := hst
        split at hst
        · rename_i hkn
          cases hst
          exact Or.inl rfl
        · cases hst
      · cases hst
    · cases hst
  | putfield i =>
    simp only [mx_st1, mx_pf] at hst
    split at hst
    · split at hst
      · rename_i ci fs fid ha hfl
        simp only [Option.bind_eq_some_iff] at hst
        obtain ⟨k, hk, hst⟩ := hst
        split at hst
        · rename_i hc0
          obtain ⟨g1, g2, g3, g4⟩ := hc0
          cases hst
          exact Or.inr (Or.inl ⟨_, _, _, ha, rfl, by simp, rfl, (by first | exact g1 | exact ho.2 | exact ho | exact ho.1)⟩)
        · cases hst
      · cases hst
    · cases hst
  | getstatic i =>
    simp only [mx_st1, Option.map_eq_some_iff] at hst
    obtain ⟨v, hv, hst⟩ := hst
    cases hst
    exact Or.inl rfl
  | new i =>
    simp only [mx_st1, Option.map_eq_some_iff] at hst
    obtain ⟨ci, hci, hst⟩ := hst
    cases hst
    exact Or.inr (Or.inr ⟨_, rfl⟩)
  | newarray t =>
    simp only [mx_st1] at hst
    split at hst
    · rename_i hna
      simp only [mx_na] at hst
      split at hst
      · split at hst
        · cases hst
        · rename_i hj
          cases hst
          exact Or.inr (Or.inr ⟨_, rfl⟩)
      · cases hst
    · cases hst
  | anewarray i =>
    simp only [mx_st1, Option.bind_eq_some_iff] at hst
    obtain ⟨C, hC, hst⟩ := hst
    simp only [mx_na] at hst
    split at hst
    · split at hst
      · cases hst
      · rename_i hj
        cases hst
        exact Or.inr (Or.inr ⟨_, rfl⟩)
    · cases hst
  | arraylength =>
    simp only [mx_st1] at hst
    split at hst
    · split at hst
      · rename_i ha
        cases hst
        exact Or.inl rfl
      · cases hst
    · cases hst
  | iaload =>
    simp only [mx_st1, mx_ld] at hst
    split at hst
    · split at hst
      · rename_i ha
        split at hst
        · rename_i ho
          simp only [Option.bind_eq_some_iff, Option.map_eq_some_iff] at hst
          obtain ⟨k, hk, v, hv, hst⟩ := hst
          cases hst
          exact Or.inl rfl
        · cases hst
      · cases hst
    · cases hst
  | caload =>
    simp only [mx_st1, mx_ld] at hst
    split at hst
    · split at hst
      · rename_i ha
        split at hst
        · rename_i ho
          simp only [Option.bind_eq_some_iff, Option.map_eq_some_iff] at hst
          obtain ⟨k, hk, v, hv, hst⟩ := hst
          cases hst
          exact Or.inl rfl
        · cases hst
      · cases hst
    · cases hst
  | baload =>
    simp only [mx_st1, mx_ld] at hst
    split at hst
    · split at hst
      · rename_i ha
        split at hst
        · rename_i ho
          simp only [Option.bind_eq_some_iff, Option.map_eq_some_iff] at hst
          obtain ⟨k, hk, v, hv, hst⟩ := hst
          cases hst
          exact Or.inl rfl
        · cases hst
      · cases hst
    · cases hst
  | aaload =>
    simp only [mx_st1, mx_ld] at hst
    split at hst
    · split at hst
      · rename_i ha
        split at hst
        · rename_i ho
          simp only [Option.bind_eq_some_iff, Option.map_eq_some_iff] at hst
          obtain ⟨k, hk, v, hv, hst⟩ := hst
          cases hst
          exact Or.inl rfl
        · cases hst
      · cases hst
    · cases hst
  | iastore =>
    simp only [mx_st1, mx_st] at hst
    split at hst
    · split at hst
      · rename_i ha
        split at hst
        · rename_i ho
          simp only [Option.map_eq_some_iff] at hst
          obtain ⟨k, hk, hst⟩ := hst
          cases hst
          exact Or.inr (Or.inl ⟨_, _, _, ha, rfl, by simp, rfl, (by first | exact g1 | exact ho.2 | exact ho | exact ho.1)⟩)
        · cases hst
      · cases hst
    · cases hst
  | castore =>
    simp only [mx_st1, mx_st] at hst
    split at hst
    · split at hst
      · rename_i ha
        split at hst
        · rename_i ho
          simp only [Option.map_eq_some_iff] at hst
          obtain ⟨k, hk, hst⟩ := hst
          cases hst
          exact Or.inr (Or.inl ⟨_, _, _, ha, rfl, by simp, rfl, (by first | exact g1 | exact ho.2 | exact ho | exact ho.1)⟩)
        · cases hst
      · cases hst
    · cases hst
  | bastore =>
    simp only [mx_st1, mx_st] at hst
    split at hst
    · split at hst
      · rename_i ha
        split at hst
        · rename_i ho
          simp only [Option.map_eq_some_iff] at hst
          obtain ⟨k, hk, hst⟩ := hst
          cases hst
          exact Or.inr (Or.inl ⟨_, _, _, ha, rfl, by simp, rfl, (by first | exact g1 | exact ho.2 | exact ho | exact ho.1)⟩)
        · cases hst
      · cases hst
    · cases hst
  | aastore =>
    simp only [mx_st1, mx_sr] at hst
    split at hst
    · split at hst
      · rename_i ha
        split at hst
        · rename_i ho
          simp only [Option.map_eq_some_iff] at hst
          obtain ⟨k, hk, hst⟩ := hst
          cases hst
          exact Or.inr (Or.inl ⟨_, _, _, ha, rfl, by simp, rfl, (by first | exact g1 | exact ho.2 | exact ho | exact ho.1)⟩)
        · cases hst
      · cases hst
    · split at hst
      · rename_i ha hv
        split at hst
        · rename_i ho
          simp only [Option.map_eq_some_iff] at hst
          obtain ⟨k, hk, hst⟩ := hst
          cases hst
          exact Or.inr (Or.inl ⟨_, _, _, ha, rfl, by simp, rfl, (by first | exact g1 | exact ho.2 | exact ho | exact ho.1)⟩)
        · cases hst
      · cases hst
    · cases hst
  | checkcast i =>
    simp only [mx_st1] at hst
    split at hst
    · cases hst
      exact Or.inl rfl
    · split at hst
      · rename_i ha
        split at hst
        · rename_i hc
          cases hst
          exact Or.inl rfl
        · cases hst
      · cases hst
    · cases hst
  | instanceof i =>
    simp only [mx_st1] at hst
    split at hst
    · cases hst
      exact Or.inl rfl
    · split at hst
      · rename_i ha
        simp only [Option.map_eq_some_iff] at hst
        obtain ⟨z, hz, hst⟩ := hst
        cases hst
        exact Or.inl rfl
      · cases hst
    · cases hst
  | ldc2_w i =>
    simp only [mx_st1, Option.map_eq_some_iff] at hst
    obtain ⟨v, hv, hst⟩ := hst
    cases hst
    exact Or.inl rfl
  | lconst k =>
    simp only [mx_st1] at hst
    cases hst
    exact Or.inl rfl
  | lload i =>
    simp only [mx_st1, Option.map_eq_some_iff] at hst
    obtain ⟨v, hv, hst⟩ := hst
    cases hst
    exact Or.inl rfl
  | lload_n k =>
    simp only [mx_st1, Option.map_eq_some_iff] at hst
    obtain ⟨v, hv, hst⟩ := hst
    cases hst
    exact Or.inl rfl
  | lstore i =>
    simp only [mx_st1, mx_sl8] at hst
    split at hst
    · split at hst
      · rename_i hlt
        cases hst
        exact Or.inl rfl
      · cases hst
    · cases hst
  | lstore_n k =>
    simp only [mx_st1, mx_sl8] at hst
    split at hst
    · split at hst
      · rename_i hlt
        cases hst
        exact Or.inl rfl
      · cases hst
    · cases hst
  | ladd =>
    simp only [mx_st1, mx_l2] at hst
    split at hst
    · cases hst
      exact Or.inl rfl
    · cases hst
  | lsub =>
    simp only [mx_st1, mx_l2] at hst
    split at hst
    · cases hst
      exact Or.inl rfl
    · cases hst
  | lmul =>
    simp only [mx_st1, mx_l2] at hst
    split at hst
    · cases hst
      exact Or.inl rfl
    · cases hst
  | ldiv =>
    simp only [mx_st1, mx_m2] at hst
    split at hst
    · split at hst
      · cases hst
      · rename_i hne
        cases hst
        exact Or.inl rfl
    · cases hst
  | lrem =>
    simp only [mx_st1, mx_m2] at hst
    split at hst
    · split at hst
      · cases hst
      · rename_i hne
        cases hst
        exact Or.inl rfl
    · cases hst
  | lneg =>
    simp only [mx_st1] at hst
    split at hst
    · cases hst
      exact Or.inl rfl
    · cases hst
  | lcmp =>
    simp only [mx_st1] at hst
    split at hst
    · cases hst
      exact Or.inl rfl
    · cases hst
  | i2l =>
    simp only [mx_st1] at hst
    split at hst
    · cases hst
      exact Or.inl rfl
    · cases hst
  | l2i =>
    simp only [mx_st1] at hst
    split at hst
    · cases hst
      exact Or.inl rfl
    · cases hst
  | laload =>
    simp only [mx_st1, mx_ld] at hst
    split at hst
    · split at hst
      · rename_i ha
        split at hst
        · rename_i ho
          simp only [Option.bind_eq_some_iff, Option.map_eq_some_iff] at hst
          obtain ⟨k, hk, v, hv, hst⟩ := hst
          cases hst
          exact Or.inl rfl
        · cases hst
      · cases hst
    · cases hst
  | lastore =>
    simp only [mx_st1] at hst
    split at hst
    · split at hst
      · rename_i ha
        split at hst
        · rename_i ho
          simp only [Option.map_eq_some_iff] at hst
          obtain ⟨k, hk, hst⟩ := hst
          cases hst
          exact Or.inr (Or.inl ⟨_, _, _, ha, rfl, by simp, rfl, (by first | exact g1 | exact ho.2 | exact ho | exact ho.1)⟩)
        · cases hst
      · cases hst
    · cases hst
  | _ => simp only [mx_st1] at hst; cases hst

theorem mx_st1_mono {mi pc pc' : Nat} {ins : Jvm.ClassFile.Instr} {L L' : mx_L} {st st' : List Value} {h h' : mx_H} (hst : mx_st1 mi pc ins L st h = some (pc', L', st', h')) : h.length ≤ h'.length ∧ mx_tot h ≤ mx_tot h' := by
  rcases mx_st1_heap hst with rfl | ⟨a, q, q', h1, rfl, h2, -, -⟩ | ⟨q, rfl⟩
  · exact ⟨Nat.le_refl _, Nat.le_refl _⟩
  · rw [List.length_set, mx_tot_set h1 h2]
    exact ⟨Nat.le_refl _, Nat.le_refl _⟩
  · rw [mx_tot_app]
    simp
/-- what never changes: the old places, and every place's tag and length -/
def mx_keep (h h' : mx_H) : Prop := (mt_nO ≤ h.length → ∀ a, a < mt_nO → h'[a]? = h[a]?) ∧ ∀ (a : Nat) (q : mx_C), h[a]? = some q → ∃ vs, h'[a]? = some (q.1, vs) ∧ vs.length = q.2.length
theorem mx_keep_rfl (h : mx_H) : mx_keep h h := ⟨fun _ _ _ => rfl, fun a q hq => ⟨q.2, hq, rfl⟩⟩
theorem mx_keep_len {h h' : mx_H} (k : mx_keep h h') : h.length ≤ h'.length := by
  by_cases e : h.length = 0
  · omega
  · obtain ⟨vs, hv, -⟩ := k.2 (h.length - 1) _ (List.getElem?_eq_getElem (by omega))
    have := (List.getElem?_eq_some_iff.mp hv).1
    omega
theorem mx_keep_trans {h h' h'' : mx_H} (k : mx_keep h h') (k' : mx_keep h' h'') : mx_keep h h'' := by
  refine ⟨fun hl a ha => (k'.1 (Nat.le_trans hl (mx_keep_len k)) a ha).trans (k.1 hl a ha), fun a q hq => ?_⟩
  obtain ⟨vs, h1, h2⟩ := k.2 a q hq
  obtain ⟨ws, h3, h4⟩ := k'.2 a _ h1
  exact ⟨ws, h3, h4.trans h2⟩
theorem mx_keep_set {h : mx_H} {a : Nat} {q q' : mx_C} (h1 : h[a]? = some q) (h2 : q'.2.length = q.2.length) (h3 : q'.1 = q.1) (h4 : mt_nO ≤ a) : mx_keep h (h.set a q') := by
  refine ⟨fun _ b hb => List.getElem?_set_ne (by omega), fun b r hr => ?_⟩
  by_cases e : a = b
  · subst e
    cases h1.symm.trans hr
    exact ⟨q'.2, by rw [List.getElem?_set_self (List.getElem?_eq_some_iff.mp h1).1, ← h3], h2⟩
  · exact ⟨r.2, by rw [List.getElem?_set_ne e]; exact hr, rfl⟩
theorem mx_keep_app (h : mx_H) (q : mx_C) : mx_keep h (h ++ [q]) := by
  refine ⟨fun hl a ha => List.getElem?_append_left (by omega), fun b r hr => ⟨r.2, ?_, rfl⟩⟩
  rw [List.getElem?_append_left (List.getElem?_eq_some_iff.mp hr).1]
  exact hr
theorem mx_st1_keep {mi pc pc' : Nat} {ins : Jvm.ClassFile.Instr} {L L' : mx_L} {st st' : List Value} {h h' : mx_H} (hst : mx_st1 mi pc ins L st h = some (pc', L', st', h')) : mx_keep h h' := by
  rcases mx_st1_heap hst with rfl | ⟨a, q, q', h1, rfl, h2, h3, h4⟩ | ⟨q, rfl⟩
  · exact mx_keep_rfl _
  · exact mx_keep_set h1 h2 h3 h4
  · exact mx_keep_app _ _
end MXM
