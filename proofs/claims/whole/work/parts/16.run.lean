/-! The small machine's run of a method, calls and all. -/
def mx_ent (mj : Nat) (as : List Value) : mx_L := mx_sl as ++ List.replicate (mt_mL mj - (mx_sl as).length) none
def mx_wt (st : List Value) : Nat := (st.map fun v => v.category).sum
def mx_ret (mi : Nat) (ins : Jvm.ClassFile.Instr) (st : List Value) : Option (Option Value) := match ins with
  | .ireturn => match st, mt_rt mi with
    | [.int x], some ty => if narrow ty (.int x) = .int x then some (some (.int x)) else none
    | _, _ => none
  | .lreturn => match st, mt_rt mi with
    | [.long x], some .long => some (some (.long x))
    | _, _ => none
  | .areturn => match st, mt_rt mi with
    | [v], some ty => if mx_isr v = true ∧ ty.isReference = true then some (some v) else none
    | _, _ => none
  | .return_ => match st, mt_rt mi with
    | [], none => some none
    | _, _ => none
  | _ => none
/-- the receiver's class -/
def mx_rcv (st : List Value) (k : Nat) (h : mx_H) : Option Nat := match st[k]? with
  | some (.ref a) => match h[a]? with
    | some (.inl ci, _) => if ci < 12 then some ci else none
    | _ => none
  | _ => none
theorem mx_rcv_at {st : List Value} {k : Nat} {h : mx_H} {ci : Nat} (hr : mx_rcv st k h = some ci) : ∃ (a : Nat) (fs : List Value), st[k]? = some (.ref a) ∧ h[a]? = some (.inl ci, fs) ∧ ci < 12 := by
  unfold mx_rcv at hr
  split at hr
  · rename_i a ha
    split at hr
    · rename_i ci' fs hf
      split at hr
      · rename_i hl
        cases hr
        exact ⟨a, fs, ha, hf, hl⟩
      · cases hr
    · cases hr
  · cases hr
def mx_tgt (mi : Nat) (ins : Jvm.ClassFile.Instr) (st : List Value) (h : mx_H) : Option Nat := match ins with
  | .invokestatic i => match mt_row mt_SC mi i with
    | some q => if q.2 ≤ 1 then some q.1 else none
    | none => none
  | .invokespecial i => match mt_row mt_SC mi i with
    | some q => if 2 ≤ q.2 ∧ (mx_rcv st (mt_np q.1 - 1) h).isSome = true then some q.1 else none
    | none => none
  | .invokevirtual i => match mt_row mt_VC mi i with
    | some q => match mx_rcv st q.1 h with
      | some ci => (q.2.find? fun e => e.1 == ci).map fun e => e.2.1
      | none => none
    | none => none
  | _ => none
/-- may it be laid into an array of ty -/
def mx_cel (h : mx_H) (ty : FieldType) (v : Value) : Bool := match v with
  | .int _ => !refKind ty && fits ty v
  | .null => refKind ty && fits ty .null
  | .ref b => match ty, h[b]? with
    | .object C, some (.inl ci, _) => mt_as C ci
    | _, _ => false
  | _ => false
def mx_cpy (vs ws : List Value) (sp dp n : Nat) : List Value := (List.range ws.length).map (va_cpy (fun k => vs.getD k .null) (fun k => ws.getD k .null) sp dp n)
theorem mx_cpy_len (vs ws : List Value) (sp dp n : Nat) : (mx_cpy vs ws sp dp n).length = ws.length := by simp [mx_cpy]
def mx_acp (st : List Value) (h : mx_H) : Option (Nat × List Value × mx_H) := match st with
  | .int n :: .int dp :: .ref a :: .int sp :: .ref a0 :: r => match h[a0]?, h[a]? with
    | some (.inr t0, vs), some (.inr t1, ws) => if t0 = t1 ∧ mt_nO ≤ a ∧ ¬ sp < 0 ∧ ¬ dp < 0 ∧ ¬ n < 0 ∧ sp.toNatClampNeg + n.toNatClampNeg ≤ vs.length ∧ dp.toNatClampNeg + n.toNatClampNeg ≤ ws.length ∧ ((vs.drop sp.toNatClampNeg).take n.toNatClampNeg).all (mx_cel h t0) = true then some (3, r, h.set a (.inr t1, mx_cpy vs ws sp.toNatClampNeg dp.toNatClampNeg n.toNatClampNeg)) else none
    | _, _ => none
  | _ => none
def mx_gcl (st : List Value) (h : mx_H) : Option (Nat × List Value × mx_H) := match st with
  | .ref a :: r => match h[a]? with
    | some (.inr ty, _) => if ty = .object "java/lang/Object" ∧ mt_nO ≤ a then some (3, .ref 1 :: r, h) else none
    | _ => none
  | _ => none
def mt_CL : List (Nat × Nat) := [(16, 310)]
def mt_BC : List (Nat × Nat) := [(16, 311)]
/-- a row of bytes once more -/
def mx_cln (st : List Value) (h : mx_H) : Option (Nat × List Value × mx_H) := match st with
  | .ref a :: r => match h[a]? with
    | some (.inr .byte, vs) => if mt_nO ≤ a ∧ vs.all (fits .byte) = true then some (3, .ref h.length :: r, h ++ [(.inr .byte, vs)]) else none
    | _ => none
  | _ => none
def mx_bca (st : List Value) (h : mx_H) : Option Nat := match st with
  | .ref a :: _ => match h[a]? with
    | some (.inr .byte, _) => some a
    | _ => none
  | _ => none
/-- what is done without code: how far it goes, the stack, the heap -/
def mx_nat (mi : Nat) (ins : Jvm.ClassFile.Instr) (st : List Value) (h : mx_H) : Option (Nat × List Value × mx_H) := match ins with
  | .invokespecial i => if mt_oi mi i = true then (match st with
    | .ref _ :: r => some (3, r, h)
    | _ => none) else none
  | .invokestatic i => if (mt_o mi, i) ∈ mt_AC then mx_acp st h else none
  | .invokevirtual i => if (mt_o mi, i) ∈ mt_GC then mx_gcl st h else if (mt_o mi, i) ∈ mt_CL then mx_cln st h else none
  | .checkcast i => match mx_bca st h with
    | some a => if (mt_o mi, i) ∈ mt_BC ∧ mt_nO ≤ a then some (3, st, h) else none
    | none => none
  | .ldc i => if (mt_o mi, i) ∈ mt_KM then some (2, .ref 1 :: st, h) else none
  | _ => none
def mx_run : Nat → Nat → Nat → Nat → mx_L → List Value → mx_H → Option (Option Value × mx_H)
  | 0, _, _, _, _, _, _ => none
  | n + 1, d, mi, pc, L, st, h => match mt_at mi pc with
    | none => none
    | some ins => match mx_ret mi ins st with
      | some rv => some (rv, h)
      | none => match mx_tgt mi ins st h with
        | some mj => if mt_np mj ≤ st.length ∧ mx_wt (st.drop (mt_np mj)) ≤ 8 ∧ (mx_sl (st.take (mt_np mj)).reverse).length ≤ mt_mL mj then match d with
            | 0 => none
            | d' + 1 => match mx_run n d' mj 0 (mx_ent mj (st.take (mt_np mj)).reverse) [] h with
              | some (rv, h1) => mx_run n (d' + 1) mi (pc + 3) L (rv.toList ++ st.drop (mt_np mj)) h1
              | none => none
          else none
        | none => match mx_nat mi ins st h with
          | some (w, st1, h1) => if mx_wt st ≤ 9 ∧ 0 < d then mx_run n d mi (pc + w) L st1 h1 else none
          | none => match mx_st1 mi pc ins L st h with
            | some (pc1, L1, st1, h1) => mx_run n d mi pc1 L1 st1 h1
            | none => none
theorem mx_nat_heap {mi w : Nat} {ins : Jvm.ClassFile.Instr} {st st1 : List Value} {h h1 : mx_H} (hn : mx_nat mi ins st h = some (w, st1, h1)) : (h1 = h ∨ ∃ (a : Nat) (q q' : mx_C), h[a]? = some q ∧ h1 = h.set a q' ∧ q'.2.length = q.2.length ∧ q'.1 = q.1 ∧ mt_nO ≤ a) ∨ ∃ q, h1 = h ++ [q] := by
  cases ins with
  | ldc i =>
    simp only [mx_nat] at hn
    split at hn
    · cases hn
      exact Or.inl (Or.inl rfl)
    · cases hn
  | checkcast i =>
    simp only [mx_nat] at hn
    split at hn
    · split at hn
      · cases hn
        exact Or.inl (Or.inl rfl)
      · cases hn
    · cases hn
  | invokevirtual i =>
    simp only [mx_nat] at hn
    split at hn
    · unfold mx_gcl at hn
      split at hn
      · split at hn
        · split at hn
          · cases hn
            exact Or.inl (Or.inl rfl)
          · cases hn
        · cases hn
      · cases hn
    · split at hn
      · unfold mx_cln at hn
        split at hn
        · split at hn
          · split at hn
            · cases hn
              exact Or.inr ⟨_, rfl⟩
            · cases hn
          · cases hn
        · cases hn
      · cases hn
  | invokespecial i =>
    simp only [mx_nat] at hn
    split at hn
    · split at hn
      · cases hn
        exact Or.inl (Or.inl rfl)
      · cases hn
    · cases hn
  | invokestatic i =>
    simp only [mx_nat] at hn
    split at hn
    · unfold mx_acp at hn
      split at hn
      · split at hn
        · rename_i ha0 ha
          split at hn
          · rename_i hc
            cases hn
            exact Or.inl (Or.inr ⟨_, _, _, ha, rfl, mx_cpy_len _ _ _ _ _, rfl, hc.2.1⟩)
          · cases hn
        · cases hn
      · cases hn
    · cases hn
  | _ => simp only [mx_nat] at hn; cases hn
theorem mx_nat_mono {mi w : Nat} {ins : Jvm.ClassFile.Instr} {st st1 : List Value} {h h1 : mx_H} (hn : mx_nat mi ins st h = some (w, st1, h1)) : h.length ≤ h1.length ∧ mx_tot h ≤ mx_tot h1 := by
  rcases mx_nat_heap hn with (rfl | ⟨a, q, q', e1, rfl, e2, e3, e4⟩) | ⟨q, rfl⟩
  · exact ⟨Nat.le_refl _, Nat.le_refl _⟩
  · rw [List.length_set, mx_tot_set e1 e2]
    exact ⟨Nat.le_refl _, Nat.le_refl _⟩
  · rw [mx_tot_app, List.length_append]
    omega
theorem mx_run_mono : ∀ (n d mi pc : Nat) (L : mx_L) (st : List Value) (h : mx_H) (rv : Option Value) (h1 : mx_H), mx_run n d mi pc L st h = some (rv, h1) → h.length ≤ h1.length ∧ mx_tot h ≤ mx_tot h1 := by
  intro n
  induction n with
  | zero => intro d mi pc L st h rv h1 hr; simp only [mx_run] at hr; cases hr
  | succ n ih =>
    intro d mi pc L st h rv h1 hr
    simp only [mx_run] at hr
    split at hr
    · cases hr
    · split at hr
      · cases hr
        exact ⟨Nat.le_refl _, Nat.le_refl _⟩
      · split at hr
        · split at hr
          · split at hr
            · cases hr
            · split at hr
              · rename_i hc
                have e1 := ih _ _ _ _ _ _ _ _ hc
                have e2 := ih _ _ _ _ _ _ _ _ hr
                exact ⟨Nat.le_trans e1.1 e2.1, Nat.le_trans e1.2 e2.2⟩
              · cases hr
          · cases hr
        · split at hr
          · rename_i hn
            split at hr
            · have e1 := mx_nat_mono hn
              have e2 := ih _ _ _ _ _ _ _ _ hr
              exact ⟨Nat.le_trans e1.1 e2.1, Nat.le_trans e1.2 e2.2⟩
            · cases hr
          · split at hr
            · rename_i hs
              have e1 := mx_st1_mono hs
              have e2 := ih _ _ _ _ _ _ _ _ hr
              exact ⟨Nat.le_trans e1.1 e2.1, Nat.le_trans e1.2 e2.2⟩
            · cases hr
theorem mx_nat_keep {mi w : Nat} {ins : Jvm.ClassFile.Instr} {st st1 : List Value} {h h1 : mx_H} (hn : mx_nat mi ins st h = some (w, st1, h1)) : mx_keep h h1 := by
  rcases mx_nat_heap hn with (rfl | ⟨a, q, q', e1, rfl, e2, e3, e4⟩) | ⟨q, rfl⟩
  · exact mx_keep_rfl _
  · exact mx_keep_set e1 e2 e3 e4
  · exact mx_keep_app _ _
theorem mx_run_keep : ∀ (n d mi pc : Nat) (L : mx_L) (st : List Value) (h : mx_H) (rv : Option Value) (h1 : mx_H), mx_run n d mi pc L st h = some (rv, h1) → mx_keep h h1 := by
  intro n
  induction n with
  | zero => intro d mi pc L st h rv h1 hr; simp only [mx_run] at hr; cases hr
  | succ n ih =>
    intro d mi pc L st h rv h1 hr
    simp only [mx_run] at hr
    split at hr
    · cases hr
    · split at hr
      · cases hr
        exact mx_keep_rfl _
      · split at hr
        · split at hr
          · split at hr
            · cases hr
            · split at hr
              · rename_i hc
                exact mx_keep_trans (ih _ _ _ _ _ _ _ _ hc) (ih _ _ _ _ _ _ _ _ hr)
              · cases hr
          · cases hr
        · split at hr
          · rename_i hn
            split at hr
            · exact mx_keep_trans (mx_nat_keep hn) (ih _ _ _ _ _ _ _ _ hr)
            · cases hr
          · split at hr
            · rename_i hs
              exact mx_keep_trans (mx_st1_keep hs) (ih _ _ _ _ _ _ _ _ hr)
            · cases hr
/-- some instructions of a method, those that it calls by mx_run -/
def mx_go : Nat → Nat → Nat → Nat → Nat → mx_L → List Value → mx_H → Option mx_F
  | 0, _, _, _, pc, L, st, h => some (pc, L, st, h)
  | k + 1, n, d, mi, pc, L, st, h => match mt_at mi pc with
    | none => none
    | some ins => match mx_ret mi ins st with
      | some _ => none
      | none => match mx_tgt mi ins st h with
        | some mj => if mt_np mj ≤ st.length ∧ mx_wt (st.drop (mt_np mj)) ≤ 8 ∧ (mx_sl (st.take (mt_np mj)).reverse).length ≤ mt_mL mj then match d with
            | 0 => none
            | d' + 1 => match mx_run n d' mj 0 (mx_ent mj (st.take (mt_np mj)).reverse) [] h with
              | some (rv, h1) => mx_go k n (d' + 1) mi (pc + 3) L (rv.toList ++ st.drop (mt_np mj)) h1
              | none => none
          else none
        | none => match mx_nat mi ins st h with
          | some (w, st1, h1) => if mx_wt st ≤ 9 ∧ 0 < d then mx_go k n d mi (pc + w) L st1 h1 else none
          | none => match mx_st1 mi pc ins L st h with
            | some (pc1, L1, st1, h1) => mx_go k n d mi pc1 L1 st1 h1
            | none => none
theorem mx_go_keep : ∀ (k n d mi pc : Nat) (L : mx_L) (st : List Value) (h : mx_H) (pc' : Nat) (L' : mx_L) (st' : List Value) (h1 : mx_H), mx_go k n d mi pc L st h = some (pc', L', st', h1) → mx_keep h h1 := by
  intro k
  induction k with
  | zero => intro n d mi pc L st h pc' L' st' h1 hr; simp only [mx_go] at hr; cases hr; exact mx_keep_rfl _
  | succ k ih =>
    intro n d mi pc L st h pc' L' st' h1 hr
    simp only [mx_go] at hr
    split at hr
    · cases hr
    · split at hr
      · cases hr
      · split at hr
        · split at hr
          · split at hr
            · cases hr
            · split at hr
              · rename_i hc
                exact mx_keep_trans (mx_run_keep _ _ _ _ _ _ _ _ _ hc) (ih _ _ _ _ _ _ _ _ _ _ _ hr)
              · cases hr
          · cases hr
        · split at hr
          · rename_i hn
            split at hr
            · exact mx_keep_trans (mx_nat_keep hn) (ih _ _ _ _ _ _ _ _ _ _ _ hr)
            · cases hr
          · split at hr
            · rename_i hs
              exact mx_keep_trans (mx_st1_keep hs) (ih _ _ _ _ _ _ _ _ _ _ _ hr)
            · cases hr
