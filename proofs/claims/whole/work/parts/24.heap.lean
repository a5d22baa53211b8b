/-! The small heap by reading and writing: tag, length, element; and the equations of the instructions that touch it. -/
def mx_tag (h : mx_H) (a : Nat) : Option (Nat ⊕ FieldType) := (h[a]?).map fun q => q.1
def mx_ln (h : mx_H) (a : Nat) : Nat := match h[a]? with
  | some q => q.2.length
  | none => 0
def mx_el (h : mx_H) (a k : Nat) : Value := match h[a]? with
  | some q => q.2.getD k .null
  | none => .null
def mx_up (h : mx_H) (a k : Nat) (v : Value) : mx_H := match h[a]? with
  | some q => h.set a (q.1, q.2.set k v)
  | none => h
theorem mx_tag_some {h : mx_H} {a : Nat} {t : Nat ⊕ FieldType} (ht : mx_tag h a = some t) : ∃ vs, h[a]? = some (t, vs) ∧ mx_ln h a = vs.length ∧ ∀ k, mx_el h a k = vs.getD k .null := by
  unfold mx_tag at ht
  obtain ⟨q, hq, he⟩ := Option.map_eq_some_iff.mp ht
  obtain ⟨t', vs⟩ := q
  dsimp only at he
  subst he
  exact ⟨vs, hq, by unfold mx_ln; rw [hq], fun k => by unfold mx_el; rw [hq]⟩
theorem mx_up_at {h : mx_H} {a k : Nat} {v : Value} {t : Nat ⊕ FieldType} {vs : List Value} (ha : h[a]? = some (t, vs)) : mx_up h a k v = h.set a (t, vs.set k v) := by
  unfold mx_up
  rw [ha]
theorem mx_up_get (h : mx_H) (a k : Nat) (v : Value) (b : Nat) : (mx_up h a k v)[b]? = (h[b]?).map fun q => if b = a then (q.1, q.2.set k v) else q := by
  unfold mx_up
  split
  · rename_i q hq
    have hl := (List.getElem?_eq_some_iff.mp hq).1
    by_cases e : b = a
    · subst e
      rw [List.getElem?_set_self hl, hq]
      simp
    · rw [List.getElem?_set_ne (Ne.symm e)]
      cases h[b]? <;> simp [e]
  · rename_i hq
    by_cases e : b = a
    · subst e
      rw [hq]
      rfl
    · cases h[b]? <;> simp [e]
theorem mx_tag_up (h : mx_H) (a k : Nat) (v : Value) (b : Nat) : mx_tag (mx_up h a k v) b = mx_tag h b := by
  unfold mx_tag
  rw [mx_up_get]
  cases h[b]? with
  | none => rfl
  | some q => by_cases e : b = a <;> simp [e]
theorem mx_ln_up (h : mx_H) (a k : Nat) (v : Value) (b : Nat) : mx_ln (mx_up h a k v) b = mx_ln h b := by
  unfold mx_ln
  rw [mx_up_get]
  cases h[b]? with
  | none => rfl
  | some q => by_cases e : b = a <;> simp [e]
theorem mx_len_up (h : mx_H) (a k : Nat) (v : Value) : (mx_up h a k v).length = h.length := by
  unfold mx_up
  split
  · exact List.length_set
  · rfl
theorem mx_el_up (h : mx_H) (a k : Nat) (v : Value) (b j : Nat) : mx_el (mx_up h a k v) b j = if b = a ∧ j = k ∧ k < mx_ln h a then v else mx_el h b j := by
  unfold mx_el mx_ln
  rw [mx_up_get]
  by_cases e : b = a
  · subst e
    cases hq : h[b]? with
    | none => simp
    | some q =>
      simp only [Option.map_some, if_true, true_and]
      by_cases ej : j = k
      · subst ej
        by_cases el : j < q.2.length
        · simp [el, List.getD_eq_getElem?_getD]
        · simp [el, List.getD_eq_getElem?_getD]
      · simp [ej, List.getD_eq_getElem?_getD, List.getElem?_set_ne (Ne.symm ej)]
  · cases h[b]? <;> simp [e]
theorem mx_tag_app (h : mx_H) (q : mx_C) (b : Nat) : mx_tag (h ++ [q]) b = if b = h.length then some q.1 else mx_tag h b := by
  unfold mx_tag
  by_cases e : b < h.length
  · rw [List.getElem?_append_left e, if_neg (by omega)]
  · rw [List.getElem?_append_right (by omega)]
    by_cases e2 : b = h.length
    · subst e2; simp
    · rw [if_neg e2, List.getElem?_eq_none (by simp; omega), List.getElem?_eq_none (by omega)]
theorem mx_ln_app (h : mx_H) (q : mx_C) (b : Nat) : mx_ln (h ++ [q]) b = if b = h.length then q.2.length else mx_ln h b := by
  unfold mx_ln
  by_cases e : b < h.length
  · rw [List.getElem?_append_left e, if_neg (by omega)]
  · rw [List.getElem?_append_right (by omega)]
    by_cases e2 : b = h.length
    · subst e2; simp
    · rw [if_neg e2, List.getElem?_eq_none (by simp; omega), List.getElem?_eq_none (by omega)]
theorem mx_el_app (h : mx_H) (q : mx_C) (b j : Nat) : mx_el (h ++ [q]) b j = if b = h.length then q.2.getD j .null else mx_el h b j := by
  unfold mx_el
  by_cases e : b < h.length
  · rw [List.getElem?_append_left e, if_neg (by omega)]
  · rw [List.getElem?_append_right (by omega)]
    by_cases e2 : b = h.length
    · subst e2; simp
    · rw [if_neg e2, List.getElem?_eq_none (by simp; omega), List.getElem?_eq_none (by omega)]
theorem mx_tag_lt {h : mx_H} {a : Nat} {t : Nat ⊕ FieldType} (ht : mx_tag h a = some t) : a < h.length := by
  obtain ⟨vs, h1, -⟩ := mx_tag_some ht
  exact (List.getElem?_eq_some_iff.mp h1).1
section MXE
variable {d mi pc : Nat} {L : mx_L} {st : List Value} {h : mx_H}
theorem mx_g_if {q : Jvm.ClassFile.Cond} {off : Int} {tg : Nat} (hat : mt_at mi pc = some (.ifCond q off)) (hb : mx_br pc off = some tg) {x : Int32} : mx_G d mi pc L (.int x :: st) h = if mx_ci q x 0 = true then mx_G d mi tg L st h else mx_G d mi (pc + 3) L st h := by
  have e : mx_G d mi pc L (.int x :: st) h = mx_G d mi (if mx_ci q x 0 = true then tg else pc + 3) L st h := mx_G_st hat rfl rfl rfl (by simp only [mx_st1, hb, Option.map_some])
  rw [e]
  split <;> rfl
theorem mx_g_ic {q : Jvm.ClassFile.Cond} {off : Int} {tg : Nat} (hat : mt_at mi pc = some (.if_icmp q off)) (hb : mx_br pc off = some tg) {x y : Int32} : mx_G d mi pc L (.int y :: .int x :: st) h = if mx_ci q x y = true then mx_G d mi tg L st h else mx_G d mi (pc + 3) L st h := by
  have e : mx_G d mi pc L (.int y :: .int x :: st) h = mx_G d mi (if mx_ci q x y = true then tg else pc + 3) L st h := mx_G_st hat rfl rfl rfl (by simp only [mx_st1, hb, Option.map_some])
  rw [e]
  split <;> rfl
theorem mx_ci_eq {x y : Int32} : (mx_ci .eq x y = true) = (x = y) := by simp [mx_ci]
theorem mx_ci_ne {x y : Int32} : (mx_ci .ne x y = true) = ¬ (x = y) := by simp [mx_ci]
theorem mx_ci_lt {x y : Int32} : (mx_ci .lt x y = true) = (x < y) := by simp [mx_ci]
theorem mx_ci_ge {x y : Int32} : (mx_ci .ge x y = true) = (y ≤ x) := by simp [mx_ci]
theorem mx_ci_gt {x y : Int32} : (mx_ci .gt x y = true) = (y < x) := by simp [mx_ci]
theorem mx_ci_le {x y : Int32} : (mx_ci .le x y = true) = (x ≤ y) := by simp [mx_ci]
theorem mx_g_get {idx fid ci k : Nat} (hat : mt_at mi pc = some (.getfield idx)) (hf : mt_fl mi idx = some fid) (hk : mt_fk ci fid = some k) {a : Nat} (ht : mx_tag h a = some (.inl ci)) (hl : k < mx_ln h a) (hn : mx_known (mx_el h a k) = true) : mx_G d mi pc L (.ref a :: st) h = mx_G d mi (pc + 3) L (mx_el h a k :: st) h := by
  obtain ⟨vs, h1, h2, h3⟩ := mx_tag_some ht
  rw [h2] at hl
  rw [h3 k] at hn ⊢
  refine mx_G_st hat rfl rfl rfl ?_
  have e : vs[k]? = some (vs.getD k .null) := by rw [List.getD_eq_getElem?_getD, List.getElem?_eq_getElem hl]; rfl
  simp only [mx_st1, mx_gf, h1, hf, hk, Option.bind_some, e, hn, if_true]
theorem mx_g_put {idx fid ci k : Nat} (hat : mt_at mi pc = some (.putfield idx)) (hf : mt_fl mi idx = some fid) (hk : mt_fk ci fid = some k) (hp : mt_pf mi fid = true) {a : Nat} {v : Value} (ht : mx_tag h a = some (.inl ci)) (ha : mt_nO ≤ a) (hn : narrow (mt_ft fid) v = v) (hv : fits (mt_ft fid) v = true) : mx_G d mi pc L (v :: .ref a :: st) h = mx_G d mi (pc + 3) L st (mx_up h a k v) := by
  obtain ⟨vs, h1, h2, h3⟩ := mx_tag_some ht
  rw [mx_up_at h1]
  refine mx_G_st hat rfl rfl rfl ?_
  simp only [mx_st1, mx_pf, h1, hf, hk, Option.bind_some, ha, hn, hv, hp, and_self, if_true]
theorem mx_ix_of {j : Int32} {n : Nat} (h0 : 0 ≤ j) (hn : j.toNatClampNeg < n) : mx_ix j n = some j.toNatClampNeg := by
  unfold mx_ix
  rw [if_neg (by
    rintro (z | z)
    · exact absurd z (by rw [Int32.lt_iff_toInt_lt, Int32.le_iff_toInt_le] at *; omega)
    · omega)]
theorem mx_g_ald {ins : Jvm.ClassFile.Instr} {ok : FieldType → Bool} (hat : mt_at mi pc = some ins) (hi : (ins = .iaload ∧ ok = fun t => t == .int) ∨ (ins = .caload ∧ ok = fun t => t == .char) ∨ (ins = .baload ∧ ok = fun t => t == .byte || t == .boolean) ∨ (ins = .aaload ∧ ok = fun t => t.isReference) ∨ (ins = .laload ∧ ok = fun t => t == .long)) {a : Nat} {j : Int32} {ty : FieldType} (ht : mx_tag h a = some (.inr ty)) (hok : ok ty = true) (h0 : 0 ≤ j) (hl : j.toNatClampNeg < mx_ln h a) : mx_G d mi pc L (.int j :: .ref a :: st) h = mx_G d mi (pc + 1) L (mx_el h a j.toNatClampNeg :: st) h := by
  obtain ⟨vs, h1, h2, h3⟩ := mx_tag_some ht
  rw [h2] at hl
  rw [h3]
  have e : vs[j.toNatClampNeg]? = some (vs.getD j.toNatClampNeg .null) := by rw [List.getD_eq_getElem?_getD, List.getElem?_eq_getElem hl]; rfl
  rcases hi with ⟨rfl, rfl⟩ | ⟨rfl, rfl⟩ | ⟨rfl, rfl⟩ | ⟨rfl, rfl⟩ | ⟨rfl, rfl⟩ <;>
  · refine mx_G_st hat rfl rfl rfl ?_
    dsimp only at hok
    simp only [mx_st1, mx_ld, h1, hok, if_true, mx_ix_of h0 hl, Option.bind_some, e, Option.map_some]
theorem mx_g_ast {ins : Jvm.ClassFile.Instr} {ok : FieldType → Bool} (hat : mt_at mi pc = some ins) (hi : (ins = .iastore ∧ ok = fun t => t == .int) ∨ (ins = .castore ∧ ok = fun t => t == .char) ∨ (ins = .bastore ∧ ok = fun t => t == .byte || t == .boolean)) {a : Nat} {x j : Int32} {ty : FieldType} (ht : mx_tag h a = some (.inr ty)) (hok : ok ty = true) (ha : mt_nO ≤ a) (h0 : 0 ≤ j) (hl : j.toNatClampNeg < mx_ln h a) : mx_G d mi pc L (.int x :: .int j :: .ref a :: st) h = mx_G d mi (pc + 1) L st (mx_up h a j.toNatClampNeg (narrow ty (.int x))) := by
  obtain ⟨vs, h1, h2, h3⟩ := mx_tag_some ht
  rw [h2] at hl
  rw [mx_up_at h1]
  rcases hi with ⟨rfl, rfl⟩ | ⟨rfl, rfl⟩ | ⟨rfl, rfl⟩ <;>
  · refine mx_G_st hat rfl rfl rfl ?_
    dsimp only at hok
    simp only [mx_st1, mx_st, h1, hok, ha, and_self, if_true, mx_ix_of h0 hl, Option.map_some]
theorem mx_g_last (hat : mt_at mi pc = some .lastore) {a : Nat} {x : Int64} {j : Int32} (ht : mx_tag h a = some (.inr .long)) (ha : mt_nO ≤ a) (h0 : 0 ≤ j) (hl : j.toNatClampNeg < mx_ln h a) : mx_G d mi pc L (.long x :: .int j :: .ref a :: st) h = mx_G d mi (pc + 1) L st (mx_up h a j.toNatClampNeg (.long x)) := by
  obtain ⟨vs, h1, h2, h3⟩ := mx_tag_some ht
  rw [h2] at hl
  rw [mx_up_at h1]
  refine mx_G_st hat rfl rfl rfl ?_
  simp only [mx_st1, h1, ha, if_true, mx_ix_of h0 hl, Option.map_some]
theorem mx_g_len (hat : mt_at mi pc = some .arraylength) {a : Nat} {ty : FieldType} (ht : mx_tag h a = some (.inr ty)) : mx_G d mi pc L (.ref a :: st) h = mx_G d mi (pc + 1) L (.int (Int32.ofNat (mx_ln h a)) :: st) h := by
  obtain ⟨vs, h1, h2, h3⟩ := mx_tag_some ht
  rw [h2]
  refine mx_G_st hat rfl rfl rfl ?_
  simp only [mx_st1, h1]
theorem mx_g_cast {i ci : Nat} (hat : mt_at mi pc = some (.checkcast i)) (hc : mt_cc mi i ci = true) {a : Nat} (ht : mx_tag h a = some (.inl ci)) : mx_G d mi pc L (.ref a :: st) h = mx_G d mi (pc + 3) L (.ref a :: st) h := by
  obtain ⟨vs, h1, h2, h3⟩ := mx_tag_some ht
  refine mx_G_st hat rfl rfl (by simp only [mx_nat, mx_bca, h1]) ?_
  simp only [mx_st1, h1, hc, if_true]
/-- a call, whatever comes of it -/
theorem mx_g_call {mj : Nat} {ins : Jvm.ClassFile.Instr} (hat : mt_at mi pc = some ins) (hr : mx_ret mi ins st = none) (ht : mx_tgt mi ins st h = some mj) (hc : mt_np mj ≤ st.length ∧ mx_wt (st.drop (mt_np mj)) ≤ 8 ∧ (mx_sl (st.take (mt_np mj)).reverse).length ≤ mt_mL mj) :
    mx_G (d + 1) mi pc L st h = (mx_G d mj 0 (mx_ent mj (st.take (mt_np mj)).reverse) [] h).bind fun q => mx_G (d + 1) mi (pc + 3) L (q.1.toList ++ st.drop (mt_np mj)) q.2 := by
  cases hg : mx_G d mj 0 (mx_ent mj (st.take (mt_np mj)).reverse) [] h with
  | some q => exact mx_G_call hat hr ht hc hg
  | none =>
    rw [Option.bind_none]
    cases hg2 : mx_G (d + 1) mi pc L st h with
    | none => rfl
    | some r =>
      exfalso
      obtain ⟨n, hn⟩ := mx_G_iff.mp hg2
      cases n with
      | zero => simp only [mx_run] at hn; cases hn
      | succ n =>
        rw [mx_run, hat] at hn
        dsimp only at hn
        rw [hr] at hn
        dsimp only at hn
        rw [ht] at hn
        dsimp only at hn
        rw [if_pos hc] at hn
        split at hn
        · rename_i rv2 h2 hcall2
          rw [mx_G_of hcall2] at hg
          cases hg
        · cases hn
theorem mx_rcv_of {k a ci : Nat} (hs : st[k]? = some (.ref a)) (ht : mx_tag h a = some (.inl ci)) (hl : ci < 12) : mx_rcv st k h = some ci := by
  obtain ⟨vs, h1, h2, h3⟩ := mx_tag_some ht
  unfold mx_rcv
  rw [hs]
  dsimp only
  rw [h1]
  dsimp only
  rw [if_pos hl]
end MXE
