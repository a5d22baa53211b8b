/-! Cells as they stand, copies, and the rows of what is done without code. -/
def mx_vs (h : mx_H) (a : Nat) : List Value := match h[a]? with
  | some q => q.2
  | none => []
def mx_cp (h : mx_H) (a0 sp a dp n : Nat) : mx_H := match h[a]? with
  | some q => h.set a (q.1, mx_cpy (mx_vs h a0) q.2 sp dp n)
  | none => h
theorem ce_t {h : mx_H} {a : Nat} {t : Nat ⊕ FieldType} {vs : List Value} (e : h[a]? = some (t, vs)) : mx_tag h a = some t := by unfold mx_tag; rw [e]; rfl
theorem ce_n {h : mx_H} {a : Nat} {t : Nat ⊕ FieldType} {vs : List Value} (e : h[a]? = some (t, vs)) : mx_ln h a = vs.length := by unfold mx_ln; rw [e]
theorem ce_e {h : mx_H} {a : Nat} {t : Nat ⊕ FieldType} {vs : List Value} (e : h[a]? = some (t, vs)) (k : Nat) : mx_el h a k = vs.getD k .null := by unfold mx_el; rw [e]
theorem ce_v {h : mx_H} {a : Nat} {t : Nat ⊕ FieldType} {vs : List Value} (e : h[a]? = some (t, vs)) : mx_vs h a = vs := by unfold mx_vs; rw [e]
theorem ce_l {h : mx_H} {a : Nat} {q : mx_C} (e : h[a]? = some q) : a < h.length := (List.getElem?_eq_some_iff.mp e).1
theorem c_up {h : mx_H} {a k : Nat} {v : Value} {t : Nat ⊕ FieldType} {vs : List Value} (e : h[a]? = some (t, vs)) : (mx_up h a k v)[a]? = some (t, vs.set k v) := by rw [mx_up_get, e]; simp
theorem c_upn {h : mx_H} {a b k : Nat} {v : Value} (e : b ≠ a) : (mx_up h a k v)[b]? = h[b]? := by rw [mx_up_get]; cases h[b]? <;> simp [e]
theorem c_appn {h : mx_H} {q : mx_C} {b : Nat} (e : b < h.length) : (h ++ [q])[b]? = h[b]? := List.getElem?_append_left e
theorem c_app (h : mx_H) (q : mx_C) : (h ++ [q])[h.length]? = some q := by simp
theorem c_cp {h : mx_H} {a0 sp a dp n : Nat} {t t0 : Nat ⊕ FieldType} {vs ws : List Value} (e0 : h[a0]? = some (t0, vs)) (e : h[a]? = some (t, ws)) : (mx_cp h a0 sp a dp n)[a]? = some (t, mx_cpy vs ws sp dp n) := by
  unfold mx_cp
  rw [e, ce_v e0]
  simp only
  rw [List.getElem?_set_self (ce_l e)]
theorem c_cpn {h : mx_H} {a0 sp a dp n b : Nat} (hb : b ≠ a) : (mx_cp h a0 sp a dp n)[b]? = h[b]? := by
  unfold mx_cp
  split
  · rw [List.getElem?_set_ne (Ne.symm hb)]
  · rfl
theorem mx_len_cp (h : mx_H) (a0 sp a dp n : Nat) : (mx_cp h a0 sp a dp n).length = h.length := by
  unfold mx_cp
  split
  · rw [List.length_set]
  · rfl
theorem mx_tag_cp (h : mx_H) (a0 sp a dp n b : Nat) : mx_tag (mx_cp h a0 sp a dp n) b = mx_tag h b := by
  unfold mx_tag
  by_cases e : b = a
  · subst e
    unfold mx_cp
    split
    · rename_i q hq
      rw [List.getElem?_set_self (ce_l hq), hq]
      rfl
    · rfl
  · rw [c_cpn e]
theorem mx_ln_cp (h : mx_H) (a0 sp a dp n b : Nat) : mx_ln (mx_cp h a0 sp a dp n) b = mx_ln h b := by
  by_cases e : b = a
  · subst e
    cases hq : h[b]? with
    | none => unfold mx_cp; rw [hq]
    | some q =>
      obtain ⟨t, vs⟩ := q
      have e1 : (mx_cp h a0 sp b dp n)[b]? = some (t, mx_cpy (mx_vs h a0) vs sp dp n) := by
        unfold mx_cp
        rw [hq]
        simp only
        rw [List.getElem?_set_self (ce_l hq)]
      rw [ce_n e1, ce_n hq, mx_cpy_len]
  · unfold mx_ln
    rw [c_cpn e]
theorem mx_cpy_get (vs ws : List Value) (sp dp n j : Nat) : (mx_cpy vs ws sp dp n).getD j .null = if j < ws.length ∧ dp ≤ j ∧ j < dp + n then vs.getD (sp + (j - dp)) .null else ws.getD j .null := by
  unfold mx_cpy va_cpy
  by_cases hj : j < ws.length
  · simp [List.getD_eq_getElem?_getD, hj]
  · simp [List.getD_eq_getElem?_getD, hj]
/-- the elements may be laid into such an array -/
def mx_cA (h : mx_H) (ty : FieldType) (a sp n : Nat) : Prop := ∀ k, k < n → mx_cel h ty (mx_el h a (sp + k)) = true
theorem cat_le (v : Value) : v.category ≤ 2 := by cases v <;> simp [Value.category]
theorem mx_wt_4 {v w x y : Value} : mx_wt [v, w, x, y] ≤ 8 := by
  have h1 := cat_le v
  have h2 := cat_le w
  have h3 := cat_le x
  have h4 := cat_le y
  show v.category + (w.category + (x.category + (y.category + 0))) ≤ 8
  omega
theorem mx_w4_0 : mx_wt [] ≤ 4 := by decide
theorem mx_w9_0 : mx_wt [] ≤ 9 := by decide
theorem mx_w9_1 {v : Value} : mx_wt [v] ≤ 9 := by cases v <;> simp [mx_wt, Value.category]
theorem ofn (n : Nat) : Int32.ofNat n = nI n := rfl
theorem n10 : ¬ (1 : Int32) = 0 := by decide
section
variable {d mi pc : Nat} {L : mx_L} {st : List Value} {h : mx_H}
theorem mx_g_acp {i : Nat} (hat : mt_at mi pc = some (.invokestatic i)) (hr : mt_row mt_SC mi i = none) (hm : (mt_o mi, i) ∈ mt_AC) {ty : FieldType} {a0 a : Nat} {x y z : Int32} (ht0 : mx_tag h a0 = some (.inr ty)) (ht : mx_tag h a = some (.inr ty)) (ha : mt_nO ≤ a) (hx : 0 ≤ x) (hy : 0 ≤ y) (hz : 0 ≤ z)
    (hs : x.toNatClampNeg + z.toNatClampNeg ≤ mx_ln h a0) (hd : y.toNatClampNeg + z.toNatClampNeg ≤ mx_ln h a) (hc : mx_cA h ty a0 x.toNatClampNeg z.toNatClampNeg) (hw : mx_wt st ≤ 4) :
    mx_G (d + 1) mi pc L (.int z :: .int y :: .ref a :: .int x :: .ref a0 :: st) h = mx_G (d + 1) mi (pc + 3) L st (mx_cp h a0 x.toNatClampNeg a y.toNatClampNeg z.toNatClampNeg) := by
  obtain ⟨vs, e0, l0, f0⟩ := mx_tag_some ht0
  obtain ⟨ws, e1, l1, f1⟩ := mx_tag_some ht
  rw [l0] at hs
  rw [l1] at hd
  have nl : ∀ q : Int32, 0 ≤ q → ¬ q < 0 := fun q hq => by
    rw [Int32.lt_iff_toInt_lt]
    rw [Int32.le_iff_toInt_le] at hq
    omega
  have hall : ((vs.drop x.toNatClampNeg).take z.toNatClampNeg).all (mx_cel h ty) = true := by
    rw [List.all_eq_true]
    intro v hv
    obtain ⟨k, hk⟩ := List.mem_iff_getElem?.mp hv
    rw [List.getElem?_take] at hk
    split at hk
    · rename_i hkz
      rw [List.getElem?_drop] at hk
      have := hc k hkz
      rw [f0, List.getD_eq_getElem?_getD, hk] at this
      exact this
    · cases hk
  refine mx_G_nat (w := 3) hat rfl (by simp only [mx_tgt, hr]) ?_ (by simp only [mx_wt, List.map_cons, List.sum_cons, Value.category] at hw ⊢; omega)
  simp only [mx_nat, hm, if_true, mx_acp, e0, e1]
  rw [if_pos (by exact ⟨trivial, ha, nl _ hx, nl _ hy, nl _ hz, hs, hd, hall⟩)]
  simp only [mx_cp, e1, ce_v e0]
theorem mx_g_gcl {i : Nat} (hat : mt_at mi pc = some (.invokevirtual i)) (hr : mt_row mt_VC mi i = none) (hm : (mt_o mi, i) ∈ mt_GC) {a : Nat} (ht : mx_tag h a = some (.inr (.object "java/lang/Object"))) (ha : mt_nO ≤ a) (hw : mx_wt st ≤ 8) : mx_G (d + 1) mi pc L (.ref a :: st) h = mx_G (d + 1) mi (pc + 3) L (.ref 1 :: st) h := by
  obtain ⟨vs, e0, l0, f0⟩ := mx_tag_some ht
  refine mx_G_nat (w := 3) hat rfl (by simp only [mx_tgt, hr]) ?_ (by simp only [mx_wt, List.map_cons, List.sum_cons, Value.category] at hw ⊢; omega)
  simp only [mx_nat, hm, if_true, mx_gcl, e0, ha, and_self]
theorem mx_g_ldk {i : Nat} (hat : mt_at mi pc = some (.ldc i)) (hm : (mt_o mi, i) ∈ mt_KM) (hw : mx_wt st ≤ 9) : mx_G (d + 1) mi pc L st h = mx_G (d + 1) mi (pc + 2) L (.ref 1 :: st) h := by
  refine mx_G_nat (w := 2) hat rfl rfl ?_ hw
  simp only [mx_nat, hm, if_true]
theorem mx_g_cln {i : Nat} (hat : mt_at mi pc = some (.invokevirtual i)) (hr : mt_row mt_VC mi i = none) (hm0 : (mt_o mi, i) ∉ mt_GC) (hm : (mt_o mi, i) ∈ mt_CL) {a : Nat} (ht : mx_tag h a = some (.inr .byte)) (ha : mt_nO ≤ a) (hf : (mx_vs h a).all (fits .byte) = true) (hw : mx_wt st ≤ 8) : mx_G (d + 1) mi pc L (.ref a :: st) h = mx_G (d + 1) mi (pc + 3) L (.ref h.length :: st) (h ++ [(.inr .byte, mx_vs h a)]) := by
  obtain ⟨vs, e0, l0, f0⟩ := mx_tag_some ht
  rw [ce_v e0] at hf ⊢
  refine mx_G_nat (w := 3) hat rfl (by simp only [mx_tgt, hr]) ?_ (by simp only [mx_wt, List.map_cons, List.sum_cons, Value.category] at hw ⊢; omega)
  simp only [mx_nat, hm0, if_false, hm, if_true, mx_cln, e0, ha, hf, and_self]
theorem mx_g_bca {i : Nat} (hat : mt_at mi pc = some (.checkcast i)) (hm : (mt_o mi, i) ∈ mt_BC) {a : Nat} (ht : mx_tag h a = some (.inr .byte)) (ha : mt_nO ≤ a) (hw : mx_wt st ≤ 8) : mx_G (d + 1) mi pc L (.ref a :: st) h = mx_G (d + 1) mi (pc + 3) L (.ref a :: st) h := by
  obtain ⟨vs, e0, l0, f0⟩ := mx_tag_some ht
  refine mx_G_nat (w := 3) hat rfl rfl ?_ (by simp only [mx_wt, List.map_cons, List.sum_cons, Value.category] at hw ⊢; omega)
  simp only [mx_nat, mx_bca, e0, hm, ha, and_self, if_true]
theorem mx_g_aast (hat : mt_at mi pc = some .aastore) {a b ci : Nat} {j : Int32} {C : String} (ht : mx_tag h a = some (.inr (.object C))) (hb : mx_tag h b = some (.inl ci)) (hc : mt_as C ci = true) (ha : mt_nO ≤ a) (h0 : 0 ≤ j) (hl : j.toNatClampNeg < mx_ln h a) : mx_G d mi pc L (.ref b :: .int j :: .ref a :: st) h = mx_G d mi (pc + 1) L st (mx_up h a j.toNatClampNeg (.ref b)) := by
  obtain ⟨vs, e0, l0, f0⟩ := mx_tag_some ht
  obtain ⟨ws, e1, l1, f1⟩ := mx_tag_some hb
  rw [l0] at hl
  rw [mx_up_at e0]
  refine mx_G_st hat rfl rfl rfl ?_
  simp only [mx_st1, mx_sr, e0, e1, ha, hc, and_self, if_true, mx_ix_of h0 hl, Option.map_some]
theorem mx_g_aastN (hat : mt_at mi pc = some .aastore) {a : Nat} {j : Int32} {C : String} (ht : mx_tag h a = some (.inr (.object C))) (ha : mt_nO ≤ a) (h0 : 0 ≤ j) (hl : j.toNatClampNeg < mx_ln h a) : mx_G d mi pc L (.null :: .int j :: .ref a :: st) h = mx_G d mi (pc + 1) L st (mx_up h a j.toNatClampNeg .null) := by
  obtain ⟨vs, e0, l0, f0⟩ := mx_tag_some ht
  rw [l0] at hl
  rw [mx_up_at e0]
  refine mx_G_st hat rfl rfl rfl ?_
  simp only [mx_st1, mx_sr, e0, ha, if_true, mx_ix_of h0 hl, Option.map_some]
theorem mx_g_newq {i : Nat} {C : String} (hat : mt_at mi pc = some (.anewarray i)) (hn : mt_an mi i = some C) {j : Int32} (h0 : 0 ≤ j) (h1 : j.toNatClampNeg ≤ 1000000) : mx_G d mi pc L (.int j :: st) h = mx_G d mi (pc + 3) L (.ref h.length :: st) (h ++ [(.inr (.object C), List.replicate j.toNatClampNeg .null)]) := by
  refine mx_G_st hat rfl rfl rfl ?_
  simp only [mx_st1, hn, Option.bind_some, mx_na]
  rw [if_neg (by
    rintro (z | z)
    · rw [Int32.lt_iff_toInt_lt] at z
      rw [Int32.le_iff_toInt_le] at h0
      omega
    · omega)]
  rfl
theorem mx_g_inst {i ci : Nat} {z : Bool} {w : Int32} (hat : mt_at mi pc = some (.instanceof i)) (hio : mt_io mi i ci = some z) (hw : (if z = true then (1 : Int32) else 0) = w) {a : Nat} (ht : mx_tag h a = some (.inl ci)) : mx_G d mi pc L (.ref a :: st) h = mx_G d mi (pc + 3) L (.int w :: st) h := by
  obtain ⟨vs, e0, l0, f0⟩ := mx_tag_some ht
  refine mx_G_st hat rfl rfl rfl ?_
  simp only [mx_st1, e0, hio, Option.map_some, hw]
end
