/-! Helpers for the rows that say, place by place, where a method goes. -/
section MXL
variable {d mi pc : Nat} {L : mx_L} {st : List Value} {h : mx_H}
theorem mx_isr_ref {a : Nat} : mx_isr (.ref a) = true := by simp only [mx_isr]
theorem mx_isr_null : mx_isr .null = true := by simp only [mx_isr]
theorem mx_isr_cat {v : Value} (h : mx_isr v = true) : v.category = 1 := by cases v <;> first | rfl | cases h
theorem mx_cat_int {x : Int32} : (Value.int x).category = 1 := by simp only [Value.category]
theorem mx_cat_ref {a : Nat} : (Value.ref a).category = 1 := by simp only [Value.category]
theorem mx_cat_long {x : Int64} : (Value.long x).category = 2 := by simp only [Value.category]
theorem mx_cat_null : (Value.null).category = 1 := by simp only [Value.category]
theorem mx_kn_int {x : Int32} : mx_known (.int x) = true := by simp only [mx_known]
theorem mx_kn_ref {a : Nat} : mx_known (.ref a) = true := by simp only [mx_known]
theorem mx_kn_null : mx_known .null = true := by simp only [mx_known]
theorem mx_kn_long {x : Int64} : mx_known (.long x) = true := by simp only [mx_known]
theorem mx_wt_nil : mx_wt [] ≤ 8 := by decide
theorem mx_wt_1 {v : Value} : mx_wt [v] ≤ 8 := by cases v <;> simp [mx_wt, Value.category]
theorem mx_wt_2 {v w : Value} : mx_wt [v, w] ≤ 8 := by cases v <;> cases w <;> simp [mx_wt, Value.category]
theorem mx_wt_3 {v w x : Value} : mx_wt [v, w, x] ≤ 8 := by cases v <;> cases w <;> cases x <;> simp [mx_wt, Value.category]
theorem mx_la_of {L : mx_L} {i : Nat} {v : Value} (hl : L[i]? = some (some v)) (hv : mx_isr v = true) : mx_la L i = some v := by
  unfold mx_la
  rw [hl]
  cases v <;> first | rfl | cases hv
theorem mx_g_aload {i : Nat} {v : Value} (hat : mt_at mi pc = some (.aload i)) (hl : L[i]? = some (some v)) (hv : mx_isr v = true) : mx_G d mi pc L st h = mx_G d mi (pc + 2) L (v :: st) h := mx_G_st hat rfl rfl rfl (by simp only [mx_st1, mx_la_of hl hv, Option.map_some])
theorem mx_g_aload_n {i : Fin 4} {v : Value} (hat : mt_at mi pc = some (.aload_n i)) (hl : L[(i : Nat)]? = some (some v)) (hv : mx_isr v = true) : mx_G d mi pc L st h = mx_G d mi (pc + 1) L (v :: st) h := mx_G_st hat rfl rfl rfl (by simp only [mx_st1, mx_la_of hl hv, Option.map_some])
theorem mx_g_astore {i : Nat} {v : Value} {L1 : mx_L} (hat : mt_at mi pc = some (.astore i)) (hl : i < L.length) (hv : mx_isr v = true) (hL : mx_put1 L i v = L1) : mx_G d mi pc L (v :: st) h = mx_G d mi (pc + 2) L1 st h := mx_G_st hat rfl rfl rfl (by simp only [mx_st1, mx_sa, hv, hl, and_self, if_true, hL])
theorem mx_g_astore_n {i : Fin 4} {v : Value} {L1 : mx_L} (hat : mt_at mi pc = some (.astore_n i)) (hl : (i : Nat) < L.length) (hv : mx_isr v = true) (hL : mx_put1 L i v = L1) : mx_G d mi pc L (v :: st) h = mx_G d mi (pc + 1) L1 st h := mx_G_st hat rfl rfl rfl (by simp only [mx_st1, mx_sa, hv, hl, and_self, if_true, hL])
theorem mx_g_istore {i : Nat} {x : Int32} {L1 : mx_L} (hat : mt_at mi pc = some (.istore i)) (hl : i < L.length) (hL : mx_put1 L i (.int x) = L1) : mx_G d mi pc L (.int x :: st) h = mx_G d mi (pc + 2) L1 st h := mx_G_st hat rfl rfl rfl (by simp only [mx_st1, mx_si, hl, if_true, hL])
theorem mx_g_istore_n {i : Fin 4} {x : Int32} {L1 : mx_L} (hat : mt_at mi pc = some (.istore_n i)) (hl : (i : Nat) < L.length) (hL : mx_put1 L i (.int x) = L1) : mx_G d mi pc L (.int x :: st) h = mx_G d mi (pc + 1) L1 st h := mx_G_st hat rfl rfl rfl (by simp only [mx_st1, mx_si, hl, if_true, hL])
theorem mx_g_lstore {i : Nat} {x : Int64} {L1 : mx_L} (hat : mt_at mi pc = some (.lstore i)) (hl : i + 1 < L.length) (hL : mx_put2 L i (.long x) = L1) : mx_G d mi pc L (.long x :: st) h = mx_G d mi (pc + 2) L1 st h := mx_G_st hat rfl rfl rfl (by simp only [mx_st1, mx_sl8, hl, if_true, hL])
theorem mx_g_lstore_n {i : Fin 4} {x : Int64} {L1 : mx_L} (hat : mt_at mi pc = some (.lstore_n i)) (hl : (i : Nat) + 1 < L.length) (hL : mx_put2 L i (.long x) = L1) : mx_G d mi pc L (.long x :: st) h = mx_G d mi (pc + 1) L1 st h := mx_G_st hat rfl rfl rfl (by simp only [mx_st1, mx_sl8, hl, if_true, hL])
/-- a place of the locals that holds no long -/
def mx_nl (o : Option Value) : Bool := match o with
  | some v => v.category == 1
  | none => true
theorem mx_nl_none : mx_nl none = true := by simp only [mx_nl]
theorem mx_nl_int {x : Int32} : mx_nl (some (.int x)) = true := by simp [mx_nl, Value.category]
theorem mx_nl_ref {a : Nat} : mx_nl (some (.ref a)) = true := by simp [mx_nl, Value.category]
theorem mx_nl_null : mx_nl (some .null) = true := by simp [mx_nl, Value.category]
theorem mx_nl_some {v : Value} (h : mx_isr v = true) : mx_nl (some v) = true := by cases v <;> first | rfl | cases h
theorem mx_clr_nl {L : mx_L} {j : Nat} {o : Option Value} (hl : L[j]? = some o) (hn : mx_nl o = true) : mx_clr L (j + 1) = L := by
  unfold mx_clr
  dsimp only
  rw [hl]
  cases o with
  | none => rfl
  | some v =>
    dsimp only
    rw [if_neg (by
      unfold mx_nl at hn
      have : v.category = 1 := by simpa using hn
      omega)]
theorem mx_put1_nl {L L1 : mx_L} {j : Nat} {o : Option Value} {v : Value} (hl : L[j]? = some o) (hn : mx_nl o = true) (hL : L.set (j + 1) (some v) = L1) : mx_put1 L (j + 1) v = L1 := by
  unfold mx_put1
  rw [mx_clr_nl hl hn]
  exact hL
theorem mx_put2_nl {L L1 : mx_L} {j : Nat} {o : Option Value} {v : Value} (hl : L[j]? = some o) (hn : mx_nl o = true) (hL : (L.set (j + 1 + 1) none).set (j + 1) (some v) = L1) : mx_put2 L (j + 1) v = L1 := by
  unfold mx_put2
  rw [mx_clr_nl hl hn]
  exact hL
theorem mx_g_callA {mj : Nat} {as rest : List Value} {Lj : mx_L} {ins : Jvm.ClassFile.Instr} (hat : mt_at mi pc = some ins) (hr : mx_ret mi ins (as.reverse ++ rest) = none) (ht : mx_tgt mi ins (as.reverse ++ rest) h = some mj) (hn : mt_np mj = as.length) (hw : mx_wt rest ≤ 8) (hs : mx_sl as = Lj) (hm : Lj.length ≤ mt_mL mj) :
    mx_G (d + 1) mi pc L (as.reverse ++ rest) h = (mx_G d mj 0 (Lj ++ List.replicate (mt_mL mj - Lj.length) none) [] h).bind fun q => mx_G (d + 1) mi (pc + 3) L (q.1.toList ++ rest) q.2 := by
  have e1 : (as.reverse ++ rest).take (mt_np mj) = as.reverse := by rw [hn, ← List.length_reverse, List.take_left]
  have e2 : (as.reverse ++ rest).drop (mt_np mj) = rest := by rw [hn, ← List.length_reverse, List.drop_left]
  have := mx_g_call (d := d) (L := L) hat hr ht ⟨by rw [hn]; simp, by rw [e2]; exact hw, by rw [e1, List.reverse_reverse, hs]; exact hm⟩
  rw [e1, e2, List.reverse_reverse] at this
  unfold mx_ent at this
  rw [hs] at this
  exact this
theorem mx_tgtV {i mj a ci : Nat} {q : Nat × List (Nat × Nat × Nat × Nat)} (hrow : mt_row mt_VC mi i = some q) (hs : st[q.1]? = some (.ref a)) (ht : mx_tag h a = some (.inl ci)) (hl : ci < 12) (hf : ((q.2.find? fun e => e.1 == ci).map fun e => e.2.1) = some mj) : mx_tgt mi (.invokevirtual i) st h = some mj := by
  simp only [mx_tgt, hrow, mx_rcv_of hs ht hl]
  exact hf
theorem mx_tgtS {i mj k : Nat} (hrow : mt_row mt_SC mi i = some (mj, k)) (hk : k ≤ 1) : mx_tgt mi (.invokestatic i) st h = some mj := by
  simp only [mx_tgt, hrow, hk, if_true]
theorem mx_tgtP {i mj k a ci : Nat} (hrow : mt_row mt_SC mi i = some (mj, k)) (hk : 2 ≤ k) (hs : st[mt_np mj - 1]? = some (.ref a)) (ht : mx_tag h a = some (.inl ci)) (hl : ci < 12) : mx_tgt mi (.invokespecial i) st h = some mj := by
  simp only [mx_tgt, hrow, hk, mx_rcv_of hs ht hl, Option.isSome_some, and_self, if_true]
theorem mx_g_oi {i a : Nat} (hat : mt_at mi pc = some (.invokespecial i)) (hrow : mt_row mt_SC mi i = none) (ho : mt_oi mi i = true) (hw : mx_wt st ≤ 8) : mx_G (d + 1) mi pc L (.ref a :: st) h = mx_G (d + 1) mi (pc + 3) L st h := by
  refine mx_G_nat hat rfl (by simp only [mx_tgt, hrow]) (by simp only [mx_nat, ho, if_true]) ?_
  simp only [mx_wt, List.map_cons, List.sum_cons, Value.category] at hw ⊢
  omega
theorem mx_g_newa {t : ArrayType} {ty : FieldType} (hat : mt_at mi pc = some (.newarray t)) (hty : newarray.typeOf t = ty) (hin : ty ∈ mt_na) {j : Int32} (h0 : 0 ≤ j) (h1 : j.toNatClampNeg ≤ 1000000) : mx_G d mi pc L (.int j :: st) h = mx_G d mi (pc + 2) L (.ref h.length :: st) (h ++ [(.inr ty, List.replicate j.toNatClampNeg (defaultValue ty))]) := by
  subst hty
  refine mx_G_st hat rfl rfl rfl ?_
  simp only [mx_st1, hin, if_true, mx_na]
  rw [if_neg (by
    rintro (z | z)
    · exact absurd z (by rw [Int32.lt_iff_toInt_lt, Int32.le_iff_toInt_le] at *; omega)
    · omega)]
theorem mx_g_ireturn {x : Int32} {ty : FieldType} (hat : mt_at mi pc = some .ireturn) (hr : mt_rt mi = some ty) (hn : narrow ty (.int x) = .int x) : mx_G d mi pc L [.int x] h = some (some (.int x), h) := mx_G_ret hat (by simp only [mx_ret, hr, hn, if_true])
theorem mx_g_areturn {v : Value} {ty : FieldType} (hat : mt_at mi pc = some .areturn) (hr : mt_rt mi = some ty) (hy : ty.isReference = true) (hv : mx_isr v = true) : mx_G d mi pc L [v] h = some (some v, h) := mx_G_ret hat (by simp only [mx_ret, hr, hy, hv, and_self, if_true])
theorem mx_g_lreturn {x : Int64} (hat : mt_at mi pc = some .lreturn) (hr : mt_rt mi = some .long) : mx_G d mi pc L [.long x] h = some (some (.long x), h) := mx_G_ret hat (by simp only [mx_ret, hr])
theorem mx_g_return (hat : mt_at mi pc = some .return_) (hr : mt_rt mi = none) : mx_G d mi pc L [] h = some (none, h) := mx_G_ret hat (by simp only [mx_ret, hr])
theorem mx_nb0 : narrow .boolean (.int 0) = .int 0 := by decide
theorem mx_nb1 : narrow .boolean (.int 1) = .int 1 := by decide
theorem mx_ni (x : Int32) : narrow .int (.int x) = .int x := by simp only [narrow]
end MXL
section MXL2
variable {d mi pc : Nat} {L : mx_L} {st : List Value} {h : mx_H}
theorem mx_g_iconst {n : Int} {v : Int32} (hat : mt_at mi pc = some (.iconst n)) (hv : Int32.ofInt n = v) : mx_G d mi pc L st h = mx_G d mi (pc + 1) L (.int v :: st) h := by subst hv; exact mx_G_st hat rfl rfl rfl rfl
theorem mx_g_bipush {n : Int} {v : Int32} (hat : mt_at mi pc = some (.bipush n)) (hv : (Int8.ofInt n).toInt32 = v) : mx_G d mi pc L st h = mx_G d mi (pc + 2) L (.int v :: st) h := by subst hv; exact mx_G_st hat rfl rfl rfl rfl
theorem mx_g_sipush {n : Int} {v : Int32} (hat : mt_at mi pc = some (.sipush n)) (hv : (Int16.ofInt n).toInt32 = v) : mx_G d mi pc L st h = mx_G d mi (pc + 3) L (.int v :: st) h := by subst hv; exact mx_G_st hat rfl rfl rfl rfl
theorem mx_g_ldc {i : Nat} {v : Value} (hat : mt_at mi pc = some (.ldc i)) (hk : (mt_o mi, i) ∉ mt_KM) (hv : mt_lc mi i = some v) : mx_G d mi pc L st h = mx_G d mi (pc + 2) L (v :: st) h := mx_G_st hat rfl rfl (by simp only [mx_nat, hk, if_false]) (by simp only [mx_st1, hv, Option.map_some])
theorem mx_g_ldc2 {i : Nat} {v : Int64} (hat : mt_at mi pc = some (.ldc2_w i)) (hv : mt_lj mi i = some v) : mx_G d mi pc L st h = mx_G d mi (pc + 3) L (.long v :: st) h := mx_G_st hat rfl rfl rfl (by simp only [mx_st1, hv, Option.map_some])
theorem mx_g_gets {i : Nat} {v : Value} (hat : mt_at mi pc = some (.getstatic i)) (hv : mt_sg mi i = some v) : mx_G d mi pc L st h = mx_G d mi (pc + 3) L (v :: st) h := mx_G_st hat rfl rfl rfl (by simp only [mx_st1, hv, Option.map_some])
theorem mx_g_iinc {i : Nat} {k : Int} {x c : Int32} {L1 : mx_L} (hat : mt_at mi pc = some (.iinc i k)) (hc : Int32.ofInt k = c) (hl : mx_li L i = some x) (hL : mx_put1 L i (.int (x + c)) = L1) : mx_G d mi pc L st h = mx_G d mi (pc + 3) L1 st h := by subst hc; exact mx_G_st hat rfl rfl rfl (by simp only [mx_st1, hl, Option.map_some, hL])
theorem mx_g_goto {off : Int} {tg : Nat} (hat : mt_at mi pc = some (.goto off)) (hb : mx_br pc off = some tg) : mx_G d mi pc L st h = mx_G d mi tg L st h := mx_G_st hat rfl rfl rfl (by simp only [mx_st1, hb, Option.map_some])
theorem mx_g_nullN {off : Int} {tg : Nat} (hat : mt_at mi pc = some (.ifnull off)) (hb : mx_br pc off = some tg) : mx_G d mi pc L (.null :: st) h = mx_G d mi tg L st h := mx_G_st hat rfl rfl rfl (by simp only [mx_st1, hb, Option.map_some])
theorem mx_g_nonR {off : Int} {tg a : Nat} (hat : mt_at mi pc = some (.ifnonnull off)) (hb : mx_br pc off = some tg) : mx_G d mi pc L (.ref a :: st) h = mx_G d mi tg L st h := mx_G_st hat rfl rfl rfl (by simp only [mx_st1, hb, Option.map_some])
theorem mx_g_acmp {q : Jvm.ClassFile.ACond} {off : Int} {tg : Nat} {x y : Value} (hat : mt_at mi pc = some (.if_acmp q off)) (hb : mx_br pc off = some tg) (hs : mx_sepv x y = true) : mx_G d mi pc L (y :: x :: st) h = if decide (x = y) = (q == .eq) then mx_G d mi tg L st h else mx_G d mi (pc + 3) L st h := by
  have e : mx_G d mi pc L (y :: x :: st) h = mx_G d mi (if decide (x = y) = (q == .eq) then tg else pc + 3) L st h := mx_G_st hat rfl rfl rfl (by simp only [mx_st1, hs, if_true, hb, Option.map_some])
  rw [e]
  split <;> rfl
theorem mx_g_tswD {dd lo hi : Int} {offs : Array Int} {tg : Nat} {x : Int32} (hat : mt_at mi pc = some (.tableswitch dd lo hi offs)) (hb : mx_br pc dd = some tg) (hx : x.toInt < lo ∨ hi < x.toInt) : mx_G d mi pc L (.int x :: st) h = mx_G d mi tg L st h := mx_G_st hat rfl rfl rfl (by simp only [mx_st1, hx, if_true, hb, Option.map_some])
theorem mx_g_tsw {dd lo hi o : Int} {offs : Array Int} {tg : Nat} {x : Int32} (hat : mt_at mi pc = some (.tableswitch dd lo hi offs)) (hx : ¬ (x.toInt < lo ∨ hi < x.toInt)) (ho : offs[(x.toInt - lo).toNat]? = some o) (hb : mx_br pc o = some tg) : mx_G d mi pc L (.int x :: st) h = mx_G d mi tg L st h := mx_G_st hat rfl rfl rfl (by simp only [mx_st1, hx, if_false, ho, Option.bind_some, hb, Option.map_some])
theorem mx_g_new {i ci : Nat} {fs : List Value} (hat : mt_at mi pc = some (.new i)) (hn : mt_nw mi i = some ci) (hf : mt_df ci = fs) : mx_G d mi pc L st h = mx_G d mi (pc + 3) L (.ref h.length :: st) (h ++ [(.inl ci, fs)]) := by subst hf; exact mx_G_st hat rfl rfl rfl (by simp only [mx_st1, hn, Option.map_some])
theorem mx_g_dup {v : Value} (hat : mt_at mi pc = some .dup) (hv : v.category = 1) : mx_G d mi pc L (v :: st) h = mx_G d mi (pc + 1) L (v :: v :: st) h := mx_G_st hat rfl rfl rfl (by simp only [mx_st1, hv, if_true])
theorem mx_g_pop {v : Value} (hat : mt_at mi pc = some .pop) (hv : v.category = 1) : mx_G d mi pc L (v :: st) h = mx_G d mi (pc + 1) L st h := mx_G_st hat rfl rfl rfl (by simp only [mx_st1, hv, if_true])
theorem mx_g_dup_x1 {v w : Value} (hat : mt_at mi pc = some .dup_x1) (hv : v.category = 1) (hw : w.category = 1) : mx_G d mi pc L (v :: w :: st) h = mx_G d mi (pc + 1) L (v :: w :: v :: st) h := mx_G_st hat rfl rfl rfl (by simp only [mx_st1, hv, hw, and_self, if_true])
theorem mx_g_dup2 {v w : Value} (hat : mt_at mi pc = some .dup2) (hv : v.category = 1) (hw : w.category = 1) : mx_G d mi pc L (v :: w :: st) h = mx_G d mi (pc + 1) L (v :: w :: v :: w :: st) h := mx_G_st hat rfl rfl rfl (by simp only [mx_st1, hv, hw, and_self, if_true])
theorem mx_g_putr {idx fid ci k : Nat} (hat : mt_at mi pc = some (.putfield idx)) (hf : mt_fl mi idx = some fid) (hk : mt_fk ci fid = some k) (hp : mt_pf mi fid = true) (hy : (mt_ft fid).isReference = true) {a : Nat} {v : Value} (hv : mx_isr v = true) (ht : mx_tag h a = some (.inl ci)) (ha : mt_nO ≤ a) : mx_G d mi pc L (v :: .ref a :: st) h = mx_G d mi (pc + 3) L st (mx_up h a k v) := by
  refine mx_g_put hat hf hk hp ht ha ?_ ?_
  · generalize mt_ft fid = t at hy
    cases v <;> first | (cases hv; done) | (cases t <;> first | rfl | cases hy)
  · generalize mt_ft fid = t at hy
    cases v <;> first | (cases hv; done) | (cases t <;> first | rfl | cases hy)
end MXL2
