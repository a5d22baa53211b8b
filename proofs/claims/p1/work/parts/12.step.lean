/-! The small machine: one instruction that is no call and no return. A step that can't be done as the tables (mt_..) say is 'none'. -/
def mx_br (pc : Nat) (off : Int) : Option Nat := if 0 ≤ (pc : Int) + off then some ((pc : Int) + off).toNat else none
theorem mx_br_eq {pc n : Nat} {off : Int} (h : mx_br pc off = some n) : (pc : Int) + off = (n : Int) := by
  unfold mx_br at h
  split at h
  · rename_i h0
    cases h
    omega
  · cases h
def mx_ci (q : Jvm.ClassFile.Cond) (x y : Int32) : Bool := match q with
  | .eq => decide (x = y)
  | .ne => !decide (x = y)
  | .lt => decide (x < y)
  | .ge => decide (y ≤ x)
  | .gt => decide (y < x)
  | .le => decide (x ≤ y)
def mx_li (L : mx_L) (i : Nat) : Option Int32 := match L[i]? with
  | some (some (.int x)) => some x
  | _ => none
theorem mx_li_at {L : mx_L} {i : Nat} {x : Int32} (h : mx_li L i = some x) : L[i]? = some (some (.int x)) := by
  unfold mx_li at h
  split at h
  · rename_i y hy
    cases h
    exact hy
  · cases h
def mx_la (L : mx_L) (i : Nat) : Option Value := match L[i]? with
  | some (some (.ref a)) => some (.ref a)
  | some (some .null) => some .null
  | _ => none
theorem mx_la_at {L : mx_L} {i : Nat} {v : Value} (h : mx_la L i = some v) : L[i]? = some (some v) ∧ (v = .null ∨ ∃ a, v = .ref a) := by
  unfold mx_la at h
  split at h
  · rename_i y hy
    cases h
    exact ⟨hy, Or.inr ⟨y, rfl⟩⟩
  · rename_i hy
    cases h
    exact ⟨hy, Or.inl rfl⟩
  · cases h
def mx_si (i n : Nat) (L : mx_L) (st : List Value) (h : mx_H) : Option mx_F := match st with
  | .int x :: r => if i < L.length then some (n, mx_put1 L i (.int x), r, h) else none
  | _ => none
def mx_lo8 (L : mx_L) (i : Nat) : Option Int64 := match L[i]? with
  | some (some (.long x)) => some x
  | _ => none
theorem mx_lo8_at {L : mx_L} {i : Nat} {x : Int64} (h : mx_lo8 L i = some x) : L[i]? = some (some (.long x)) := by
  unfold mx_lo8 at h
  split at h
  · rename_i y hy
    cases h
    exact hy
  · cases h
def mx_sl8 (i n : Nat) (L : mx_L) (st : List Value) (h : mx_H) : Option mx_F := match st with
  | .long x :: r => if i + 1 < L.length then some (n, mx_put2 L i (.long x), r, h) else none
  | _ => none
def mx_sa (i n : Nat) (L : mx_L) (st : List Value) (h : mx_H) : Option mx_F := match st with
  | v :: r => if mx_isr v = true ∧ i < L.length then some (n, mx_put1 L i v, r, h) else none
  | _ => none
def mx_i2 (f : Int32 → Int32 → Int32) (pc : Nat) (L : mx_L) (st : List Value) (h : mx_H) : Option mx_F := match st with
  | .int y :: .int x :: r => some (pc + 1, L, .int (f x y) :: r, h)
  | _ => none
def mx_d2 (f : Int32 → Int32 → Int32) (pc : Nat) (L : mx_L) (st : List Value) (h : mx_H) : Option mx_F := match st with
  | .int y :: .int x :: r => if y = 0 then none else some (pc + 1, L, .int (f x y) :: r, h)
  | _ => none
def mx_i1 (f : Int32 → Int32) (pc : Nat) (L : mx_L) (st : List Value) (h : mx_H) : Option mx_F := match st with
  | .int x :: r => some (pc + 1, L, .int (f x) :: r, h)
  | _ => none
def mx_l2 (f : Int64 → Int64 → Int64) (pc : Nat) (L : mx_L) (st : List Value) (h : mx_H) : Option mx_F := match st with
  | .long y :: .long x :: r => some (pc + 1, L, .long (f x y) :: r, h)
  | _ => none
def mx_m2 (f : Int64 → Int64 → Int64) (pc : Nat) (L : mx_L) (st : List Value) (h : mx_H) : Option mx_F := match st with
  | .long y :: .long x :: r => if y = 0 then none else some (pc + 1, L, .long (f x y) :: r, h)
  | _ => none
def mx_ld (ok : FieldType → Bool) (pc : Nat) (L : mx_L) (st : List Value) (h : mx_H) : Option mx_F := match st with
  | .int j :: .ref a :: r => match h[a]? with
    | some (.inr ty, vs) => if ok ty = true then (mx_ix j vs.length).bind fun k => (vs[k]?).map fun v => (pc + 1, L, v :: r, h) else none
    | _ => none
  | _ => none
def mx_st (ok : FieldType → Bool) (pc : Nat) (L : mx_L) (st : List Value) (h : mx_H) : Option mx_F := match st with
  | .int x :: .int j :: .ref a :: r => match h[a]? with
    | some (.inr ty, vs) => if ok ty = true ∧ mt_nO ≤ a then (mx_ix j vs.length).map fun k => (pc + 1, L, r, h.set a (.inr ty, vs.set k (narrow ty (.int x)))) else none
    | _ => none
  | _ => none
def mx_sr (pc : Nat) (L : mx_L) (st : List Value) (h : mx_H) : Option mx_F := match st with
  | .null :: .int j :: .ref a :: r => match h[a]? with
    | some (.inr (.object C), vs) => if mt_nO ≤ a then (mx_ix j vs.length).map fun k => (pc + 1, L, r, h.set a (.inr (.object C), vs.set k .null)) else none
    | _ => none
  | .ref v :: .int j :: .ref a :: r => match h[a]?, h[v]? with
    | some (.inr (.object C), vs), some (.inl ci, _) => if mt_nO ≤ a ∧ mt_as C ci = true then (mx_ix j vs.length).map fun k => (pc + 1, L, r, h.set a (.inr (.object C), vs.set k (.ref v))) else none
    | _, _ => none
  | _ => none
def mx_gf (mi idx pc : Nat) (L : mx_L) (st : List Value) (h : mx_H) : Option mx_F := match st with
  | .ref a :: r => match h[a]?, mt_fl mi idx with
    | some (.inl ci, fs), some fid => (mt_fk ci fid).bind fun k => (fs[k]?).bind fun v => if mx_known v = true then some (pc + 3, L, v :: r, h) else none
    | _, _ => none
  | _ => none
def mx_pf (mi idx pc : Nat) (L : mx_L) (st : List Value) (h : mx_H) : Option mx_F := match st with
  | v :: .ref a :: r => match h[a]?, mt_fl mi idx with
    | some (.inl ci, fs), some fid => (mt_fk ci fid).bind fun k => if mt_nO ≤ a ∧ narrow (mt_ft fid) v = v ∧ fits (mt_ft fid) v = true ∧ mt_pf mi fid = true then some (pc + 3, L, r, h.set a (.inl ci, fs.set k v)) else none
    | _, _ => none
  | _ => none
def mx_na (ty : FieldType) (n : Nat) (L : mx_L) (st : List Value) (h : mx_H) : Option mx_F := match st with
  | .int j :: r => if j < 0 ∨ 1000000 < j.toNatClampNeg then none else some (n, L, .ref h.length :: r, h ++ [(.inr ty, List.replicate j.toNatClampNeg (defaultValue ty))])
  | _ => none
def mx_st1 (mi pc : Nat) (ins : Jvm.ClassFile.Instr) (L : mx_L) (st : List Value) (h : mx_H) : Option mx_F := match ins with
  | .aconst_null => some (pc + 1, L, .null :: st, h)
  | .iconst k => some (pc + 1, L, .int (Int32.ofInt k) :: st, h)
  | .bipush k => some (pc + 2, L, .int (Int8.ofInt k).toInt32 :: st, h)
  | .sipush k => some (pc + 3, L, .int (Int16.ofInt k).toInt32 :: st, h)
  | .ldc i => (mt_lc mi i).map fun v => (pc + 2, L, v :: st, h)
  | .iload i => (mx_li L i).map fun x => (pc + 2, L, .int x :: st, h)
  | .iload_n k => (mx_li L k).map fun x => (pc + 1, L, .int x :: st, h)
  | .aload i => (mx_la L i).map fun x => (pc + 2, L, x :: st, h)
  | .aload_n k => (mx_la L k).map fun x => (pc + 1, L, x :: st, h)
  | .istore i => mx_si i (pc + 2) L st h
  | .istore_n k => mx_si k (pc + 1) L st h
  | .astore i => mx_sa i (pc + 2) L st h
  | .astore_n k => mx_sa k (pc + 1) L st h
  | .ldc2_w i => (mt_lj mi i).map fun v => (pc + 3, L, .long v :: st, h)
  | .lconst k => some (pc + 1, L, .long (Int64.ofNat (k : Nat)) :: st, h)
  | .lload i => (mx_lo8 L i).map fun x => (pc + 2, L, .long x :: st, h)
  | .lload_n k => (mx_lo8 L k).map fun x => (pc + 1, L, .long x :: st, h)
  | .lstore i => mx_sl8 i (pc + 2) L st h
  | .lstore_n k => mx_sl8 k (pc + 1) L st h
  | .ladd => mx_l2 (fun x y => x + y) pc L st h
  | .lsub => mx_l2 (fun x y => x - y) pc L st h
  | .lmul => mx_l2 (fun x y => x * y) pc L st h
  | .ldiv => mx_m2 (fun x y => x / y) pc L st h
  | .lrem => mx_m2 (fun x y => x - x / y * y) pc L st h
  | .lneg => match st with
    | .long x :: r => some (pc + 1, L, .long (-x) :: r, h)
    | _ => none
  | .lcmp => match st with
    | .long y :: .long x :: r => some (pc + 1, L, .int (lg_cmp x y) :: r, h)
    | _ => none
  | .i2l => match st with
    | .int x :: r => some (pc + 1, L, .long x.toInt64 :: r, h)
    | _ => none
  | .l2i => match st with
    | .long x :: r => some (pc + 1, L, .int x.toInt32 :: r, h)
    | _ => none
  | .laload => mx_ld (fun t => t == .long) pc L st h
  | .lastore => match st with
    | .long x :: .int j :: .ref a :: r => match h[a]? with
      | some (.inr .long, vs) => if mt_nO ≤ a then (mx_ix j vs.length).map fun k => (pc + 1, L, r, h.set a (.inr .long, vs.set k (.long x))) else none
      | _ => none
    | _ => none
  | .iinc i k => (mx_li L i).map fun x => (pc + 3, mx_put1 L i (.int (x + Int32.ofInt k)), st, h)
  | .iadd => mx_i2 (fun x y => x + y) pc L st h
  | .isub => mx_i2 (fun x y => x - y) pc L st h
  | .imul => mx_i2 (fun x y => x * y) pc L st h
  | .idiv => mx_d2 (fun x y => x / y) pc L st h
  | .irem => mx_d2 (fun x y => x - x / y * y) pc L st h
  | .iand => mx_i2 (fun x y => x &&& y) pc L st h
  | .ior => mx_i2 (fun x y => x ||| y) pc L st h
  | .ixor => mx_i2 (fun x y => x ^^^ y) pc L st h
  | .ishl => mx_i2 (fun x y => x <<< (y &&& 31)) pc L st h
  | .ishr => mx_i2 (fun x y => x >>> (y &&& 31)) pc L st h
  | .iushr => mx_i2 (fun x y => (x.toUInt32 >>> (y.toUInt32 &&& Int32.toUInt32 31)).toInt32) pc L st h
  | .ineg => mx_i1 (fun x => -x) pc L st h
  | .i2b => mx_i1 (fun x => x.toInt8.toInt32) pc L st h
  | .i2c => mx_i1 (fun x => (x.toUInt32 % 65536).toInt32) pc L st h
  | .i2s => mx_i1 (fun x => x.toInt16.toInt32) pc L st h
  | .dup => match st with
    | v :: r => if v.category = 1 then some (pc + 1, L, v :: v :: r, h) else none
    | _ => none
  | .pop => match st with
    | v :: r => if v.category = 1 then some (pc + 1, L, r, h) else none
    | _ => none
  | .dup_x1 => match st with
    | v :: w :: r => if v.category = 1 ∧ w.category = 1 then some (pc + 1, L, v :: w :: v :: r, h) else none
    | _ => none
  | .dup_x2 => match st with
    | v :: w :: x :: r => if v.category = 1 ∧ w.category = 1 ∧ x.category = 1 then some (pc + 1, L, v :: w :: x :: v :: r, h) else none
    | _ => none
  | .dup2 => match st with
    | v :: w :: r => if v.category = 1 ∧ w.category = 1 then some (pc + 1, L, v :: w :: v :: w :: r, h) else none
    | _ => none
  | .ifCond q off => match st with
    | .int x :: r => (mx_br pc off).map fun n => (if mx_ci q x 0 = true then n else pc + 3, L, r, h)
    | _ => none
  | .if_icmp q off => match st with
    | .int y :: .int x :: r => (mx_br pc off).map fun n => (if mx_ci q x y = true then n else pc + 3, L, r, h)
    | _ => none
  | .if_acmp q off => match st with
    | y :: x :: r => if mx_sepv x y = true then (mx_br pc off).map fun n => (if decide (x = y) = (q == .eq) then n else pc + 3, L, r, h) else none
    | _ => none
  | .ifnull off => match st with
    | .null :: r => (mx_br pc off).map fun n => (n, L, r, h)
    | .ref _ :: r => some (pc + 3, L, r, h)
    | _ => none
  | .ifnonnull off => match st with
    | .ref _ :: r => (mx_br pc off).map fun n => (n, L, r, h)
    | .null :: r => some (pc + 3, L, r, h)
    | _ => none
  | .goto off => (mx_br pc off).map fun n => (n, L, st, h)
  | .tableswitch d lo hi offs => match st with
    | .int x :: r => if x.toInt < lo ∨ hi < x.toInt then (mx_br pc d).map fun n => (n, L, r, h) else (offs[(x.toInt - lo).toNat]?).bind fun o => (mx_br pc o).map fun n => (n, L, r, h)
    | _ => none
  | .lookupswitch d ps => match st with
    | .int x :: r => if (ps.toList.zip (ps.toList.drop 1)).all (fun (a, next) => a.1 < next.1) = true then (mx_br pc (Op.lookupswitch.offset ps.toList d x.toInt)).map fun n => (n, L, r, h) else none
    | _ => none
  | .getfield i => mx_gf mi i pc L st h
  | .putfield i => mx_pf mi i pc L st h
  | .getstatic i => (mt_sg mi i).map fun v => (pc + 3, L, v :: st, h)
  | .new i => (mt_nw mi i).map fun ci => (pc + 3, L, .ref h.length :: st, h ++ [(.inl ci, mt_df ci)])
  | .newarray t => if newarray.typeOf t ∈ mt_na then mx_na (newarray.typeOf t) (pc + 2) L st h else none
  | .anewarray i => (mt_an mi i).bind fun C => mx_na (.object C) (pc + 3) L st h
  | .arraylength => match st with
    | .ref a :: r => match h[a]? with
      | some (.inr _, vs) => some (pc + 1, L, .int (Int32.ofNat vs.length) :: r, h)
      | _ => none
    | _ => none
  | .iaload => mx_ld (fun t => t == .int) pc L st h
  | .caload => mx_ld (fun t => t == .char) pc L st h
  | .baload => mx_ld (fun t => t == .byte || t == .boolean) pc L st h
  | .aaload => mx_ld (fun t => t.isReference) pc L st h
  | .iastore => mx_st (fun t => t == .int) pc L st h
  | .castore => mx_st (fun t => t == .char) pc L st h
  | .bastore => mx_st (fun t => t == .byte || t == .boolean) pc L st h
  | .aastore => mx_sr pc L st h
  | .checkcast i => match st with
    | .null :: r => some (pc + 3, L, .null :: r, h)
    | .ref a :: r => match h[a]? with
      | some (.inl ci, _) => if mt_cc mi i ci = true then some (pc + 3, L, .ref a :: r, h) else none
      | _ => none
    | _ => none
  | .instanceof i => match st with
    | .null :: r => some (pc + 3, L, .int 0 :: r, h)
    | .ref a :: r => match h[a]? with
      | some (.inl ci, _) => (mt_io mi i ci).map fun z => (pc + 3, L, .int (if z = true then 1 else 0) :: r, h)
      | _ => none
    | _ => none
  | _ => none
