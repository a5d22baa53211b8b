/-! The reference's methods: they make nothing, and write to the reference's own places alone. -/
def gv (v : Value) : Prop := match v with
  | .ref a => 76 ≤ a ∧ a < 102
  | _ => True
def gS (st : List Value) : Prop := ∀ v ∈ st, gv v
def gL (L : mx_L) : Prop := ∀ v, some v ∈ L → gv v
def gH (h : mx_H) : Prop := ∀ a, 76 ≤ a → a < 102 → ∀ q, h[a]? = some q → gS q.2
def FM (h h' : mx_H) : Prop := gH h' ∧ h'.length = h.length ∧ mx_tot h' = mx_tot h ∧ ∀ a, ¬ (76 ≤ a ∧ a < 102) → h'[a]? = h[a]?
theorem FM.rfl {h : mx_H} (g : gH h) : FM h h := ⟨g, Eq.refl _, Eq.refl _, fun _ _ => Eq.refl _⟩
theorem FM.trans {h h' h'' : mx_H} (x : FM h h') (y : FM h' h'') : FM h h'' := ⟨y.1, y.2.1.trans x.2.1, y.2.2.1.trans x.2.2.1, fun a ha => (y.2.2.2 a ha).trans (x.2.2.2 a ha)⟩
theorem gS_cons {v : Value} {r : List Value} : gS (v :: r) ↔ gv v ∧ gS r := by unfold gS; simp
theorem gL_set {L : mx_L} (g : gL L) {i : Nat} {x : Option Value} (hx : ∀ v, x = some v → gv v) : gL (L.set i x) := by
  intro v hv
  rcases List.mem_or_eq_of_mem_set hv with z | z
  · exact g v z
  · exact hx v z.symm
theorem gL_clr {L : mx_L} (g : gL L) (i : Nat) : gL (mx_clr L i) := by
  unfold mx_clr
  repeat' split
  all_goals first | exact g | exact gL_set g (fun v z => by cases z)
theorem gL_put1 {L : mx_L} (g : gL L) {i : Nat} {v : Value} (hv : gv v) : gL (mx_put1 L i v) := gL_set (gL_clr g i) (fun w z => by cases z; exact hv)
theorem gL_put2 {L : mx_L} (g : gL L) {i : Nat} {v : Value} (hv : gv v) : gL (mx_put2 L i v) := gL_set (gL_set (gL_clr g i) (fun w z => by cases z)) (fun w z => by cases z; exact hv)
theorem gL_sl : ∀ as : List Value, gS as → gL (mx_sl as) := by
  intro as
  induction as with
  | nil => intro _ v hv; cases hv
  | cons w as ih =>
    intro g v hv
    rw [mx_sl] at hv
    obtain ⟨g1, g2⟩ := gS_cons.mp g
    split at hv
    · simp only [List.mem_cons, reduceCtorEq, false_or, Option.some.injEq] at hv
      rcases hv with z | z
      · rw [z]; exact g1
      · exact ih g2 v z
    · simp only [List.mem_cons, Option.some.injEq] at hv
      rcases hv with z | z
      · rw [z]; exact g1
      · exact ih g2 v z
theorem gL_ent {mj : Nat} {as : List Value} (g : gS as) : gL (mx_ent mj as) := by
  intro v hv
  unfold mx_ent at hv
  rcases List.mem_append.mp hv with z | z
  · exact gL_sl as g v z
  · cases (List.mem_replicate.mp z).2
theorem gv_narrow (ty : FieldType) (x : Int32) : gv (narrow ty (.int x)) := by cases ty <;> trivial
theorem FM_set {h : mx_H} (g : gH h) {a : Nat} {t : Nat ⊕ FieldType} {vs vs' : List Value} (ha : h[a]? = some (t, vs)) (hr : 76 ≤ a ∧ a < 102) (hl : vs'.length = vs.length) (hv : gS vs') : FM h (h.set a (t, vs')) := by
  refine ⟨fun b h1 h2 q hq => ?_, List.length_set, mx_tot_set ha hl, fun b hb => List.getElem?_set_ne (by omega)⟩
  by_cases e : b = a
  · subst e
    rw [List.getElem?_set_self (List.getElem?_eq_some_iff.mp ha).1] at hq
    cases hq
    exact hv
  · rw [List.getElem?_set_ne (Ne.symm e)] at hq
    exact g b h1 h2 q hq
theorem gS_set {vs : List Value} (g : gS vs) {k : Nat} {v : Value} (hv : gv v) : gS (vs.set k v) := by
  intro w hw
  rcases List.mem_or_eq_of_mem_set hw with z | z
  · exact g w z
  · rw [z]; exact hv
def mo_ok : Jvm.ClassFile.Instr → Bool
  | .iconst _ => true
  | .bipush _ => true
  | .sipush _ => true
  | .lconst _ => true
  | .ldc2_w _ => true
  | .iload _ => true
  | .iload_n _ => true
  | .lload _ => true
  | .lload_n _ => true
  | .aload _ => true
  | .aload_n _ => true
  | .istore _ => true
  | .istore_n _ => true
  | .lstore _ => true
  | .lstore_n _ => true
  | .iadd => true
  | .isub => true
  | .imul => true
  | .iand => true
  | .ishr => true
  | .ladd => true
  | .lsub => true
  | .lmul => true
  | .ldiv => true
  | .lrem => true
  | .ineg => true
  | .i2c => true
  | .lneg => true
  | .i2l => true
  | .l2i => true
  | .iaload => true
  | .caload => true
  | .baload => true
  | .laload => true
  | .iastore => true
  | .castore => true
  | .bastore => true
  | .lastore => true
  | .lcmp => true
  | .dup => true
  | .dup2 => true
  | .ifCond _ _ => true
  | .if_icmp _ _ => true
  | .goto _ => true
  | .tableswitch _ _ _ _ => true
  | .iinc _ _ => true
  | .getfield _ => true
  | .putfield _ => true
  | .ireturn => true
  | .lreturn => true
  | .return_ => true
  | .invokevirtual _ => true
  | .invokestatic _ => true
  | _ => false
theorem mo_st1 {mi pc pc' : Nat} {ins : Jvm.ClassFile.Instr} {L L' : mx_L} {st st' : List Value} {h h' : mx_H} (ok : mo_ok ins = true) (hL : gL L) (hS : gS st) (hH : gH h) (hst : mx_st1 mi pc ins L st h = some (pc', L', st', h')) : gL L' ∧ gS st' ∧ FM h h' := by
  cases ins with
  | iconst k =>
    simp only [mx_st1] at hst
    cases hst
    exact ⟨hL, gS_cons.mpr ⟨trivial, hS⟩, FM.rfl hH⟩
  | bipush k =>
    simp only [mx_st1] at hst
    cases hst
    exact ⟨hL, gS_cons.mpr ⟨trivial, hS⟩, FM.rfl hH⟩
  | sipush k =>
    simp only [mx_st1] at hst
    cases hst
    exact ⟨hL, gS_cons.mpr ⟨trivial, hS⟩, FM.rfl hH⟩
  | lconst k =>
    simp only [mx_st1] at hst
    cases hst
    exact ⟨hL, gS_cons.mpr ⟨trivial, hS⟩, FM.rfl hH⟩
  | ldc2_w i =>
    simp only [mx_st1, Option.map_eq_some_iff] at hst
    obtain ⟨v, hv, hst⟩ := hst
    cases hst
    exact ⟨hL, gS_cons.mpr ⟨trivial, hS⟩, FM.rfl hH⟩
  | iload i =>
    simp only [mx_st1, Option.map_eq_some_iff] at hst
    obtain ⟨v, hv, hst⟩ := hst
    cases hst
    exact ⟨hL, gS_cons.mpr ⟨trivial, hS⟩, FM.rfl hH⟩
  | iload_n k =>
    simp only [mx_st1, Option.map_eq_some_iff] at hst
    obtain ⟨v, hv, hst⟩ := hst
    cases hst
    exact ⟨hL, gS_cons.mpr ⟨trivial, hS⟩, FM.rfl hH⟩
  | lload i =>
    simp only [mx_st1, Option.map_eq_some_iff] at hst
    obtain ⟨v, hv, hst⟩ := hst
    cases hst
    exact ⟨hL, gS_cons.mpr ⟨trivial, hS⟩, FM.rfl hH⟩
  | lload_n k =>
    simp only [mx_st1, Option.map_eq_some_iff] at hst
    obtain ⟨v, hv, hst⟩ := hst
    cases hst
    exact ⟨hL, gS_cons.mpr ⟨trivial, hS⟩, FM.rfl hH⟩
  | aload i =>
    simp only [mx_st1, Option.map_eq_some_iff] at hst
    obtain ⟨v, hv, hst⟩ := hst
    cases hst
    exact ⟨hL, gS_cons.mpr ⟨hL _ (List.mem_of_getElem? (mx_la_at hv).1), hS⟩, FM.rfl hH⟩
  | aload_n k =>
    simp only [mx_st1, Option.map_eq_some_iff] at hst
    obtain ⟨v, hv, hst⟩ := hst
    cases hst
    exact ⟨hL, gS_cons.mpr ⟨hL _ (List.mem_of_getElem? (mx_la_at hv).1), hS⟩, FM.rfl hH⟩
  | istore i =>
    simp only [mx_st1, mx_si] at hst
    split at hst
    · split at hst
      · cases hst
        exact ⟨gL_put1 hL trivial, (gS_cons.mp hS).2, FM.rfl hH⟩
      · cases hst
    · cases hst
  | istore_n k =>
    simp only [mx_st1, mx_si] at hst
    split at hst
    · split at hst
      · cases hst
        exact ⟨gL_put1 hL trivial, (gS_cons.mp hS).2, FM.rfl hH⟩
      · cases hst
    · cases hst
  | lstore i =>
    simp only [mx_st1, mx_sl8] at hst
    split at hst
    · split at hst
      · cases hst
        exact ⟨gL_put2 hL trivial, (gS_cons.mp hS).2, FM.rfl hH⟩
      · cases hst
    · cases hst
  | lstore_n k =>
    simp only [mx_st1, mx_sl8] at hst
    split at hst
    · split at hst
      · cases hst
        exact ⟨gL_put2 hL trivial, (gS_cons.mp hS).2, FM.rfl hH⟩
      · cases hst
    · cases hst
  | iadd =>
    simp only [mx_st1, mx_i2] at hst
    split at hst
    · cases hst
      exact ⟨hL, gS_cons.mpr ⟨trivial, (gS_cons.mp (gS_cons.mp hS).2).2⟩, FM.rfl hH⟩
    · cases hst
  | isub =>
    simp only [mx_st1, mx_i2] at hst
    split at hst
    · cases hst
      exact ⟨hL, gS_cons.mpr ⟨trivial, (gS_cons.mp (gS_cons.mp hS).2).2⟩, FM.rfl hH⟩
    · cases hst
  | imul =>
    simp only [mx_st1, mx_i2] at hst
    split at hst
    · cases hst
      exact ⟨hL, gS_cons.mpr ⟨trivial, (gS_cons.mp (gS_cons.mp hS).2).2⟩, FM.rfl hH⟩
    · cases hst
  | iand =>
    simp only [mx_st1, mx_i2] at hst
    split at hst
    · cases hst
      exact ⟨hL, gS_cons.mpr ⟨trivial, (gS_cons.mp (gS_cons.mp hS).2).2⟩, FM.rfl hH⟩
    · cases hst
  | ishr =>
    simp only [mx_st1, mx_i2] at hst
    split at hst
    · cases hst
      exact ⟨hL, gS_cons.mpr ⟨trivial, (gS_cons.mp (gS_cons.mp hS).2).2⟩, FM.rfl hH⟩
    · cases hst
  | ladd =>
    simp only [mx_st1, mx_l2] at hst
    split at hst
    · cases hst
      exact ⟨hL, gS_cons.mpr ⟨trivial, (gS_cons.mp (gS_cons.mp hS).2).2⟩, FM.rfl hH⟩
    · cases hst
  | lsub =>
    simp only [mx_st1, mx_l2] at hst
    split at hst
    · cases hst
      exact ⟨hL, gS_cons.mpr ⟨trivial, (gS_cons.mp (gS_cons.mp hS).2).2⟩, FM.rfl hH⟩
    · cases hst
  | lmul =>
    simp only [mx_st1, mx_l2] at hst
    split at hst
    · cases hst
      exact ⟨hL, gS_cons.mpr ⟨trivial, (gS_cons.mp (gS_cons.mp hS).2).2⟩, FM.rfl hH⟩
    · cases hst
  | ldiv =>
    simp only [mx_st1, mx_m2] at hst
    split at hst
    · split at hst
      · cases hst
      · cases hst
        exact ⟨hL, gS_cons.mpr ⟨trivial, (gS_cons.mp (gS_cons.mp hS).2).2⟩, FM.rfl hH⟩
    · cases hst
  | lrem =>
    simp only [mx_st1, mx_m2] at hst
    split at hst
    · split at hst
      · cases hst
      · cases hst
        exact ⟨hL, gS_cons.mpr ⟨trivial, (gS_cons.mp (gS_cons.mp hS).2).2⟩, FM.rfl hH⟩
    · cases hst
  | ineg =>
    simp only [mx_st1, mx_i1] at hst
    split at hst
    · cases hst
      exact ⟨hL, gS_cons.mpr ⟨trivial, (gS_cons.mp hS).2⟩, FM.rfl hH⟩
    · cases hst
  | i2c =>
    simp only [mx_st1, mx_i1] at hst
    split at hst
    · cases hst
      exact ⟨hL, gS_cons.mpr ⟨trivial, (gS_cons.mp hS).2⟩, FM.rfl hH⟩
    · cases hst
  | lneg =>
    simp only [mx_st1] at hst
    split at hst
    · cases hst
      exact ⟨hL, gS_cons.mpr ⟨trivial, (gS_cons.mp hS).2⟩, FM.rfl hH⟩
    · cases hst
  | i2l =>
    simp only [mx_st1] at hst
    split at hst
    · cases hst
      exact ⟨hL, gS_cons.mpr ⟨trivial, (gS_cons.mp hS).2⟩, FM.rfl hH⟩
    · cases hst
  | l2i =>
    simp only [mx_st1] at hst
    split at hst
    · cases hst
      exact ⟨hL, gS_cons.mpr ⟨trivial, (gS_cons.mp hS).2⟩, FM.rfl hH⟩
    · cases hst
  | iaload =>
    simp only [mx_st1, mx_ld] at hst
    split at hst
    · split at hst
      · rename_i ha
        split at hst
        · obtain ⟨k, hk, hst⟩ := Option.bind_eq_some_iff.mp hst
          obtain ⟨v, hv, hst⟩ := Option.map_eq_some_iff.mp hst
          have hr : gv (.ref _) := (gS_cons.mp (gS_cons.mp hS).2).1
          cases hst
          exact ⟨hL, gS_cons.mpr ⟨hH _ hr.1 hr.2 _ ha v (List.mem_of_getElem? hv), (gS_cons.mp (gS_cons.mp hS).2).2⟩, FM.rfl hH⟩
        · cases hst
      · cases hst
    · cases hst
  | caload =>
    simp only [mx_st1, mx_ld] at hst
    split at hst
    · split at hst
      · rename_i ha
        split at hst
        · obtain ⟨k, hk, hst⟩ := Option.bind_eq_some_iff.mp hst
          obtain ⟨v, hv, hst⟩ := Option.map_eq_some_iff.mp hst
          have hr : gv (.ref _) := (gS_cons.mp (gS_cons.mp hS).2).1
          cases hst
          exact ⟨hL, gS_cons.mpr ⟨hH _ hr.1 hr.2 _ ha v (List.mem_of_getElem? hv), (gS_cons.mp (gS_cons.mp hS).2).2⟩, FM.rfl hH⟩
        · cases hst
      · cases hst
    · cases hst
  | baload =>
    simp only [mx_st1, mx_ld] at hst
    split at hst
    · split at hst
      · rename_i ha
        split at hst
        · obtain ⟨k, hk, hst⟩ := Option.bind_eq_some_iff.mp hst
          obtain ⟨v, hv, hst⟩ := Option.map_eq_some_iff.mp hst
          have hr : gv (.ref _) := (gS_cons.mp (gS_cons.mp hS).2).1
          cases hst
          exact ⟨hL, gS_cons.mpr ⟨hH _ hr.1 hr.2 _ ha v (List.mem_of_getElem? hv), (gS_cons.mp (gS_cons.mp hS).2).2⟩, FM.rfl hH⟩
        · cases hst
      · cases hst
    · cases hst
  | laload =>
    simp only [mx_st1, mx_ld] at hst
    split at hst
    · split at hst
      · rename_i ha
        split at hst
        · obtain ⟨k, hk, hst⟩ := Option.bind_eq_some_iff.mp hst
          obtain ⟨v, hv, hst⟩ := Option.map_eq_some_iff.mp hst
          have hr : gv (.ref _) := (gS_cons.mp (gS_cons.mp hS).2).1
          cases hst
          exact ⟨hL, gS_cons.mpr ⟨hH _ hr.1 hr.2 _ ha v (List.mem_of_getElem? hv), (gS_cons.mp (gS_cons.mp hS).2).2⟩, FM.rfl hH⟩
        · cases hst
      · cases hst
    · cases hst
  | iastore =>
    simp only [mx_st1, mx_st] at hst
    split at hst
    · split at hst
      · rename_i ha
        split at hst
        · obtain ⟨k, hk, hst⟩ := Option.map_eq_some_iff.mp hst
          have hr : gv (.ref _) := (gS_cons.mp (gS_cons.mp (gS_cons.mp hS).2).2).1
          cases hst
          exact ⟨hL, (gS_cons.mp (gS_cons.mp (gS_cons.mp hS).2).2).2, FM_set hH ha hr (by simp) (gS_set (hH _ hr.1 hr.2 _ ha) (gv_narrow _ _))⟩
        · cases hst
      · cases hst
    · cases hst
  | castore =>
    simp only [mx_st1, mx_st] at hst
    split at hst
    · split at hst
      · rename_i ha
        split at hst
        · obtain ⟨k, hk, hst⟩ := Option.map_eq_some_iff.mp hst
          have hr : gv (.ref _) := (gS_cons.mp (gS_cons.mp (gS_cons.mp hS).2).2).1
          cases hst
          exact ⟨hL, (gS_cons.mp (gS_cons.mp (gS_cons.mp hS).2).2).2, FM_set hH ha hr (by simp) (gS_set (hH _ hr.1 hr.2 _ ha) (gv_narrow _ _))⟩
        · cases hst
      · cases hst
    · cases hst
  | bastore =>
    simp only [mx_st1, mx_st] at hst
    split at hst
    · split at hst
      · rename_i ha
        split at hst
        · obtain ⟨k, hk, hst⟩ := Option.map_eq_some_iff.mp hst
          have hr : gv (.ref _) := (gS_cons.mp (gS_cons.mp (gS_cons.mp hS).2).2).1
          cases hst
          exact ⟨hL, (gS_cons.mp (gS_cons.mp (gS_cons.mp hS).2).2).2, FM_set hH ha hr (by simp) (gS_set (hH _ hr.1 hr.2 _ ha) (gv_narrow _ _))⟩
        · cases hst
      · cases hst
    · cases hst
  | lastore =>
    simp only [mx_st1] at hst
    split at hst
    · split at hst
      · rename_i ha
        split at hst
        · obtain ⟨k, hk, hst⟩ := Option.map_eq_some_iff.mp hst
          have hr : gv (.ref _) := (gS_cons.mp (gS_cons.mp (gS_cons.mp hS).2).2).1
          cases hst
          exact ⟨hL, (gS_cons.mp (gS_cons.mp (gS_cons.mp hS).2).2).2, FM_set hH ha hr (by simp) (gS_set (hH _ hr.1 hr.2 _ ha) trivial)⟩
        · cases hst
      · cases hst
    · cases hst
  | lcmp =>
    simp only [mx_st1] at hst
    split at hst
    · cases hst
      exact ⟨hL, gS_cons.mpr ⟨trivial, (gS_cons.mp (gS_cons.mp hS).2).2⟩, FM.rfl hH⟩
    · cases hst
  | dup =>
    simp only [mx_st1] at hst
    split at hst
    · split at hst
      · cases hst
        exact ⟨hL, gS_cons.mpr ⟨(gS_cons.mp hS).1, hS⟩, FM.rfl hH⟩
      · cases hst
    · cases hst
  | dup2 =>
    simp only [mx_st1] at hst
    split at hst
    · split at hst
      · cases hst
        exact ⟨hL, gS_cons.mpr ⟨(gS_cons.mp hS).1, gS_cons.mpr ⟨(gS_cons.mp (gS_cons.mp hS).2).1, hS⟩⟩, FM.rfl hH⟩
      · cases hst
    · cases hst
  | ifCond q off =>
    simp only [mx_st1] at hst
    split at hst
    · obtain ⟨v, hv, hst⟩ := Option.map_eq_some_iff.mp hst
      cases hst
      exact ⟨hL, (gS_cons.mp hS).2, FM.rfl hH⟩
    · cases hst
  | if_icmp q off =>
    simp only [mx_st1] at hst
    split at hst
    · obtain ⟨v, hv, hst⟩ := Option.map_eq_some_iff.mp hst
      cases hst
      exact ⟨hL, (gS_cons.mp (gS_cons.mp hS).2).2, FM.rfl hH⟩
    · cases hst
  | goto off =>
    simp only [mx_st1, Option.map_eq_some_iff] at hst
    obtain ⟨v, hv, hst⟩ := hst
    cases hst
    exact ⟨hL, hS, FM.rfl hH⟩
  | tableswitch d lo hi offs =>
    simp only [mx_st1] at hst
    split at hst
    · split at hst
      · obtain ⟨v, hv, hst⟩ := Option.map_eq_some_iff.mp hst
        cases hst
        exact ⟨hL, (gS_cons.mp hS).2, FM.rfl hH⟩
      · obtain ⟨o, ho, hst⟩ := Option.bind_eq_some_iff.mp hst
        obtain ⟨v, hv, hst⟩ := Option.map_eq_some_iff.mp hst
        cases hst
        exact ⟨hL, (gS_cons.mp hS).2, FM.rfl hH⟩
    · cases hst
  | iinc i k =>
    simp only [mx_st1, Option.map_eq_some_iff] at hst
    obtain ⟨v, hv, hst⟩ := hst
    cases hst
    exact ⟨gL_put1 hL trivial, hS, FM.rfl hH⟩
  | getfield i =>
    simp only [mx_st1, mx_gf] at hst
    split at hst
    · split at hst
      · rename_i ha hf
        obtain ⟨k, hk, hst⟩ := Option.bind_eq_some_iff.mp hst
        obtain ⟨v, hv, hst⟩ := Option.bind_eq_some_iff.mp hst
        have hr : gv (.ref _) := (gS_cons.mp hS).1
        split at hst
        · cases hst
          exact ⟨hL, gS_cons.mpr ⟨hH _ hr.1 hr.2 _ ha v (List.mem_of_getElem? hv), (gS_cons.mp hS).2⟩, FM.rfl hH⟩
        · cases hst
      · cases hst
    · cases hst
  | putfield i =>
    simp only [mx_st1, mx_pf] at hst
    split at hst
    · split at hst
      · rename_i ha hf
        obtain ⟨k, hk, hst⟩ := Option.bind_eq_some_iff.mp hst
        have hr : gv (.ref _) := (gS_cons.mp (gS_cons.mp hS).2).1
        split at hst
        · cases hst
          exact ⟨hL, (gS_cons.mp (gS_cons.mp hS).2).2, FM_set hH ha hr (by simp) (gS_set (hH _ hr.1 hr.2 _ ha) (gS_cons.mp hS).1)⟩
        · cases hst
      · cases hst
    · cases hst
  | ireturn =>
    simp only [mx_st1] at hst
    cases hst
  | lreturn =>
    simp only [mx_st1] at hst
    cases hst
  | return_ =>
    simp only [mx_st1] at hst
    cases hst
  | invokevirtual i =>
    simp only [mx_st1] at hst
    cases hst
  | invokestatic i =>
    simp only [mx_st1] at hst
    cases hst
  | _ => cases ok
def mo_in (mi : Nat) : Bool := decide (237 ≤ mi ∧ mi ≤ 338)
theorem mo_o : ∀ mi, mo_in mi = true → mt_o mi = 25 := by
  have key : ∀ k, k < 102 → mt_o (237 + k) = 25 := by decide +kernel
  intro mi h
  have h := of_decide_eq_true h
  have := key (mi - 237) (by omega)
  rwa [show 237 + (mi - 237) = mi by omega] at this
def mo_all (mi : Nat) : Bool := match mt_q mi with
  | some q => q.2.2.2.2.2.2.all fun r => r.all fun p => mo_ok p.2
  | none => true
theorem mo_code : ∀ k, k < 102 → mo_all (237 + k) = true := by decide +kernel
theorem mo_at {mi pc : Nat} {ins : Jvm.ClassFile.Instr} (hm : mo_in mi = true) (h : mt_at mi pc = some ins) : mo_ok ins = true := by
  have hm := of_decide_eq_true hm
  have hc := mo_code (mi - 237) (by omega)
  rw [show 237 + (mi - 237) = mi by omega] at hc
  unfold mt_at at h
  unfold mo_all at hc
  split at h
  · rename_i q hq
    rw [hq] at hc
    obtain ⟨r, h1, h2⟩ := Option.bind_eq_some_iff.mp h
    exact List.all_eq_true.mp (List.all_eq_true.mp hc r (List.mem_of_getElem? h1)) _ (mx_lookup_mem h2)
  · cases h
theorem mo_sc : ∀ q ∈ mt_SC.getD 25 [], mo_in q.2.1 = true := by decide +kernel
theorem mo_vc : ∀ q ∈ mt_VC.getD 25 [], ∀ e ∈ q.2.2, mo_in e.2.1 = true := by decide +kernel
theorem mo_tgt {mi mj : Nat} {ins : Jvm.ClassFile.Instr} {st : List Value} {h : mx_H} (hm : mo_in mi = true) (ok : mo_ok ins = true) (ht : mx_tgt mi ins st h = some mj) : mo_in mj = true := by
  have ho := mo_o mi hm
  cases ins with
  | invokestatic i =>
    simp only [mx_tgt] at ht
    split at ht
    · rename_i q hq
      split at ht
      · cases ht
        have := mt_row_mem hq
        rw [ho] at this
        exact mo_sc _ this
      · cases ht
    · cases ht
  | invokevirtual i =>
    simp only [mx_tgt] at ht
    split at ht
    · rename_i q hq
      split at ht
      · obtain ⟨e, he, ht⟩ := Option.map_eq_some_iff.mp ht
        have := mt_row_mem hq
        rw [ho] at this
        rw [← ht]
        exact mo_vc _ this e (List.mem_of_find?_eq_some he)
      · cases ht
    · cases ht
  | invokespecial i => cases ok
  | _ => cases ht
theorem mo_nat {mi : Nat} {ins : Jvm.ClassFile.Instr} {st : List Value} {h : mx_H} (hm : mo_in mi = true) (ok : mo_ok ins = true) : mx_nat mi ins st h = none := by
  have ho := mo_o mi hm
  cases ins with
  | invokestatic i =>
    simp only [mx_nat, ho]
    rw [if_neg (by simp [mt_AC])]
  | invokevirtual i =>
    simp only [mx_nat, ho]
    rw [if_neg (by simp [mt_GC]), if_neg (by simp [mt_CL])]
  | invokespecial i => cases ok
  | checkcast i => cases ok
  | ldc i => cases ok
  | _ => rfl
theorem mo_ret {mi : Nat} {ins : Jvm.ClassFile.Instr} {st : List Value} {rv : Option Value} (hS : gS st) (ok : mo_ok ins = true) (hr : mx_ret mi ins st = some rv) : ∀ v, rv = some v → gv v := by
  intro v hv
  subst hv
  cases ins with
  | ireturn =>
    simp only [mx_ret] at hr
    split at hr
    · split at hr
      · cases hr; trivial
      · cases hr
    · cases hr
  | lreturn =>
    simp only [mx_ret] at hr
    split at hr
    · cases hr; trivial
    · cases hr
  | return_ =>
    simp only [mx_ret] at hr
    split at hr <;> cases hr
  | areturn => cases ok
  | _ => cases hr
/-- a run of the reference's methods -/
theorem mo_run : ∀ n d mi pc L st h r, mo_in mi = true → gL L → gS st → gH h → mx_run n d mi pc L st h = some r → (∀ v, r.1 = some v → gv v) ∧ FM h r.2 := by
  intro n
  induction n with
  | zero => intro d mi pc L st h r _ _ _ _ z; cases z
  | succ n ih =>
    intro d mi pc L st h r hm hL hS hH hr
    rw [mx_run] at hr
    split at hr
    · cases hr
    · rename_i ins hins
      have ok := mo_at hm hins
      split at hr
      · rename_i rv hrv
        cases hr
        exact ⟨mo_ret hS ok hrv, FM.rfl hH⟩
      · split at hr
        · rename_i mj hmj
          have hmj' := mo_tgt hm ok hmj
          split at hr
          · cases d with
            | zero => cases hr
            | succ d' =>
              simp only at hr
              split at hr
              · rename_i rv h1 hc
                have i1 := ih d' mj 0 _ [] h (rv, h1) hmj' (gL_ent (fun v hv => hS v (List.mem_of_mem_take (List.mem_reverse.mp hv)))) (fun v hv => by cases hv) hH hc
                have i2 := ih (d' + 1) mi (pc + 3) L _ h1 r hm hL (fun v hv => by
                  rcases List.mem_append.mp hv with z | z
                  · exact i1.1 v (Option.mem_toList.mp z)
                  · exact hS v (List.mem_of_mem_drop z)) i1.2.1 hr
                exact ⟨i2.1, i1.2.trans i2.2⟩
              · cases hr
          · cases hr
        · rw [mo_nat hm ok] at hr
          simp only at hr
          split at hr
          · rename_i pc1 L1 st1 h1 hs
            obtain ⟨a1, a2, a3⟩ := mo_st1 ok hL hS hH hs
            have i2 := ih d mi pc1 L1 st1 h1 r hm a1 a2 a3.1 hr
            exact ⟨i2.1, a3.trans i2.2⟩
          · cases hr
theorem mo_G {d mi pc : Nat} {L : mx_L} {st : List Value} {h h' : mx_H} {rv : Option Value} (hm : mo_in mi = true) (hL : gL L) (hS : gS st) (hH : gH h) (hr : mx_G d mi pc L st h = some (rv, h')) : FM h h' := by
  obtain ⟨n, hn⟩ := mx_G_iff.mp hr
  exact (mo_run n d mi pc L st h _ hm hL hS hH hn).2
/-- old places stay as they are, whatever runs -/
theorem mx_oldG {d mi pc : Nat} {L : mx_L} {st : List Value} {h h' : mx_H} {rv : Option Value} (hr : mx_G d mi pc L st h = some (rv, h')) : ∀ a, a < mt_nO → mt_nO ≤ h.length → h'[a]? = h[a]? := by
  obtain ⟨n, hn⟩ := mx_G_iff.mp hr
  have key : ∀ n d mi pc L st h r, mx_run n d mi pc L st h = some r → mt_nO ≤ h.length → h.length ≤ r.2.length ∧ ∀ a, a < mt_nO → r.2[a]? = h[a]? := by
    have one : ∀ (h h1 : mx_H), (h1 = h ∨ (∃ (a : Nat) (q q' : mx_C), h[a]? = some q ∧ h1 = h.set a q' ∧ q'.2.length = q.2.length ∧ q'.1 = q.1 ∧ mt_nO ≤ a) ∨ ∃ q : mx_C, h1 = h ++ [q]) → mt_nO ≤ h.length → h.length ≤ h1.length ∧ ∀ a, a < mt_nO → h1[a]? = h[a]? := by
      intro h h1 hc hl
      rcases hc with z | ⟨a, q, q', _, z, _, _, hn⟩ | ⟨q, z⟩
      · rw [z]; exact ⟨Nat.le_refl _, fun _ _ => rfl⟩
      · rw [z]; exact ⟨by rw [List.length_set]; exact Nat.le_refl _, fun b hb => List.getElem?_set_ne (by omega)⟩
      · rw [z]; exact ⟨by rw [List.length_append]; omega, fun b hb => List.getElem?_append_left (by omega)⟩
    intro n
    induction n with
    | zero => intro d mi pc L st h r z; cases z
    | succ n ih =>
      intro d mi pc L st h r hr hl
      rw [mx_run] at hr
      split at hr
      · cases hr
      · split at hr
        · cases hr
          exact ⟨Nat.le_refl _, fun _ _ => rfl⟩
        · split at hr
          · split at hr
            · cases d with
              | zero => cases hr
              | succ d' =>
                simp only at hr
                split at hr
                · rename_i rv h1 hc
                  have i1 := ih _ _ _ _ _ _ (rv, h1) hc hl
                  have i2 := ih _ _ _ _ _ _ r hr (Nat.le_trans hl i1.1)
                  exact ⟨Nat.le_trans i1.1 i2.1, fun a ha => (i2.2 a ha).trans (i1.2 a ha)⟩
                · cases hr
            · cases hr
          · split at hr
            · rename_i w st1 h1 hnat
              split at hr
              · have i1 := one h h1 (by
                  rcases mx_nat_heap hnat with (z | z) | z
                  · exact Or.inl z
                  · exact Or.inr (Or.inl z)
                  · exact Or.inr (Or.inr z)) hl
                have i2 := ih _ _ _ _ _ _ r hr (Nat.le_trans hl i1.1)
                exact ⟨Nat.le_trans i1.1 i2.1, fun a ha => (i2.2 a ha).trans (i1.2 a ha)⟩
              · cases hr
            · split at hr
              · rename_i pc1 L1 st1 h1 hs
                have i1 := one h h1 (mx_st1_heap hs) hl
                have i2 := ih _ _ _ _ _ _ r hr (Nat.le_trans hl i1.1)
                exact ⟨Nat.le_trans i1.1 i2.1, fun a ha => (i2.2 a ha).trans (i1.2 a ha)⟩
              · cases hr
  intro a ha hl
  exact (key n d mi pc L st h _ hn hl).2 a ha
