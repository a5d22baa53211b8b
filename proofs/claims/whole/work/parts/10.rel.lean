/-! How the small machine's heap lies in the machine's: values, cells, locals. -/
abbrev mx_A : Type := (Nat → Nat) × Option Nat
/-- a field of an old cell that nobody has told of is held as a .retAddr -/
def mx_known (v : Value) : Bool := match v with
  | .retAddr _ => false
  | _ => true
def mx_isr (v : Value) : Bool := match v with
  | .ref _ => true
  | .null => true
  | _ => false
def mx_tr (al : mx_A) (v : Value) : Value := match v with
  | .ref i => .ref (al.1 i)
  | .retAddr _ => va_rf al.2
  | w => w
theorem mx_tr_cat (al : mx_A) (v : Value) : (mx_tr al v).category = v.category := by
  obtain ⟨f, o⟩ := al
  cases v <;> first | rfl | (cases o <;> rfl)
theorem mx_tr_narrow (al : mx_A) (ty : FieldType) (v : Value) (h : narrow ty v = v) : narrow ty (mx_tr al v) = mx_tr al v := by
  obtain ⟨f, o⟩ := al
  cases v <;> first | exact h | (cases ty <;> rfl) | (cases o <;> cases ty <;> rfl)
theorem mx_tr_fits (al : mx_A) (ty : FieldType) (v : Value) (h : fits ty v = true) : fits ty (mx_tr al v) = true := by
  cases v <;> first | exact h | (cases ty <;> first | exact h | rfl | (simp [fits] at h))
def mx_str (i : Nat) : Bool := 7 ≤ i && i % 2 == 1
/-- places of which it is known that they are two -/
def mx_sep (i j : Nat) : Bool := i == j || (!(i == 1) && (!(j == 1) && (decide (mt_nO ≤ i) || (decide (mt_nO ≤ j) || (mx_str i && mx_str j)))))
def mx_sepv (v w : Value) : Bool := match v, w with
  | .ref i, .ref j => mx_sep i j
  | .null, .ref _ => true
  | .ref _, .null => true
  | .null, .null => true
  | _, _ => false
theorem mx_tr_inj {al : mx_A} (hi : ∀ i j, mx_sep i j = true → al.1 i = al.1 j → i = j) {v w : Value} (hs : mx_sepv v w = true) (h : mx_tr al v = mx_tr al w) : v = w := by
  cases v <;> cases w <;> simp only [mx_sepv] at hs <;> first | rfl | (simp only [mx_tr] at h; first | (cases h; done) | (injection h with h; rw [hi _ _ hs h])) | (cases hs; done)
def mx_tot (h : mx_H) : Nat := (h.map fun q => q.2.length).sum
theorem mx_tot_app (h g : mx_H) : mx_tot (h ++ g) = mx_tot h + mx_tot g := by simp [mx_tot]
theorem mx_tot_set {h : mx_H} {a : Nat} {q q' : mx_C} (ha : h[a]? = some q) (hl : q'.2.length = q.2.length) : mx_tot (h.set a q') = mx_tot h := by
  induction h generalizing a with
  | nil => cases ha
  | cons x t ih =>
    cases a with
    | zero =>
      simp only [List.getElem?_cons_zero, Option.some.injEq] at ha
      subst ha
      simp [mx_tot, hl]
    | succ n =>
      simp only [List.getElem?_cons_succ] at ha
      have := ih ha
      simp only [mx_tot, List.set_cons_succ, List.map_cons, List.sum_cons] at this ⊢
      rw [this]
/-- the locals -/
def mx_lv (al : mx_A) (n : Nat) (L : mx_L) : List (Nat × Value) := (List.range n).filterMap fun i => match L[i]? with
  | some (some v) => some (i, mx_tr al v)
  | _ => none
theorem mx_lv_mem {al : mx_A} {n : Nat} {L : mx_L} {q : Nat × Value} : q ∈ mx_lv al n L ↔ q.1 < n ∧ ∃ v, L[q.1]? = some (some v) ∧ q.2 = mx_tr al v := by
  unfold mx_lv
  rw [List.mem_filterMap]
  constructor
  · rintro ⟨i, hi, he⟩
    rw [List.mem_range] at hi
    split at he
    · rename_i v hv
      cases he
      exact ⟨hi, v, hv, rfl⟩
    · cases he
  · rintro ⟨h1, v, h2, h3⟩
    refine ⟨q.1, List.mem_range.mpr h1, ?_⟩
    rw [h2]
    obtain ⟨a, b⟩ := q
    dsimp only at h3 ⊢
    rw [h3]
def mx_RL (al : mx_A) (ls : Array Slot) (n : Nat) (L : mx_L) : Prop := L.length = n ∧ lv_has ls n (mx_lv al n L)
theorem mx_RL.at {al : mx_A} {ls : Array Slot} {n : Nat} {L : mx_L} (h : mx_RL al ls n L) {i : Nat} {v : Value} (hi : L[i]? = some (some v)) : ls[i]? = some (.val (mx_tr al v)) := by
  have hl : i < n := by rw [← h.1]; exact (List.getElem?_eq_some_iff.mp hi).1
  exact h.2.2.2 (i, mx_tr al v) (mx_lv_mem.mpr ⟨hl, v, hi, rfl⟩)
/-- a store at i: a long that began one place ahead is lost -/
def mx_clr (L : mx_L) (i : Nat) : mx_L := match i with
  | 0 => L
  | j + 1 => match L[j]? with
    | some (some w) => if w.category = 2 then L.set j none else L
    | _ => L
def mx_put1 (L : mx_L) (i : Nat) (v : Value) : mx_L := (mx_clr L i).set i (some v)
def mx_put2 (L : mx_L) (i : Nat) (v : Value) : mx_L := ((mx_clr L i).set (i + 1) none).set i (some v)
theorem mx_clr_len (L : mx_L) (i : Nat) : (mx_clr L i).length = L.length := by
  unfold mx_clr
  split
  · rfl
  · split
    · split
      · exact List.length_set
      · rfl
    · rfl
theorem mx_clr_at {L : mx_L} {i j : Nat} {w : Value} (h : (mx_clr L i)[j]? = some (some w)) : L[j]? = some (some w) ∧ ¬ (j + 1 = i ∧ w.category = 2) := by
  unfold mx_clr at h
  split at h
  · exact ⟨h, fun z => by omega⟩
  · rename_i k
    split at h
    · rename_i x hx
      split at h
      · rename_i hc
        by_cases e : j = k
        · subst e
          rw [List.getElem?_set_self (List.getElem?_eq_some_iff.mp hx).1] at h
          cases h
        · rw [List.getElem?_set_ne (Ne.symm e)] at h
          exact ⟨h, fun z => e (by omega)⟩
      · rename_i hc
        refine ⟨h, fun z => ?_⟩
        have e : j = k := by omega
        subst e
        rw [hx] at h
        cases h
        exact hc z.2
    · rename_i hx
      refine ⟨h, fun z => ?_⟩
      have e : j = k := by omega
      subst e
      exact hx w h
theorem mx_RL.set1 {al : mx_A} {ls ls' : Array Slot} {n : Nat} {L : mx_L} (h : mx_RL al ls n L) {i : Nat} {v : Value} (hi : i < n)
    (h' : lv_has ls' n ((i, mx_tr al v) :: (mx_lv al n L).filter (fun q => !(q.1 == i) && !(q.1 + 1 == i && q.2.category == 2)))) : mx_RL al ls' n (mx_put1 L i v) := by
  refine ⟨by unfold mx_put1; rw [List.length_set, mx_clr_len]; exact h.1, ⟨h'.1, h'.2.1, fun q hq => ?_⟩⟩
  obtain ⟨h1, w, h2, h3⟩ := mx_lv_mem.mp hq
  unfold mx_put1 at h2
  by_cases e : q.1 = i
  · rw [e, List.getElem?_set_self (by rw [mx_clr_len, h.1]; exact hi)] at h2
    cases h2
    obtain ⟨a, b⟩ := q
    dsimp only at e h3
    subst e; subst h3
    exact h'.2.2 _ List.mem_cons_self
  · rw [List.getElem?_set_ne (Ne.symm e)] at h2
    obtain ⟨g1, g2⟩ := mx_clr_at h2
    refine h'.2.2 q (List.mem_cons_of_mem _ (List.mem_filter.mpr ⟨mx_lv_mem.mpr ⟨h1, w, g1, h3⟩, ?_⟩))
    have g3 : ¬ (q.1 + 1 = i ∧ q.2.category = 2) := by rw [h3, mx_tr_cat]; exact g2
    simp only [Bool.and_eq_true, Bool.not_eq_true', beq_eq_false_iff_ne, ne_eq, Bool.and_eq_false_iff]
    refine ⟨e, ?_⟩
    by_cases g4 : q.1 + 1 = i
    · exact Or.inr fun z => g3 ⟨g4, z⟩
    · exact Or.inl g4
theorem mx_RL.set2 {al : mx_A} {ls ls' : Array Slot} {n : Nat} {L : mx_L} (h : mx_RL al ls n L) {i : Nat} {v : Value} (hi : i + 1 < n)
    (h' : lv_has ls' n ((i, mx_tr al v) :: (mx_lv al n L).filter (fun q => !(q.1 == i) && (!(q.1 == i + 1) && !(q.1 + 1 == i && q.2.category == 2))))) : mx_RL al ls' n (mx_put2 L i v) := by
  refine ⟨by unfold mx_put2; rw [List.length_set, List.length_set, mx_clr_len]; exact h.1, ⟨h'.1, h'.2.1, fun q hq => ?_⟩⟩
  obtain ⟨h1, w, h2, h3⟩ := mx_lv_mem.mp hq
  unfold mx_put2 at h2
  by_cases e : q.1 = i
  · rw [e, List.getElem?_set_self (by rw [List.length_set, mx_clr_len, h.1]; omega)] at h2
    cases h2
    obtain ⟨a, b⟩ := q
    dsimp only at e h3
    subst e; subst h3
    exact h'.2.2 _ List.mem_cons_self
  · rw [List.getElem?_set_ne (Ne.symm e)] at h2
    by_cases e2 : q.1 = i + 1
    · rw [e2, List.getElem?_set_self (by rw [mx_clr_len, h.1]; exact hi)] at h2
      cases h2
    · rw [List.getElem?_set_ne (Ne.symm e2)] at h2
      obtain ⟨g1, g2⟩ := mx_clr_at h2
      refine h'.2.2 q (List.mem_cons_of_mem _ (List.mem_filter.mpr ⟨mx_lv_mem.mpr ⟨h1, w, g1, h3⟩, ?_⟩))
      have g3 : ¬ (q.1 + 1 = i ∧ q.2.category = 2) := by rw [h3, mx_tr_cat]; exact g2
      simp only [Bool.and_eq_true, Bool.not_eq_true', beq_eq_false_iff_ne, ne_eq, Bool.and_eq_false_iff]
      refine ⟨e, e2, ?_⟩
      by_cases g4 : q.1 + 1 = i
      · exact Or.inr fun z => g3 ⟨g4, z⟩
      · exact Or.inl g4
/-- the locals with which a method begins -/
def mx_sl (as : List Value) : mx_L := match as with
  | [] => []
  | v :: t => if v.category = 2 then some v :: none :: mx_sl t else some v :: mx_sl t
theorem mx_sl_args (al : mx_A) (as : List Value) : (lg_sl (as.map (mx_tr al))).length = (mx_sl as).length ∧ ∀ (k j : Nat) (v : Value), (mx_sl as)[j]? = some (some v) → (k + j, mx_tr al v) ∈ lv_args k (as.map (mx_tr al)) := by
  induction as with
  | nil => exact ⟨rfl, fun k j v h => by simp [mx_sl] at h⟩
  | cons x t ih =>
    obtain ⟨i1, i2⟩ := ih
    have hc := mx_tr_cat al x
    by_cases h2 : x.category = 2
    · rw [h2] at hc
      refine ⟨?_, fun k j v h => ?_⟩
      · simp only [lg_sl, List.map_cons, List.flatMap_cons, hc, mx_sl, h2] at i1 ⊢
        simp [i1]
      · simp only [mx_sl, h2, if_true] at h
        simp only [List.map_cons, lv_args, hc, if_true]
        match j, h with
        | 0, h =>
          simp only [List.getElem?_cons_zero, Option.some.injEq] at h
          subst h
          exact List.mem_cons_self
        | 1, h => simp at h
        | j + 2, h =>
          simp only [List.getElem?_cons_succ] at h
          have := i2 (k + 2) j v h
          rw [show k + 2 + j = k + (j + 2) by omega] at this
          exact List.mem_cons_of_mem _ this
    · rw [← hc] at h2
      have h3 : ¬ x.category = 2 := by rw [← hc]; exact h2
      refine ⟨?_, fun k j v h => ?_⟩
      · simp only [lg_sl, List.map_cons, List.flatMap_cons, mx_sl, if_neg h2, if_neg h3] at i1 ⊢
        simp [i1]
      · simp only [mx_sl, if_neg h3] at h
        simp only [List.map_cons, lv_args, if_neg h2]
        match j, h with
        | 0, h =>
          simp only [List.getElem?_cons_zero, Option.some.injEq] at h
          subst h
          exact List.mem_cons_self
        | j + 1, h =>
          simp only [List.getElem?_cons_succ] at h
          have := i2 (k + 1) j v h
          rw [show k + 1 + j = k + (j + 1) by omega] at this
          exact List.mem_cons_of_mem _ this
theorem mx_RL.entry (al : mx_A) (as : List Value) {n : Nat} (hn : (mx_sl as).length ≤ n) :
    mx_RL al ((lg_sl (as.map (mx_tr al)) ++ List.replicate (n - (lg_sl (as.map (mx_tr al))).length) Slot.unset).toArray) n (mx_sl as ++ List.replicate (n - (mx_sl as).length) none) := by
  obtain ⟨s1, s2⟩ := mx_sl_args al as
  have he := lv_entry (as.map (mx_tr al)) (n := n) (by rw [s1]; exact hn)
  refine ⟨by simp; omega, ⟨he.1, he.2.1, fun q hq => ?_⟩⟩
  obtain ⟨h1, w, h2, h3⟩ := mx_lv_mem.mp hq
  refine he.2.2 q ?_
  have hlt : q.1 < (mx_sl as).length := by
    by_cases h : q.1 < (mx_sl as).length
    · exact h
    · rw [List.getElem?_append_right (by omega), List.getElem?_replicate] at h2
      split at h2 <;> cases h2
  rw [List.getElem?_append_left hlt] at h2
  have := s2 0 q.1 w h2
  rw [Nat.zero_add, ← h3] at this
  exact this
/-- where a place of the small heap lies -/
def mx_al (al : mx_A) (b nO : Nat) : Prop := (∀ i j, mx_sep i j = true → al.1 i = al.1 j → i = j) ∧ (∀ i, nO ≤ i → al.1 i = b + (i - nO)) ∧ ∀ i, i < nO → i ≠ 1 → al.1 i < b
/-- a cell that was made -/
def mx_new (D : va_G) (dA : FieldType → ClassId) (al : mx_A) (q : mx_C) (a : Nat) (H : Heap) : Prop := match q.1 with
  | .inl ci => ∃ r : vw_C, mt_cl[ci]? = some r ∧ q.2.length = r.2.2 ∧ t_OB a (D.1 ci) r.2.2 (D.2 ci) H (fun k => mx_tr al (q.2.getD k .null))
  | .inr ty => ty ∈ mt_ty ∧ H[a]? = some { cls := dA ty, slots := (q.2.map (mx_tr al)).toArray, vm := .none }
/-- a cell that was there -/
def mx_old (D : va_G) (al : mx_A) (q : mx_C) (a : Nat) (U : State) (H : Heap) : Prop := match q.1 with
  | .inl ci => mt_cl[ci]? = none ∨ ∃ (r : vw_C) (cell : Cell), mt_cl[ci]? = some r ∧ q.2.length = r.2.2 ∧ H[a]? = some cell ∧ cell.vm.isStatics = false ∧ cell.vm ≠ .unknown ∧ cell.cls = D.1 ci ∧ ∀ (k : Nat) (v : Value), q.2[k]? = some v → mx_known v = true → cell.slots[D.2 ci k]? = some (mx_tr al v)
  | .inr ty => ∃ cell : Cell, H[a]? = some cell ∧ U.isArrayOf cell ty ∧ cell.vm ≠ .unknown ∧ q.2.length ≤ cell.slots.size ∧ cell.slots.size.toInt32 = Int32.ofNat q.2.length ∧ ∀ (j : Nat) (v : Value), q.2[j]? = some v → cell.slots[j]? = some (mx_tr al v)
def mx_R (D : va_G) (dA : FieldType → ClassId) (al : mx_A) (b : Nat) (H0 : Heap) (olds h : mx_H) (H : Heap) : Prop :=
  olds.length ≤ h.length ∧ H.size = b + (h.length - olds.length) ∧ (∀ q : Nat, q < b → H[q]? = H0[q]?) ∧ (∀ i : Nat, i < olds.length → h[i]? = olds[i]?) ∧ ∀ (i : Nat) (q : mx_C), olds.length ≤ i → h[i]? = some q → mx_new D dA al q (al.1 i) H
theorem mx_new.kept {D : va_G} {dA : FieldType → ClassId} {al : mx_A} {q : mx_C} {a : Nat} {H H1 : Heap} (h : mx_new D dA al q a H) (he : H1[a]? = H[a]?) : mx_new D dA al q a H1 := by
  obtain ⟨t, vs⟩ := q
  cases t with
  | inl ci =>
    obtain ⟨r, h1, h2, h3⟩ := h
    exact ⟨r, h1, h2, h3.kept he⟩
  | inr ty => exact ⟨h.1, he.trans h.2⟩
theorem mx_R.put {D : va_G} {dA : FieldType → ClassId} {al : mx_A} {b : Nat} {H0 : Heap} {olds h : mx_H} {H H1 : Heap} (hal : mx_al al b olds.length) (hR : mx_R D dA al b H0 olds h H) {a : Nat} {q q' : mx_C} (ha : h[a]? = some q) (hn : olds.length ≤ a)
    (e1 : mx_new D dA al q' (al.1 a) H1) (e2 : H1.size = H.size) (e3 : ∀ x : Nat, x ≠ al.1 a → H1[x]? = H[x]?) : mx_R D dA al b H0 olds (h.set a q') H1 := by
  obtain ⟨r1, r2, r3, r4, r5⟩ := hR
  have hlt : a < h.length := (List.getElem?_eq_some_iff.mp ha).1
  refine ⟨by rw [List.length_set]; exact r1, by rw [List.length_set, e2]; exact r2, fun x hx => ?_, fun i hi => ?_, fun i x hi hx => ?_⟩
  · rw [e3 x (by rw [hal.2.1 a hn]; omega)]
    exact r3 x hx
  · rw [List.getElem?_set_ne (by omega)]
    exact r4 i hi
  · by_cases e : i = a
    · subst e
      rw [List.getElem?_set_self hlt] at hx
      cases hx
      exact e1
    · rw [List.getElem?_set_ne (Ne.symm e)] at hx
      exact (r5 i x hi hx).kept (e3 _ (fun z => e (by rw [hal.2.1 _ hi, hal.2.1 _ hn] at z; omega)))
theorem mx_R.push {D : va_G} {dA : FieldType → ClassId} {al : mx_A} {b : Nat} {H0 : Heap} {olds h : mx_H} {H H1 : Heap} (hal : mx_al al b olds.length) (hR : mx_R D dA al b H0 olds h H) {q : mx_C}
    (e1 : mx_new D dA al q H.size H1) (e2 : H1.size = H.size + 1) (e3 : ∀ x : Nat, x < H.size → H1[x]? = H[x]?) : mx_R D dA al b H0 olds (h ++ [q]) H1 ∧ al.1 h.length = H.size := by
  obtain ⟨r1, r2, r3, r4, r5⟩ := hR
  have hz : al.1 h.length = H.size := by rw [hal.2.1 _ r1, r2]
  refine ⟨⟨by simp; omega, by simp; omega, fun x hx => ?_, fun i hi => ?_, fun i x hi hx => ?_⟩, hz⟩
  · rw [e3 x (by omega)]
    exact r3 x hx
  · rw [List.getElem?_append_left (by omega)]
    exact r4 i hi
  · by_cases e : i < h.length
    · rw [List.getElem?_append_left e] at hx
      refine (r5 i x hi hx).kept (e3 _ ?_)
      rw [hal.2.1 i hi, r2]
      omega
    · have hl : i < (h ++ [q]).length := (List.getElem?_eq_some_iff.mp hx).1
      simp at hl
      have hi' : i = h.length := by omega
      subst hi'
      rw [List.getElem?_append_right (Nat.le_refl _), Nat.sub_self] at hx
      cases hx
      rw [hz]
      exact e1
