/-! The world at the law's entry, as the small machine has it. -/
def mx_scr (L : Nat) (xs : Nat → Int32) : mx_C := (.inr .int, (List.range L).map fun j => .int (xs j))
def mx_olds (L : Nat) (xs : Nat → Int32) : mx_H := mx_scr L xs :: mt_old
theorem mx_olds_len (L : Nat) (xs : Nat → Int32) : (mx_olds L xs).length = mt_nO := rfl
theorem mx_selpriv {y : MethodName} {s : State} {args : Array Value} {C : String} {n : Nat} (hins : (Cond.instantiable C n).before args s = true) (hpriv : (Cond.privateMethod y).before args s = true) (hinst : (Cond.instanceMethod y).before args s = true) (hsame : (Cond.sameMethod y.cls y.cls y.name y.desc).before args s = true) : (Cond.selects C y y).before args s = true := by
  obtain ⟨c, k, hc, hk, -, hniab, -, -⟩ := Cond.instantiable_spec hins
  obtain ⟨mk, methM, hnamed, hmethM, -, -⟩ := Cond.instanceMethod_spec hinst
  obtain ⟨cn, ck, r1, hcn, hck, hni, hf, hn1⟩ := Cond.sameMethod_found hsame
  cases hnamed.symm.trans hn1
  have hsel : selectMethod {} s.vm c mk = .method mk := selectMethod_private hmethM (Cond.privateMethod_at hpriv mk methM hnamed hmethM)
  have hcls : mk.cls = cn := Option.some.inj ((findClass_of_methodNamed hnamed).symm.trans hcn)
  simp only [Cond.before, Cond.holds, Cond.value, hc, hf, hnamed, hsel, hcls, hck]
  simp; exact hni
theorem mx_hts {s : State} {args : Array Value} (hts : ∀ w ∈ lw_tbl, w.before args s = true) : ∀ w ∈ mt_tbl, w.before args s = true := by
  have hlw : ∀ w ∈ mt_tbl, (∃ y ∈ mt_xs, w = Cond.selects "java/lang/StringBuilder" y y) ∨ w ∈ lw_tbl := by
    intro w hw
    unfold mt_tbl at hw
    rcases List.mem_append.mp hw with h | h
    · obtain ⟨y, hy, rfl⟩ := List.mem_map.mp h
      exact Or.inl ⟨y, hy, rfl⟩
    · exact Or.inr h
  have hgood : ∀ w ∈ mt_tbl, (∀ y ∈ mt_xs, w ≠ Cond.selects "java/lang/StringBuilder" y y) → w.before args s = true := by
    intro w hw hne
    rcases hlw w hw with ⟨y, hy, rfl⟩ | h
    · exact absurd rfl (hne y hy)
    · exact hts w h
  intro w hw
  rcases hlw w hw with ⟨y, hy, rfl⟩ | h
  · have hx : ∀ w ∈ ([.privateMethod y, .instanceMethod y, .sameMethod y.cls y.cls y.name y.desc] : List Cond), w.before args s = true := by
      intro w hw
      refine hgood w (mt_xsw w (List.mem_flatMap.mpr ⟨y, hy, hw⟩)) (fun z _ e => ?_)
      subst e
      simp at hw
    exact mx_selpriv (hgood _ (mt_xsi _ List.mem_cons_self) (fun z _ e => by cases e)) (hx _ List.mem_cons_self) (hx _ (List.mem_cons_of_mem _ List.mem_cons_self)) (hx _ (List.mem_cons_of_mem _ (List.mem_cons_of_mem _ List.mem_cons_self)))
  · exact hts w h
/-- a String constant by its premises -/
theorem mx_strOf {args : Array Value} {s : State} {tm : Term} {byt : List Int32} {A : Nat → Prop} (hN : byt.length < 2 ^ 31) (hex : (Cond.exactly tm "java/lang/String").before args s = true) (hco : (Cond.eq (.field tm "java/lang/String" "coder" "B") (.int 0)).before args s = true)
    (har : (Cond.arrayOf (.field tm "java/lang/String" "value" "[B") .byte).before args s = true) (hle : (Cond.eq (.length (.field tm "java/lang/String" "value" "[B")) (.int (Int32.ofNat byt.length))).before args s = true)
    (hel : ∀ j : Nat, j < byt.length → (Cond.eq (.elem (.field tm "java/lang/String" "value" "[B") (.int (Int32.ofNat j))) (.int (byt.getD j 0))).before args s = true) (hA : ∀ a : Nat, a < s.heap.size → ¬ A a) :
    ∃ q : Nat × Nat, tm.eval args s none [] s = some (.ref q.1) ∧ va_O "java/lang/String" q.1 A s s.heap ∧ va_OF "java/lang/String" "coder" "B" (.int 0) q.1 A s s.heap ∧ va_OF "java/lang/String" "value" "[B" (.ref q.2) q.1 A s s.heap ∧ va_T .byte q.2 byt.length (fun j => .int (byt.getD j 0)) A s s.heap := by
  obtain ⟨a, c, cA, kA, q1, q2, q3, q4, q5, q6, -⟩ := Cond.exactly_spec (args := args) (first := s) (o := none) (s := s) (idx := []) (t := tm) (cls := "java/lang/String") hex
  obtain ⟨t, ht, hT⟩ := va_Tof (f := fun j => .int (byt.getD j 0)) (A := A) hN har (va_eqt hle) (fun j hj => va_eqt (hel j hj)) hA
  exact ⟨(a, t), q1, ⟨cA, q3, q5, by rw [q6]; exact q2, hA a (Array.getElem?_eq_some_iff.mp q3).1⟩, vk_OFof q1 (va_eqt hco) hA, vk_OFof q1 ht hA, hT⟩
theorem mx_oldT {D : va_G} {al : mx_A} {ty : FieldType} {t : Nat} {vs : List Int32} {A : Nat → Prop} {U : State} {H : Heap} (h : va_T ty t vs.length (fun j => .int (vs.getD j 0)) A U H) : mx_old D al (.inr ty, vs.map Value.int) t U H := by
  obtain ⟨cell, h1, h2, h3, h4, h5, h6, -⟩ := h
  refine ⟨cell, h1, h2, h3, by simpa using h4, by simpa using h5, fun j v hj => ?_⟩
  simp only [List.getElem?_map, Option.map_eq_some_iff] at hj
  obtain ⟨x, hx, rfl⟩ := hj
  have hl := (List.getElem?_eq_some_iff.mp hx).1
  rw [h6 j hl]
  dsimp only
  rw [List.getD_eq_getElem?_getD, hx]
  rfl
theorem mx_T_eq {ty : FieldType} {t : Nat} {vs ws : List Int32} {A B : Nat → Prop} {U : State} {H : Heap} (h : va_T ty t vs.length (fun j => .int (vs.getD j 0)) A U H) (h' : va_T ty t ws.length (fun j => .int (ws.getD j 0)) B U H) (hv : vs.length < 2 ^ 31) (hw : ws.length < 2 ^ 31) : vs = ws := by
  obtain ⟨cell, h1, h2, h3, h4, h5, h6, -⟩ := h
  obtain ⟨cell', g1, g2, g3, g4, g5, g6, -⟩ := h'
  cases h1.symm.trans g1
  have hl : vs.length = ws.length := (nI_eq hv hw).mp (h5.symm.trans g5)
  apply List.ext_getElem hl
  intro i i1 i2
  have e := (h6 i i1).symm.trans (g6 i i2)
  simp only [Option.some.injEq, Value.int.injEq] at e
  rw [List.getD_eq_getElem?_getD, List.getD_eq_getElem?_getD, List.getElem?_eq_getElem i1, List.getElem?_eq_getElem i2] at e
  exact e
theorem mx_tx_inj : ∀ i j : Nat, i < mt_nT → j < mt_nT → mt_tx.getD i [] = mt_tx.getD j [] → i = j := by
  have key : ∀ i ∈ List.range mt_nT, ∀ j ∈ List.range mt_nT, mt_tx.getD i [] = mt_tx.getD j [] → i = j := by decide +kernel
  exact fun i j hi hj => key i (List.mem_range.mpr hi) j (List.mem_range.mpr hj)
theorem mx_tx_len : ∀ i : Nat, i < mt_nT → (mt_tx.getD i []).length < 2 ^ 31 := by
  have key : ∀ i ∈ List.range mt_nT, (mt_tx.getD i []).length < 2 ^ 31 := by decide +kernel
  exact fun i hi => key i (List.mem_range.mpr hi)
/-- the places -/
def mx_al0 (b z : Nat) (tr : Nat → Nat) (ad : Nat → Nat × Nat) (i : Nat) : Nat :=
  if mt_nO ≤ i then z + (i - mt_nO) else if i = 0 then b else if i = 1 then (ad 99).1 else if i < 7 then tr (i - 2) else if i % 2 = 1 then (ad ((i - 7) / 2)).1 else (ad ((i - 8) / 2)).2
theorem mt_old_str : ∀ k : Nat, k < mt_nT → mt_old[6 + 2 * k]? = some (.inl 5, [.ref (8 + 2 * k), .int 0, .retAddr 1, .retAddr 1]) ∧ mt_old[7 + 2 * k]? = some (.inr .byte, (mt_tx.getD k []).map Value.int) := by
  have key : ∀ k ∈ List.range mt_nT, mt_old[6 + 2 * k]? = some (.inl 5, [.ref (8 + 2 * k), .int 0, .retAddr 1, .retAddr 1]) ∧ mt_old[7 + 2 * k]? = some (.inr .byte, (mt_tx.getD k []).map Value.int) := by decide +kernel
  exact fun k hk => key k (List.mem_range.mpr hk)
theorem mt_old_arr : mt_old[1]? = some (.inr (mt_ar.getD 0 (("", "", ""), .int, [])).2.1, (mt_ar.getD 0 (("", "", ""), .int, [])).2.2.map Value.int) ∧ mt_old[2]? = some (.inr (mt_ar.getD 1 (("", "", ""), .int, [])).2.1, (mt_ar.getD 1 (("", "", ""), .int, [])).2.2.map Value.int) ∧ mt_old[3]? = some (.inr (mt_ar.getD 2 (("", "", ""), .int, [])).2.1, (mt_ar.getD 2 (("", "", ""), .int, [])).2.2.map Value.int) ∧ mt_old[4]? = some (.inr (mt_ar.getD 3 (("", "", ""), .int, [])).2.1, (mt_ar.getD 3 (("", "", ""), .int, [])).2.2.map Value.int) ∧ mt_old[5]? = some (.inr (mt_ar.getD 4 (("", "", ""), .int, [])).2.1, (mt_ar.getD 4 (("", "", ""), .int, [])).2.2.map Value.int) := by decide +kernel
