section MXN
variable {p : Program} {l : Launch} {e : Env} {R : Room} {s : State} {m : MethodId} {args : Array Value} {below : List Frame} {meth : Method} {c : Code} {H : Heap} {locs : List Loc} {cells slots : Nat} {Q : State → Prop}
variable {cc : ByteArray} {pc : Nat} {ls : Array Slot} {rest : List Value} {D : va_G} {dA : FieldType → ClassId} {al : mx_A} {b : Nat} {H0 : Heap} {olds h : mx_H}
theorem mt_own_o (mi : Nat) (h : mt_o mi = 999 → False) : mt_ow.getD (mt_o mi) "" = mt_own mi := by
  cases hq : mt_q mi with
  | some q => exact (mt_own_ow hq).2
  | none => exact absurd (by unfold mt_o; rw [hq]) h
theorem mx_cell_arrV (al : mx_A) (vs : List Value) (cA : ClassId) : ({ cls := cA, slots := (vs.map (mx_tr al)).toArray, vm := .none } : Cell) = arrV cA vs.length (fun j => mx_tr al (vs.getD j .null)) := by
  unfold arrV
  simp only [Cell.mk.injEq, true_and, and_true]
  apply Array.ext
  · simp
  · intro i h1 h2
    simp at h1
    simp [h1]
theorem mx_w_copy (hexec : p.tables.exec = Jvm.exec) (hb : c.code = cc) (hml : c.maxLocals = ls.size) {own : String} {index : Nat} (hown : s.vm.findClass own = some m.cls) (hlink : (Cond.methodLink own index arraycopyName).before args s = true) (hnat : (Cond.native arraycopyName).before args s = true) (hstat : (Cond.static arraycopyName).before args s = true) (hini : (Cond.initialized "java/lang/System").before args s = true)
    (hal : mx_al al b olds.length) (hK : mx_K D dA al b H0 olds s) (hR : mx_R D dA al b H0 olds h H) {a a0 : Nat} {ty : FieldType} {vs ws : List Value} (ha0 : h[a0]? = some (.inr ty, vs)) (ha : h[a]? = some (.inr ty, ws)) (hna : olds.length ≤ a)
    {sp dp n : Int32} (h1 : ¬ sp < 0) (h2 : ¬ dp < 0) (h3 : ¬ n < 0) (h4 : sp.toNatClampNeg + n.toNatClampNeg ≤ vs.length) (h5 : dp.toNatClampNeg + n.toNatClampNeg ≤ ws.length) (hel : ((vs.drop sp.toNatClampNeg).take n.toNatClampNeg).all (mx_cel h ty) = true)
    (hframes : 1 ≤ R.frames) (hlocals : ((rest.map (mx_tr al)).map fun v => v.category).sum + (nativeFrameWords "java/lang/System" "arraycopy" 5 + 11) ≤ R.locals) (hdg : decode cc pc = .ok (.invokestatic index, 3))
    (kk : ∀ (H1 : Heap) (locs1 : List Loc), mx_R D dA al b H0 olds (h.set a (.inr ty, mx_cpy vs ws sp.toNatClampNeg dp.toNatClampNeg n.toNatClampNeg)) H1 → (∀ q ∈ locs1, q ∈ locs ∨ q.base = al.1 a) → W p l e R s m args below meth c H1 locs1 cells slots Q (F0 m (pc + 3) ls (rest.map (mx_tr al)))) :
    W p l e R s m args below meth c H locs cells slots Q (F0 m pc ls ((Value.int n :: .int dp :: .ref a :: .int sp :: .ref a0 :: rest).map (mx_tr al))) := by
  have nn : ∀ z : Int32, ¬ z < 0 → z.toInt = (z.toNatClampNeg : Int) := by
    intro z hz
    have hz0 : (0 : Int) ≤ z.toInt := by
      have := Int32.not_lt.mp hz
      simpa using Int32.le_iff_toInt_le.mp this
    show z.toInt = ((z.toInt.toNat : Nat) : Int)
    omega
  intro T hT X
  obtain ⟨hin0, g1⟩ := hR.2.2.2.2 a _ hna ha
  obtain ⟨cs, s1, s2, s3, s4, s5, s6⟩ := mx_arr hal hK hR ha0
  obtain ⟨-, k1, hk1, cm1, hkk1⟩ := (hK.2.1 _ hin0).1 0 (fun _ => .null)
  obtain ⟨s7, k0, hk0, cm0, hkk0⟩ := s2
  have hcat : ∀ i, i < n.toNatClampNeg → ∃ v, vs[sp.toNatClampNeg + i]? = some v ∧ cs.slots.getD (sp.toNatClampNeg + i) .null = mx_tr al v ∧ mx_cel h ty v = true := by
    intro i hi
    have hl : sp.toNatClampNeg + i < vs.length := by omega
    refine ⟨vs[sp.toNatClampNeg + i], List.getElem?_eq_getElem hl, ?_, ?_⟩
    · rw [Array.getD_eq_getD_getElem?, s6 _ _ (List.getElem?_eq_getElem hl)]
      rfl
    · rw [List.all_eq_true] at hel
      refine hel _ ?_
      rw [List.mem_iff_getElem?]
      exact ⟨i, by rw [List.getElem?_take, if_pos hi, List.getElem?_drop, List.getElem?_eq_getElem hl]⟩
  obtain ⟨vm', X', step⟩ := X.arraycopy hexec hown hlink hnat hstat hini (src := al.1 a0) (dst := al.1 a) (cs := cs) (cd := { cls := dA ty, slots := (ws.map (mx_tr al)).toArray, vm := .none }) (srcPos := sp) (destPos := dp) (n := n) (by rw [hT]; exact s1) (by rw [hT]; exact g1)
    s7 (fun _ h => by cases h) s3 (fun h => by cases h) hk0 hk1 hkk0 hkk1 (by simp) h1 h2 h3
    (by rw [nn sp h1, nn n h3]; omega)
    (by rw [nn dp h2, nn n h3]; simp; omega)
    (fun vm₁ hal1 i hi => by
      obtain ⟨v, v1, v2, v3⟩ := hcat i hi
      rw [v2]
      unfold mx_cel at v3
      split at v3
      · rename_i x
        simp only [Bool.and_eq_true] at v3
        exact ⟨v3.2, trivial⟩
      · simp only [Bool.and_eq_true] at v3
        exact ⟨v3.2, trivial⟩
      · rename_i y
        split at v3
        · rename_i C ci fs hy
          obtain ⟨hcl, has⟩ := mt_as_ok hK v3
          obtain ⟨r, cellV, q1, q2, q3, q4, q5, q6, -⟩ := mx_obj hal hK hR hy hcl
          obtain ⟨kA, comp, r1, r2, r3, -⟩ := (hK.2.1 _ hin0).2
          cases hk1.symm.trans r1
          cases hkk1.symm.trans r2
          obtain ⟨kE, hkE, -⟩ := Vm.findClass_spec r3
          obtain ⟨-, -, kC, hkC, -⟩ := hK.1 ci _ q1
          obtain ⟨kC', hkC', -⟩ := hal1.2.2 _ _ hkC
          obtain ⟨kE', hkE', -⟩ := hal1.2.2 _ _ hkE
          refine ⟨rfl, cellV, (show T.heap[al.1 y]? = some cellV by rw [hT]; exact q3), (fun q hq => by rw [hq] at q4; cases q4), ⟨kC', by rw [q6]; exact hkC'⟩, ⟨kE', hkE'⟩, ?_⟩
          show vm₁.assignable _ _ = true
          rw [hal1.assignable, q6]
          exact has _ r3
        · cases v3
      · cases v3)
    (g := F0 m pc ls ((Value.int n :: .int dp :: .ref a :: .int sp :: .ref a0 :: rest).map (mx_tr al))) rfl (by rw [hml]) (rest := rest.map (mx_tr al)) rfl (by rw [hb]; exact hdg) hframes (by show 2 * 0 + _ + _ ≤ _; omega)
  have e1 : copied cs { cls := dA ty, slots := (ws.map (mx_tr al)).toArray, vm := .none } sp dp n = { cls := dA ty, slots := ((mx_cpy vs ws sp.toNatClampNeg dp.toNatClampNeg n.toNatClampNeg).map (mx_tr al)).toArray, vm := .none } := by
    rw [mx_cell_arrV, mx_cell_arrV, mx_cpy_len]
    show Cell.storeRun _ _ _ = _
    rw [va_copiedX (mx_tr al) cs (dA ty) (fun k => vs.getD k .null) (fun k => ws.getD k .null) (n0 := vs.length) (fun j hj => by
      rw [s6 j _ (List.getElem?_eq_getElem hj)]
      simp [hj]) h4]
    unfold arrV
    simp only [Cell.mk.injEq, true_and, and_true]
    apply Array.ext
    · simp
    · intro i i1 i2
      simp at i1
      simp [mx_cpy, i1]
  rw [e1] at X' step
  have hl : al.1 a < H.size := (Array.getElem?_eq_some_iff.mp g1).1
  have oq : ∀ q : Nat, q ≠ al.1 a → (H.setIfInBounds (al.1 a) ({ cls := dA ty, slots := ((mx_cpy vs ws sp.toNatClampNeg dp.toNatClampNeg n.toNatClampNeg).map (mx_tr al)).toArray, vm := .none } : Cell))[q]? = H[q]? := fun q hq => by simp [Array.getElem?_setIfInBounds, Ne.symm hq]
  obtain ⟨t, a1, b1⟩ := kk _ _ (hR.put hal ha hna (q' := (.inr ty, mx_cpy vs ws sp.toNatClampNeg dp.toNatClampNeg n.toNatClampNeg)) ⟨hin0, (show (H.setIfInBounds (al.1 a) _)[al.1 a]? = some _ by simp [Array.getElem?_setIfInBounds, hl])⟩ (by simp) oq) (fun q hq => by
      rcases List.mem_append.mp hq with h | h
      · exact Or.inl h
      · obtain ⟨z, -, hz⟩ := List.mem_map.mp h
        rw [← hz]
        exact Or.inr rfl) _ (by rw [← hT]; rfl) X'
  exact ⟨t, step t a1, b1⟩
end MXN
