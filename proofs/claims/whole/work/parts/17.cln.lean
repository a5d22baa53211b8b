section MXN2
variable {p : Program} {l : Launch} {e : Env} {R : Room} {s : State} {m : MethodId} {args : Array Value} {below : List Frame} {meth : Method} {c : Code} {H : Heap} {locs : List Loc} {cells slots : Nat} {Q : State → Prop}
variable {cc : ByteArray} {pc : Nat} {ls : Array Slot} {rest : List Value} {D : va_G} {dA : FieldType → ClassId} {al : mx_A} {b : Nat} {H0 : Heap} {olds h : mx_H}
theorem mt_clw : ∀ w ∈ ([.methodLink "java/util/Arrays" 310 ⟨"[B", "clone", "()Ljava/lang/Object;"⟩, .sameMethod "[B" "java/lang/Object" "clone" "()Ljava/lang/Object;", .native ⟨"java/lang/Object", "clone", "()Ljava/lang/Object;"⟩, .instanceMethod ⟨"java/lang/Object", "clone", "()Ljava/lang/Object;"⟩, .selects "[B" ⟨"[B", "clone", "()Ljava/lang/Object;"⟩ ⟨"java/lang/Object", "clone", "()Ljava/lang/Object;"⟩, .castable "[B" "java/lang/Cloneable", .classLink "java/util/Arrays" 311 "[B"] : List Cond), w ∈ mt_tbl := mx_in [517, 518, 519, 520, 521, 522, 523] (by decide +kernel)
theorem mx_w_clone (hexec : p.tables.exec = Jvm.exec) (hb : c.code = cc) (hml : c.maxLocals = ls.size) {own : String} {index : Nat} (hown : s.vm.findClass own = some m.cls) (hlink : (Cond.methodLink own index ⟨"[B", "clone", "()Ljava/lang/Object;"⟩).before args s = true) (hsame : (Cond.sameMethod "[B" "java/lang/Object" "clone" "()Ljava/lang/Object;").before args s = true)
    (hnat : (Cond.native ⟨"java/lang/Object", "clone", "()Ljava/lang/Object;"⟩).before args s = true) (hinst : (Cond.instanceMethod ⟨"java/lang/Object", "clone", "()Ljava/lang/Object;"⟩).before args s = true)
    (hsel : (Cond.selects "[B" ⟨"[B", "clone", "()Ljava/lang/Object;"⟩ ⟨"java/lang/Object", "clone", "()Ljava/lang/Object;"⟩).before args s = true) (hcl : va_Nw (.castable "[B" "java/lang/Cloneable") s)
    (hal : mx_al al b olds.length) (hK : mx_K D dA al b H0 olds s) (hR : mx_R D dA al b H0 olds h H) {a : Nat} {vs : List Value} (ha : h[a]? = some (.inr .byte, vs)) (hna : olds.length ≤ a) (hfit : vs.all (fits .byte) = true)
    (hframes : 1 ≤ R.frames) (hlocals : ((rest.map (mx_tr al)).map fun v => v.category).sum + 14 ≤ R.locals) (hcells : cells + 1 ≤ R.cells) (hslots : slots + vs.length ≤ R.slots) (hdg : decode cc pc = .ok (.invokevirtual index, 3))
    (kk : ∀ H1 : Heap, mx_R D dA al b H0 olds (h ++ [(.inr .byte, vs)]) H1 → W p l e R s m args below meth c H1 locs (cells + 1) (slots + vs.length) Q (F0 m (pc + 3) ls ((Value.ref h.length :: rest).map (mx_tr al)))) :
    W p l e R s m args below meth c H locs cells slots Q (F0 m pc ls ((Value.ref a :: rest).map (mx_tr al))) := by
  obtain ⟨hin0, g1⟩ := hR.2.2.2.2 a _ hna ha
  have hnm := va_nm_byte (hK.2.1 _ hin0).2
  obtain ⟨c0, t0', f1, f2, f3⟩ := Cond.castable_spec (va_Nw.use (A := args) rfl hcl)
  cases hnm.symm.trans f1
  intro T hT X
  have hcellT : T.heap[al.1 a]? = some ({ cls := dA .byte, slots := (vs.map (mx_tr al)).toArray, vm := .none } : Cell) := by rw [hT]; exact g1
  obtain ⟨-, kA, hkA, comp, hkind⟩ := State.isArrayOf_alike X.warmed.alike ((hK.2.1 _ hin0).1 0 (fun _ => .null))
  obtain ⟨-, kS, hkS, compS, hkindS⟩ := (hK.2.1 _ hin0).1 0 (fun _ => .null)
  obtain ⟨vm', X', st⟩ := X.cloneArray hexec hown hlink hsame hnat hinst hsel (a := al.1 a) (cell := { cls := dA .byte, slots := (vs.map (mx_tr al)).toArray, vm := .none }) hcellT (fun k h => by cases h) (fun h => by cases h) hnm f2 f3
    (fun i v hv => by
      have hk' : T.vm.classes[dA .byte]? = some kA := hkA
      have hv2 : fits .byte v = true := by
        simp only [List.getElem?_toArray, List.getElem?_map] at hv
        obtain ⟨v0, e0, e1⟩ := Option.map_eq_some_iff.mp hv
        rw [← e1]
        exact mx_tr_fits al _ _ (List.all_eq_true.mp hfit v0 (List.mem_of_getElem? e0))
      simpa [State.fitsSlot, State.slotType?, hk', hkind] using hv2)
    (g := F0 m pc ls ((Value.ref a :: rest).map (mx_tr al))) rfl (by rw [hml]) rfl (by rw [hb]; exact hdg) hframes (by show 2 * 0 + _ + 14 ≤ _; omega) hcells (by simpa using hslots) (hloader := Vm.clonesLoader_of_array hkS hkindS)
  obtain ⟨h1, h2⟩ := hR.push hal (H1 := H.push ({ cls := dA .byte, slots := (vs.map (mx_tr al)).toArray, vm := .none } : Cell)) (q := (.inr .byte, vs)) ⟨hin0, by rw [Array.getElem?_push_size]⟩ (by rw [Array.size_push]) (fun q hq => by rw [Array.getElem?_push, if_neg (Nat.ne_of_lt hq)])
  have hsz : slots + (vs.map (mx_tr al)).toArray.size = slots + vs.length := by simp
  obtain ⟨t, b1, b2⟩ := kk _ h1 ((T.setVm vm').pushCell ({ cls := dA .byte, slots := (vs.map (mx_tr al)).toArray, vm := .none } : Cell)) (by rw [← hT]; rfl) (by rw [← hsz]; exact X')
  refine ⟨t, st t ?_, b2⟩
  have e5 : (Value.ref h.length :: rest).map (mx_tr al) = .ref T.heap.size :: rest.map (mx_tr al) := by
    rw [List.map_cons, hT]
    show Value.ref (al.1 h.length) :: _ = _
    rw [h2]
  rw [e5] at b1
  exact b1
theorem mx_w_castB (hexec : p.tables.exec = Jvm.exec) (hb : c.code = cc) {own : String} {index : Nat} (hown : s.vm.findClass own = some m.cls) (hlink : (Cond.classLink own index "[B").before args s = true)
    (hK : mx_K D dA al b H0 olds s) (hR : mx_R D dA al b H0 olds h H) {a : Nat} {vs : List Value} (ha : h[a]? = some (.inr .byte, vs)) (hna : olds.length ≤ a) (hdg : decode cc pc = .ok (.checkcast index, 3))
    (k : W p l e R s m args below meth c H locs cells slots Q (F0 m (pc + 3) ls (.ref (al.1 a) :: rest))) : W p l e R s m args below meth c H locs cells slots Q (F0 m pc ls (.ref (al.1 a) :: rest)) := by
  obtain ⟨hin0, g1⟩ := hR.2.2.2.2 a _ hna ha
  have hnm := va_nm_byte (hK.2.1 _ hin0).2
  intro T hT X
  obtain ⟨vm', X', st⟩ := X.checkcastYes hexec hown hlink (by rw [hT]; exact g1) rfl hnm (va_asg _ _) (g := F0 m pc ls (.ref (al.1 a) :: rest)) rfl rfl (by rw [hb]; exact hdg)
  obtain ⟨t, a1, b1⟩ := k (T.setVm vm') hT X'
  exact ⟨t, st t a1, b1⟩
end MXN2
