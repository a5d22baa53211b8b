section MXI
variable {p : Program} {l : Launch} {e : Env} {R : Room} {s : State} {m : MethodId} {args : Array Value} {below : List Frame} {meth : Method} {c : Code} {H : Heap} {locs : List Loc} {cells slots : Nat} {Q : State → Prop}
variable {cc : ByteArray} {pc : Nat} {ls : Array Slot} {rest : List Value} {D : va_G} {dA : FieldType → ClassId} {al : mx_A} {b : Nat} {H0 : Heap} {olds h : mx_H}
/-- what the tables say, at a state -/
def mx_K (D : va_G) (dA : FieldType → ClassId) (al : mx_A) (b : Nat) (H0 : Heap) (olds : mx_H) (U : State) : Prop :=
  (∀ (c : Nat) (q : vw_C), mt_cl[c]? = some q → u_Kn U q.1 q.2.1 q.2.2 (D.1 c) (D.2 c)) ∧ (∀ ty ∈ mt_ty, ArrOfT U (dA ty) ty ∧ va_RA U (dA ty) ty) ∧ (∀ (i : Nat) (q : mx_C), olds[i]? = some q → mx_old D al q (al.1 i) U H0) ∧
  (∀ q ∈ mt_st, va_Z q.1 q.2.1 q.2.2.1 (mx_tr al q.2.2.2) (fun x => b ≤ x) U H0) ∧ (∀ q ∈ mt_Ks, vk_R q.1 q.2.1 q.2.2.1 (al.1 q.2.2.2) U) ∧ (∀ w ∈ mt_Nw, va_Nw w U) ∧ va_AO "java/lang/Object" U ∧ H0.size = b ∧ va_Mi "[Ljava/lang/Object;" (al.1 1) U ∧ va_Dc U
theorem mx_old.moved {q : mx_C} {a : Nat} {u U : State} (hvm : u.vm.Alike U.vm) (h : mx_old D al q a u H0) : mx_old D al q a U H0 := by
  obtain ⟨t, vs⟩ := q
  cases t with
  | inl ci => exact h
  | inr ty =>
    obtain ⟨cell, h1, h2, h3⟩ := h
    exact ⟨cell, h1, State.isArrayOf_alike hvm h2, h3⟩
theorem mx_nest_warm {w : Cond} {s U : State} (hw : mx_nest w = true) (hW : s.WarmedH U.vm) (h : va_Nw w s) : va_Nw w U := by
  cases w <;> first | exact va_Nw.warmF hW h | exact va_Nw.warmM hW h | exact va_Nw.warmC hW h | (simp [mx_nest] at hw)
theorem mx_K.moved {u U : State} (hW : u.WarmedH U.vm) (h : mx_K D dA al b H0 olds u) : mx_K D dA al b H0 olds U :=
  ⟨fun c q hq => u_Kn_moved hW.alike (h.1 c q hq), fun ty ht => ⟨arrOfT_moved hW.alike (h.2.1 ty ht).1, (h.2.1 ty ht).2.moved hW.alike⟩, fun i q hq => (h.2.2.1 i q hq).moved hW.alike, fun q hq => (h.2.2.2.1 q hq).moved hW.alike, fun q hq => (h.2.2.2.2.1 q hq).warm hW,
   fun w hw => mx_nest_warm (List.mem_filter.mp hw).2 hW (h.2.2.2.2.2.1 w hw), h.2.2.2.2.2.2.1.moved hW.alike, h.2.2.2.2.2.2.2.1, h.2.2.2.2.2.2.2.2.1.moved hW.alike, h.2.2.2.2.2.2.2.2.2.moved hW.alike⟩
theorem mx_obj (hal : mx_al al b olds.length) (hK : mx_K D dA al b H0 olds s) (hR : mx_R D dA al b H0 olds h H) {a ci : Nat} {fs : List Value} (ha : h[a]? = some (.inl ci, fs)) (hcl : ∃ r, mt_cl[ci]? = some r) :
    ∃ (r : vw_C) (cell : Cell), mt_cl[ci]? = some r ∧ fs.length = r.2.2 ∧ H[al.1 a]? = some cell ∧ cell.vm.isStatics = false ∧ cell.vm ≠ .unknown ∧ cell.cls = D.1 ci ∧ ∀ (k : Nat) (v : Value), fs[k]? = some v → mx_known v = true → cell.slots[D.2 ci k]? = some (mx_tr al v) := by
  obtain ⟨r1, r2, r3, r4, r5⟩ := hR
  by_cases ho : a < olds.length
  · rw [r4 a ho] at ha
    rcases hK.2.2.1 a _ ha with z | ⟨r, cell, h1, h2, h3, h4, h5, h6, h7⟩
    · obtain ⟨r, hr⟩ := hcl
      rw [hr] at z; cases z
    exact ⟨r, cell, h1, h2, by rw [r3 _ (by have := (Array.getElem?_eq_some_iff.mp h3).1; have := hK.2.2.2.2.2.2.2.1; omega)]; exact h3, h4, h5, h6, h7⟩
  · obtain ⟨r, h1, h2, cell, h3, h4, h5, h6⟩ := r5 a _ (by omega) ha
    refine ⟨r, cell, h1, h2, h3, (by rw [h5]; rfl), (by rw [h5]; exact fun z => by cases z), h4, fun k v hk _ => ?_⟩
    have hlt : k < fs.length := (List.getElem?_eq_some_iff.mp hk).1
    rw [h6 k (by rw [← h2]; exact hlt)]
    simp [hk]
theorem mx_arr (hal : mx_al al b olds.length) (hK : mx_K D dA al b H0 olds s) (hR : mx_R D dA al b H0 olds h H) {a : Nat} {ty : FieldType} {vs : List Value} (ha : h[a]? = some (.inr ty, vs)) :
    ∃ cell : Cell, H[al.1 a]? = some cell ∧ s.isArrayOf cell ty ∧ cell.vm ≠ .unknown ∧ vs.length ≤ cell.slots.size ∧ cell.slots.size.toInt32 = Int32.ofNat vs.length ∧ ∀ (j : Nat) (v : Value), vs[j]? = some v → cell.slots[j]? = some (mx_tr al v) := by
  obtain ⟨r1, r2, r3, r4, r5⟩ := hR
  by_cases ho : a < olds.length
  · rw [r4 a ho] at ha
    obtain ⟨cell, h3, h4⟩ := hK.2.2.1 a _ ha
    exact ⟨cell, by rw [r3 _ (by have := (Array.getElem?_eq_some_iff.mp h3).1; have := hK.2.2.2.2.2.2.2.1; omega)]; exact h3, h4⟩
  · obtain ⟨h1, h2⟩ := r5 a _ (by omega) ha
    refine ⟨_, h2, (hK.2.1 ty h1).1 0 (fun _ => .null), (fun z => by cases z), (by simp), (by simp), fun j v hj => ?_⟩
    simp [hj]
/-- the link to a field: the pool's entry, by its own name or a nest mate's -/
def mx_flk (s : State) (args : Array Value) (own : String) (idx : Nat) (f : String × String × String × Bool) : Prop :=
  ∃ ref : String, ((Cond.fieldLink own idx ref f.2.1 f.2.2.1).before args s = true ∨ ∃ host : String, (Cond.fieldLinkNest own idx ref f.2.1 f.2.2.1 host).before args s = true) ∧ ∀ x, s.fieldFound? f.1 f.2.1 f.2.2.1 = some x → s.fieldFound? ref f.2.1 f.2.2.1 = some x
theorem mx_w_get (hexec : p.tables.exec = Jvm.exec) (hb : c.code = cc) (hal : mx_al al b olds.length) (hK : mx_K D dA al b H0 olds s) (hR : mx_R D dA al b H0 olds h H) {own : String} {idx : Nat} (hown : s.vm.findClass own = some m.cls) (hts : ∀ w ∈ mt_Ts, w.before args s = true)
    {a ci k : Nat} {r : vw_C} {fs : List Value} {v : Value} (ha : h[a]? = some (.inl ci, fs)) (hc : mt_cl[ci]? = some r) (hin : ∀ w ∈ u_ws r.1 r.2.1 r.2.2, w ∈ mt_Ts) (hk : k < r.2.2) (hlk : mx_flk s args own idx (r.2.1 k)) (hv : fs[k]? = some v) (hkn : mx_known v = true)
    (hdg : decode cc pc = .ok (.getfield idx, 3)) (kk : W p l e R s m args below meth c H locs cells slots Q (F0 m (pc + 3) ls (mx_tr al v :: rest))) : W p l e R s m args below meth c H locs cells slots Q (F0 m pc ls (.ref (al.1 a) :: rest)) := by
  obtain ⟨r', cell, h1, h2, h3, h4, h5, h6, h7⟩ := mx_obj hal hK hR ha ⟨r, hc⟩
  cases h1.symm.trans hc
  obtain ⟨hS, hfc, kC, hkC, hkind⟩ := hK.1 ci _ hc
  obtain ⟨cf, kf, fi, f, hi, hsl⟩ := hS k hk
  have hst := (u_facts hfc hkC (u_lays hts hin hk) hi).1
  have hv' : cell.slots[f.slot]? = some (mx_tr al v) := by rw [hsl]; exact h7 k v hv hkn
  obtain ⟨ref, hl, hsame⟩ := hlk
  rcases hl with hl | ⟨host, hl⟩
  · exact W.getf hexec hb hown hl (hsame _ hi) hst h3 h5 hv' rfl rfl hdg kk
  · exact va_Wgetf hexec hb hown hl (hsame _ hi) hst h3 h5 hv' rfl rfl hdg kk
theorem mx_apart (hts : ∀ w ∈ mt_Ts, w.before args s = true) {r : vw_C} {ci : Nat} (hin : ∀ w ∈ u_ws r.1 r.2.1 r.2.2, w ∈ mt_Ts) (ty : Nat → FieldType) (hty : ∀ k, k < r.2.2 → parseFieldDescriptor (r.2.1 k).2.2.1 = some (ty k)) (hnm : ∀ a, a < r.2.2 → ∀ b, b < r.2.2 → a ≠ b → (r.2.1 a).2.1 ≠ (r.2.1 b).2.1) (hK : mx_K D dA al b H0 olds s) (hc : mt_cl[ci]? = some r) : ∀ x y, x < r.2.2 → y < r.2.2 → x ≠ y → (D.2 ci) x ≠ (D.2 ci) y := by
  intro x y hx hy hne
  obtain ⟨hS, -⟩ := hK.1 ci _ hc
  obtain ⟨_, _, _, fa, hia, ea⟩ := hS x hx
  obtain ⟨_, _, _, fb, hib, eb⟩ := hS y hy
  rw [← ea, ← eb]
  refine u_apart (u_lays hts hin hx) (u_lays hts hin hy) hia hib ?_
  rw [(State.fieldFound?_type hia (hty x hx)).1, (State.fieldFound?_type hib (hty y hy)).1]
  exact hnm x hx y hy hne
theorem mx_w_put (hexec : p.tables.exec = Jvm.exec) (hb : c.code = cc) (hal : mx_al al b olds.length) (hK : mx_K D dA al b H0 olds s) (hR : mx_R D dA al b H0 olds h H) {own : String} {idx : Nat} (hown : s.vm.findClass own = some m.cls) (hts : ∀ w ∈ mt_Ts, w.before args s = true)
    {a ci k : Nat} {r : vw_C} {fs : List Value} {v : Value} (ha : h[a]? = some (.inl ci, fs)) (hna : olds.length ≤ a) (hc : mt_cl[ci]? = some r) (hin : ∀ w ∈ u_ws r.1 r.2.1 r.2.2, w ∈ mt_Ts) (ty : Nat → FieldType) (hty : ∀ k, k < r.2.2 → parseFieldDescriptor (r.2.1 k).2.2.1 = some (ty k)) (hnm : ∀ a, a < r.2.2 → ∀ b, b < r.2.2 → a ≠ b → (r.2.1 a).2.1 ≠ (r.2.1 b).2.1)
    (hk : k < r.2.2) (hlk : mx_flk s args own idx (r.2.1 k)) (hfin : (r.2.1 k).2.2.2 = false ∨ ((r.2.1 k).2.2.2 = true ∧ meth.name = "<init>" ∧ (r.2.1 k).1 = own ∧ (Cond.fieldLink own idx own (r.2.1 k).2.1 (r.2.1 k).2.2.1).before args s = true)) (hn : narrow (ty k) v = v) (hfit : fits (ty k) v = true)
    (hdg : decode cc pc = .ok (.putfield idx, 3)) (kk : ∀ (H1 : Heap) (i : Nat), mx_R D dA al b H0 olds (h.set a (.inl ci, fs.set k v)) H1 → W p l e R s m args below meth c H1 (locs ++ [⟨al.1 a, i⟩]) cells slots Q (F0 m (pc + 3) ls rest)) :
    W p l e R s m args below meth c H locs cells slots Q (F0 m pc ls (mx_tr al v :: .ref (al.1 a) :: rest)) := by
  have hap := mx_apart hts hin ty hty hnm hK hc
  obtain ⟨r', h1, h2, cell, q1, q2, q3, q4⟩ := hR.2.2.2.2 a _ hna ha
  cases h1.symm.trans hc
  obtain ⟨hS, hfc, kC, hkC, hkind⟩ := hK.1 ci _ hc
  obtain ⟨cf, kf, fi, f, hi, hsl⟩ := hS k hk
  have hst := (u_facts hfc hkC (u_lays hts hin hk) hi).1
  have hn' := mx_tr_narrow al _ _ hn
  have hfit' := mx_tr_fits al _ _ hfit
  have hkl : k < fs.length := by rw [h2]; exact hk
  have hend : ∀ H' : Heap, H'[al.1 a]? = some (cell.setSlot (D.2 ci k) (mx_tr al v)) → mx_new D dA al (.inl ci, fs.set k v) (al.1 a) H' := by
    intro H' e1
    refine ⟨r, hc, by rw [List.length_set]; exact h2, t_OB.to (V := updV (fun k => mx_tr al (fs.getD k .null)) k (mx_tr al v)) ⟨_, e1, q2, q3, t_set q4 hap hk _⟩ (fun j _ => ?_)⟩
    by_cases hj : j = k
    · subst hj
      simp [updV, hkl]
    · simp [updV, hj, List.getElem?_set_ne (Ne.symm hj), List.getD_eq_getElem?_getD]
  rcases hfin with hfin | ⟨hfin, hinit, hdecl, hl0⟩
  · have hlay := hts _ (hin _ (u_in_lay hk))
    unfold u_lay at hlay
    rw [if_neg (by rw [hfin]; decide)] at hlay
    have h6 := u_store hfc hkC hkind hlay hi (hty k hk) hn' hfit'
    obtain ⟨ref, hl, hsame⟩ := hlk
    rcases hl with hl | ⟨host, hl⟩
    · refine W.putK hexec hb (f := f) ⟨hown, hl, ⟨_, _, _, hsame _ hi⟩, hst⟩ (by rw [q2]; exact h6) q1 q3 (by rw [hsl]; exact k2_hasslot (q4 k hk)) rfl rfl hdg fun H' e1 e2 e3 => ?_
      rw [hsl] at e1 ⊢
      exact kk H' _ (hR.put hal ha hna (hend H' e1) e2 e3)
    · refine va_WputK hexec hb hown hl (hsame _ hi) hst (by rw [q2]; exact h6) q1 q3 (by rw [hsl]; exact k2_hasslot (q4 k hk)) rfl rfl hdg fun H' e1 e2 e3 => ?_
      rw [hsl] at e1 ⊢
      exact kk H' _ (hR.put hal ha hna (hend H' e1) e2 e3)
  · have hlay := hts _ (hin _ (u_in_lay hk))
    unfold u_lay at hlay
    rw [if_pos hfin] at hlay
    have hcf : m.cls = cf := by
      obtain ⟨_, _, c', _, _, _, -, -, hf', -, -, -, hown2, -⟩ := Cond.laysFinal_spec hlay
      have e1 : c' = cf := by have := hi.symm.trans hf'; simp at this; exact this.1.symm
      rw [hdecl] at hown2
      rw [← e1]; exact Option.some.inj (hown.symm.trans hown2)
    have h6 := u_fits hfc hkC hkind (Or.inr hlay) hi (hty k hk) hn' hfit'
    refine W.putFinK hexec hb hown hl0 (by rw [← hdecl]; exact hi) hst hcf hinit (by rw [q2]; exact h6) q1 q3 (by rw [hsl]; exact k2_hasslot (q4 k hk)) rfl rfl hdg fun H' e1 e2 e3 => ?_
    rw [hsl] at e1 ⊢
    exact kk H' _ (hR.put hal ha hna (hend H' e1) e2 e3)
theorem mx_w_new (hexec : p.tables.exec = Jvm.exec) (hb : c.code = cc) (hal : mx_al al b olds.length) (hK : mx_K D dA al b H0 olds s) (hR : mx_R D dA al b H0 olds h H) {own : String} {idx : Nat} (hown : s.vm.findClass own = some m.cls) (hts : ∀ w ∈ mt_Ts, w.before args s = true)
    {ci : Nat} {r : vw_C} {fs : List Value} (hc : mt_cl[ci]? = some r) (hin : ∀ w ∈ u_ws r.1 r.2.1 r.2.2, w ∈ mt_Ts) (ty : Nat → FieldType) (hty : ∀ k, k < r.2.2 → parseFieldDescriptor (r.2.1 k).2.2.1 = some (ty k)) (hcl : Cond.classLink own idx r.1 ∈ mt_Ts) (hinst : Cond.instantiable r.1 r.2.2 ∈ mt_Ts) (hini : Cond.initialized r.1 ∈ mt_Ts)
    (hl : fs.length = r.2.2) (hfs : ∀ j, j < r.2.2 → defaultValue (ty j) = mx_tr al (fs.getD j .null)) (hcells : cells + 1 ≤ R.cells) (hslots : slots + r.2.2 ≤ R.slots) (hdg : decode cc pc = .ok (.new idx, 3))
    (kk : ∀ H1 : Heap, mx_R D dA al b H0 olds (h ++ [(.inl ci, fs)]) H1 → W p l e R s m args below meth c H1 locs (cells + 1) (slots + r.2.2) Q (F0 m (pc + 3) ls (.ref (al.1 h.length) :: rest))) :
    W p l e R s m args below meth c H locs cells slots Q (F0 m pc ls rest) := by
  have hKn := hK.1 ci _ hc
  refine W.newcK hexec hb hown (hts _ hcl) (hts _ hinst) (hts _ hini) rfl hdg hcells hslots hKn.2.1 rfl fun H1 kC hkC e1 z1 o1 => ?_
  obtain ⟨h1, h2⟩ := hR.push hal (q := (.inl ci, fs)) ⟨r, hc, hl, (u_born ty hts hin hKn hkC e1 hty).to hfs⟩ z1 o1
  have := kk H1 h1
  rw [h2] at this
  exact this
theorem mx_w_newa (hexec : p.tables.exec = Jvm.exec) (hb : c.code = cc) (hal : mx_al al b olds.length) (hK : mx_K D dA al b H0 olds s) (hR : mx_R D dA al b H0 olds h H) {at_ : ArrayType} {ty : FieldType} (hty : newarray.typeOf at_ = ty) (hin : ty ∈ mt_ty) (hw : (Cond.arrayClass ty).before args s = true) {n : Int32} {N : Nat} (hn : ¬ n < 0) (hN : n.toNatClampNeg = N) (hbytes : N * componentBytes ty ≤ 536870912) (hcells : cells + 1 ≤ R.cells) (hslots : slots + N ≤ R.slots) (hprim : ∀ C, ty ≠ .object C) (hdg : decode cc pc = .ok (.newarray at_, 2))
    (kk : ∀ H1 : Heap, mx_R D dA al b H0 olds (h ++ [(.inr ty, List.replicate N (defaultValue ty))]) H1 → W p l e R s m args below meth c H1 locs (cells + 1) (slots + N) Q (F0 m (pc + 2) ls (.ref (al.1 h.length) :: rest))) :
    W p l e R s m args below meth c H locs cells slots Q (F0 m pc ls (.int n :: rest)) := by
  subst hty
  refine va_newaK hexec hb hw rfl hdg rfl hn hN hbytes hcells hslots rfl fun H1 cA e1 z1 o1 har hcA => ?_
  have hdA : cA = dA (newarray.typeOf at_) := by
    have h2 := (hK.2.1 _ hin).2
    have h3 : s.vm.findClass ("[" ++ (newarray.typeOf at_).toString) = some (dA (newarray.typeOf at_)) := by
      revert h2
      unfold va_RA
      split
      · rename_i C hC
        exact absurd hC (hprim C)
      · exact fun z => z
    exact Option.some.inj (hcA.symm.trans h3)
  subst hdA
  obtain ⟨h1, h2⟩ := hR.push hal (q := (.inr (newarray.typeOf at_), List.replicate N (defaultValue (newarray.typeOf at_)))) ⟨hin, by
    rw [e1]
    congr 2
    unfold arrV
    simp only [Cell.mk.injEq, true_and, and_true]
    apply Array.ext
    · simp
    · intro i h1 h2
      simp
      cases newarray.typeOf at_ <;> rfl⟩ z1 o1
  have := kk H1 h1
  rw [h2] at this
  exact this
theorem mx_w_newq (hexec : p.tables.exec = Jvm.exec) (hb : c.code = cc) (hal : mx_al al b olds.length) (hK : mx_K D dA al b H0 olds s) (hR : mx_R D dA al b H0 olds h H) {own C : String} {idx : Nat} (hown : s.vm.findClass own = some m.cls) (hin : FieldType.object C ∈ mt_ty) (hcl : (Cond.classLink own idx C).before args s = true) (hov : va_AO C s) {n : Int32} {N : Nat} (hn : ¬ n < 0) (hN : n.toNatClampNeg = N) (hbytes : N * 4 ≤ 536870912) (hcells : cells + 1 ≤ R.cells) (hslots : slots + N ≤ R.slots) (hdg : decode cc pc = .ok (.anewarray idx, 3))
    (kk : ∀ H1 : Heap, mx_R D dA al b H0 olds (h ++ [(.inr (.object C), List.replicate N .null)]) H1 → W p l e R s m args below meth c H1 locs (cells + 1) (slots + N) Q (F0 m (pc + 3) ls (.ref (al.1 h.length) :: rest))) :
    W p l e R s m args below meth c H locs cells slots Q (F0 m pc ls (.int n :: rest)) := by
  subst hN
  refine W.anew hexec hb hown hcl (va_AO.use hov) rfl hdg rfl hn hbytes hcells hslots fun cA kA comp f1 f2 f3 f4 => ?_
  obtain ⟨kA', comp', g1, g2, g3, g4⟩ := (hK.2.1 _ hin).2
  have hdA : cA = dA (.object C) := Option.some.inj (f1.symm.trans g4)
  subst hdA
  obtain ⟨h1, h2⟩ := hR.push hal (H1 := H.push ({ cls := dA (.object C), slots := Array.replicate n.toNatClampNeg .null, vm := .none } : Cell)) (q := (.inr (.object C), List.replicate n.toNatClampNeg .null)) ⟨hin, by
    rw [Array.getElem?_push_size]
    congr 2
    apply Array.ext
    · simp
    · intro i h1 h2
      simp [mx_tr]⟩ (by simp) (fun x hx => by rw [Array.getElem?_push, if_neg (Nat.ne_of_lt hx)])
  have := kk _ h1
  rw [h2] at this
  exact this
def mx_ix (j : Int32) (n : Nat) : Option Nat := if j < 0 ∨ n ≤ j.toNatClampNeg then none else some j.toNatClampNeg
theorem mx_ix_in {j : Int32} {n k : Nat} (h : mx_ix j n = some k) : k = j.toNatClampNeg ∧ ¬ j < 0 ∧ j.toNatClampNeg < n := by
  unfold mx_ix at h
  split at h
  · cases h
  · rename_i hn
    cases h
    exact ⟨rfl, fun z => hn (Or.inl z), Nat.not_le.mp fun z => hn (Or.inr z)⟩
theorem mx_w_ald (hexec : p.tables.exec = Jvm.exec) (hb : c.code = cc) (hal : mx_al al b olds.length) (hK : mx_K D dA al b H0 olds s) (hR : mx_R D dA al b H0 olds h H) {ins : Jvm.ClassFile.Instr} {a k : Nat} {ty : FieldType} {vs : List Value} {v : Value} {j : Int32} (ha : h[a]? = some (.inr ty, vs)) (hj : mx_ix j vs.length = some k) (hv : vs[k]? = some v)
    (hi : (ins = .iaload ∧ ty = .int) ∨ (ins = .caload ∧ ty = .char) ∨ (ins = .baload ∧ ty = .byte) ∨ (ins = .baload ∧ ty = .boolean) ∨ (ins = .aaload ∧ ty.isReference = true) ∨ (ins = .laload ∧ ty = .long)) (hdg : decode cc pc = .ok (ins, 1))
    (kk : W p l e R s m args below meth c H locs cells slots Q (F0 m (pc + 1) ls (mx_tr al v :: rest))) : W p l e R s m args below meth c H locs cells slots Q (F0 m pc ls (.int j :: .ref (al.1 a) :: rest)) := by
  obtain ⟨e1, e2, e3⟩ := mx_ix_in hj
  subst e1
  obtain ⟨cell, h1, h2, h3, h4, h5, h6⟩ := mx_arr hal hK hR ha
  have hin : ¬ (j < 0 ∨ cell.slots.size ≤ j.toNatClampNeg) := fun z => z.elim e2 (fun z => by omega)
  rcases hi with ⟨rfl, rfl⟩ | ⟨rfl, rfl⟩ | ⟨rfl, rfl⟩ | ⟨rfl, rfl⟩ | ⟨rfl, hr⟩ | ⟨rfl, rfl⟩
  · exact W.iald hexec hb h1 h2 h3 hin (h6 _ _ hv) rfl rfl hdg kk
  · exact W.cald hexec hb h1 h2 h3 hin (h6 _ _ hv) rfl rfl hdg kk
  · exact W.bald hexec hb h1 h2 h3 hin (h6 _ _ hv) rfl rfl hdg kk
  · exact W.zald hexec hb h1 h2 h3 hin (h6 _ _ hv) rfl rfl hdg kk
  · exact W.aald hexec hb h1 h2 hr h3 hin (h6 _ _ hv) rfl rfl hdg kk
  · exact W.lald hexec hb h1 h2 h3 hin (h6 _ _ hv) rfl rfl hdg kk
theorem mx_narrow_tr (al : mx_A) (ty : FieldType) (x : Int32) : mx_tr al (narrow ty (.int x)) = narrow ty (.int x) := by cases ty <;> rfl
theorem mx_setv (al : mx_A) (vs : List Value) (k : Nat) (v : Value) (cA : ClassId) : Cell.setSlot { cls := cA, slots := (vs.map (mx_tr al)).toArray, vm := .none } k (mx_tr al v) = { cls := cA, slots := ((vs.set k v).map (mx_tr al)).toArray, vm := .none } := by
  simp [Cell.setSlot, List.map_set]
theorem mx_w_ast (hexec : p.tables.exec = Jvm.exec) (hb : c.code = cc) (hal : mx_al al b olds.length) (hK : mx_K D dA al b H0 olds s) (hR : mx_R D dA al b H0 olds h H) {ins : Jvm.ClassFile.Instr} {a k : Nat} {ty : FieldType} {vs : List Value} {x j : Int32} (ha : h[a]? = some (.inr ty, vs)) (hna : olds.length ≤ a) (hj : mx_ix j vs.length = some k)
    (hi : (ins = .iastore ∧ ty = .int) ∨ (ins = .castore ∧ ty = .char) ∨ (ins = .bastore ∧ ty = .byte) ∨ (ins = .bastore ∧ ty = .boolean)) (hdg : decode cc pc = .ok (ins, 1))
    (kk : ∀ (H1 : Heap) (i : Nat), mx_R D dA al b H0 olds (h.set a (.inr ty, vs.set k (narrow ty (.int x)))) H1 → W p l e R s m args below meth c H1 (locs ++ [⟨al.1 a, i⟩]) cells slots Q (F0 m (pc + 1) ls rest)) : W p l e R s m args below meth c H locs cells slots Q (F0 m pc ls (.int x :: .int j :: .ref (al.1 a) :: rest)) := by
  obtain ⟨e1, e2, e3⟩ := mx_ix_in hj
  subst e1
  obtain ⟨hin0, h1⟩ := hR.2.2.2.2 a _ hna ha
  have h2 : s.isArrayOf ({ cls := dA ty, slots := (vs.map (mx_tr al)).toArray, vm := .none } : Cell) ty := (hK.2.1 ty hin0).1 0 (fun _ => .null)
  have hin : ¬ (j < 0 ∨ ({ cls := dA ty, slots := (vs.map (mx_tr al)).toArray, vm := .none } : Cell).slots.size ≤ j.toNatClampNeg) := fun z => z.elim e2 (fun z => by simp at z; omega)
  have hend : ∀ H' : Heap, H'[al.1 a]? = some (Cell.setSlot { cls := dA ty, slots := (vs.map (mx_tr al)).toArray, vm := .none } j.toNatClampNeg (narrow ty (.int x))) → mx_new D dA al (.inr ty, vs.set j.toNatClampNeg (narrow ty (.int x))) (al.1 a) H' := by
    intro H' e
    have e2 := mx_setv al vs j.toNatClampNeg (narrow ty (.int x)) (dA ty)
    rw [mx_narrow_tr] at e2
    exact ⟨hin0, by rw [e, e2]⟩
  rcases hi with ⟨rfl, rfl⟩ | ⟨rfl, rfl⟩ | ⟨rfl, rfl⟩ | ⟨rfl, rfl⟩
  · exact W.iast hexec hb h1 h2 (fun z => by cases z) hin rfl rfl hdg fun H' f1 f2 f3 => kk H' _ (hR.put hal ha hna (hend H' f1) f2 f3)
  · exact W.cast hexec hb h1 h2 (fun z => by cases z) hin rfl rfl hdg fun H' f1 f2 f3 => kk H' _ (hR.put hal ha hna (hend H' f1) f2 f3)
  · exact W.bast hexec hb h1 h2 (fun z => by cases z) hin rfl rfl hdg fun H' f1 f2 f3 => kk H' _ (hR.put hal ha hna (hend H' f1) f2 f3)
  · exact W.zast hexec hb h1 h2 (fun z => by cases z) hin rfl rfl hdg fun H' f1 f2 f3 => kk H' _ (hR.put hal ha hna (hend H' f1) f2 f3)
theorem mx_w_last (hexec : p.tables.exec = Jvm.exec) (hb : c.code = cc) (hal : mx_al al b olds.length) (hK : mx_K D dA al b H0 olds s) (hR : mx_R D dA al b H0 olds h H) {a k : Nat} {vs : List Value} {x : Int64} {j : Int32} (ha : h[a]? = some (.inr .long, vs)) (hna : olds.length ≤ a) (hj : mx_ix j vs.length = some k) (hdg : decode cc pc = .ok (.lastore, 1))
    (kk : ∀ (H1 : Heap) (i : Nat), mx_R D dA al b H0 olds (h.set a (.inr .long, vs.set k (.long x))) H1 → W p l e R s m args below meth c H1 (locs ++ [⟨al.1 a, i⟩]) cells slots Q (F0 m (pc + 1) ls rest)) : W p l e R s m args below meth c H locs cells slots Q (F0 m pc ls (.long x :: .int j :: .ref (al.1 a) :: rest)) := by
  obtain ⟨e1, e2, e3⟩ := mx_ix_in hj
  subst e1
  obtain ⟨hin0, h1⟩ := hR.2.2.2.2 a _ hna ha
  have h2 : s.isArrayOf ({ cls := dA .long, slots := (vs.map (mx_tr al)).toArray, vm := .none } : Cell) .long := (hK.2.1 _ hin0).1 0 (fun _ => .null)
  refine W.last hexec hb h1 h2 (fun z => by cases z) (fun z => z.elim e2 (fun z => by simp at z; omega)) rfl rfl hdg fun H' f1 f2 f3 => kk H' _ (hR.put hal ha hna ⟨hin0, ?_⟩ f2 f3)
  rw [f1]
  exact congrArg some (mx_setv al vs j.toNatClampNeg (.long x) (dA .long))
theorem mx_w_astN (hexec : p.tables.exec = Jvm.exec) (hb : c.code = cc) (hal : mx_al al b olds.length) (hK : mx_K D dA al b H0 olds s) (hR : mx_R D dA al b H0 olds h H) {a k : Nat} {C : String} {vs : List Value} {j : Int32} (ha : h[a]? = some (.inr (.object C), vs)) (hna : olds.length ≤ a) (hj : mx_ix j vs.length = some k) (hdg : decode cc pc = .ok (.aastore, 1))
    (kk : ∀ (H1 : Heap) (i : Nat), mx_R D dA al b H0 olds (h.set a (.inr (.object C), vs.set k .null)) H1 → W p l e R s m args below meth c H1 (locs ++ [⟨al.1 a, i⟩]) cells slots Q (F0 m (pc + 1) ls rest)) : W p l e R s m args below meth c H locs cells slots Q (F0 m pc ls (.null :: .int j :: .ref (al.1 a) :: rest)) := by
  obtain ⟨e1, e2, e3⟩ := mx_ix_in hj
  subst e1
  obtain ⟨hin0, h1⟩ := hR.2.2.2.2 a _ hna ha
  have h2 : s.isArrayOf ({ cls := dA (.object C), slots := (vs.map (mx_tr al)).toArray, vm := .none } : Cell) (.object C) := (hK.2.1 _ hin0).1 0 (fun _ => .null)
  refine va_WaastN (C := C) hexec hb h1 h2 (fun z => by cases z) (fun z => z.elim e2 (fun z => by simp at z; omega)) rfl rfl hdg fun H' f1 f2 f3 => kk H' _ (hR.put hal ha hna ⟨hin0, ?_⟩ f2 f3)
  rw [f1]
  exact congrArg some (mx_setv al vs j.toNatClampNeg .null (dA (.object C)))
/-- an object's class fits an array of references -/
def mx_asg (s : State) (E : String) (c0 : ClassId) : Prop := ∀ comp : ClassId, s.vm.findClass E = some comp → s.vm.assignable c0 comp = true
theorem mx_w_astR (hexec : p.tables.exec = Jvm.exec) (hb : c.code = cc) (hal : mx_al al b olds.length) (hK : mx_K D dA al b H0 olds s) (hR : mx_R D dA al b H0 olds h H) {a k v ci : Nat} {C : String} {vs fs : List Value} {j : Int32} (ha : h[a]? = some (.inr (.object C), vs)) (hna : olds.length ≤ a) (hj : mx_ix j vs.length = some k) (hv : h[v]? = some (.inl ci, fs)) (hcl : ∃ r, mt_cl[ci]? = some r) (has : mx_asg s C (D.1 ci)) (hdg : decode cc pc = .ok (.aastore, 1))
    (kk : ∀ (H1 : Heap) (i : Nat), mx_R D dA al b H0 olds (h.set a (.inr (.object C), vs.set k (.ref v))) H1 → W p l e R s m args below meth c H1 (locs ++ [⟨al.1 a, i⟩]) cells slots Q (F0 m (pc + 1) ls rest)) : W p l e R s m args below meth c H locs cells slots Q (F0 m pc ls (.ref (al.1 v) :: .int j :: .ref (al.1 a) :: rest)) := by
  obtain ⟨e1, e2, e3⟩ := mx_ix_in hj
  subst e1
  obtain ⟨hin0, h1⟩ := hR.2.2.2.2 a _ hna ha
  obtain ⟨r, cellV, g1, g2, g3, g4, g5, g6, -⟩ := mx_obj hal hK hR hv hcl
  obtain ⟨kA, comp, k1, k2, k3, -⟩ := (hK.2.1 _ hin0).2
  obtain ⟨kE, hkE, -⟩ := Vm.findClass_spec k3
  obtain ⟨-, -, kC, hkC, -⟩ := hK.1 ci _ g1
  refine W.aast hexec hb h1 (fun q z => by cases z) (fun z => by cases z) k1 k2 rfl hkE ⟨e2, by simpa using e3⟩ g3 (fun q z => by rw [z] at g4; cases g4) (by rw [g6]; exact hkC) (by rw [g6]; exact has _ k3) rfl rfl hdg fun H' f1 f2 f3 => kk H' _ (hR.put hal ha hna ⟨hin0, ?_⟩ f2 f3)
  rw [f1]
  exact congrArg some (mx_setv al vs j.toNatClampNeg (.ref v) (dA (.object C)))
theorem mx_w_alen (hexec : p.tables.exec = Jvm.exec) (hb : c.code = cc) (hal : mx_al al b olds.length) (hK : mx_K D dA al b H0 olds s) (hR : mx_R D dA al b H0 olds h H) {a : Nat} {ty : FieldType} {vs : List Value} (ha : h[a]? = some (.inr ty, vs)) (hdg : decode cc pc = .ok (.arraylength, 1))
    (kk : W p l e R s m args below meth c H locs cells slots Q (F0 m (pc + 1) ls (.int (Int32.ofNat vs.length) :: rest))) : W p l e R s m args below meth c H locs cells slots Q (F0 m pc ls (.ref (al.1 a) :: rest)) := by
  obtain ⟨cell, h1, h2, h3, h4, h5, h6⟩ := mx_arr hal hK hR ha
  exact W.alen hexec hb h1 h2 h5 rfl rfl hdg kk
theorem mx_recv (hal : mx_al al b olds.length) (hK : mx_K D dA al b H0 olds s) (hR : mx_R D dA al b H0 olds h H) {a ci : Nat} {fs : List Value} {r : vw_C} (ha : h[a]? = some (.inl ci, fs)) (hc : mt_cl[ci]? = some r) : ∃ cell : Cell, H[al.1 a]? = some cell ∧ cell.vm.isStatics = false ∧ s.vm.findClass r.1 = some cell.cls := by
  obtain ⟨r', cell, h1, h2, h3, h4, h5, h6, h7⟩ := mx_obj hal hK hR ha ⟨r, hc⟩
  cases h1.symm.trans hc
  exact ⟨cell, h3, h4, by rw [h6]; exact (hK.1 ci _ hc).2.1⟩
theorem mx_acmp (hexec : p.tables.exec = Jvm.exec) (hb : c.code = cc) (hal : ∀ i j, mx_sep i j = true → al.1 i = al.1 j → i = j) {x y : Value} (hxy0 : mx_sepv x y = true) {q : Jvm.ClassFile.ACond} {off : Int} {tg : Nat} (hdg : decode cc pc = .ok (.if_acmp q off, 3)) (ht : (pc : Int) + off = (tg : Int))
    (kt : decide (x = y) = (q == .eq) → W p l e R s m args below meth c H locs cells slots Q (F0 m tg ls rest)) (kf : ¬ decide (x = y) = (q == .eq) → W p l e R s m args below meth c H locs cells slots Q (F0 m (pc + 3) ls rest)) :
    W p l e R s m args below meth c H locs cells slots Q (F0 m pc ls (mx_tr al y :: mx_tr al x :: rest)) := by
  have key : ∃ rx ry : Option Nat, mx_tr al x = va_rf rx ∧ mx_tr al y = va_rf ry := by
    cases x <;> cases y <;> simp only [mx_sepv] at hxy0 <;> first | exact ⟨none, none, rfl, rfl⟩ | (rename_i a; exact ⟨none, some (al.1 a), rfl, rfl⟩) | (rename_i a; exact ⟨some (al.1 a), none, rfl, rfl⟩) | (rename_i a b; exact ⟨some (al.1 a), some (al.1 b), rfl, rfl⟩) | (cases hxy0; done)
  obtain ⟨rx, ry, ex, ey⟩ := key
  have hinj : ∀ r r' : Option Nat, va_rf r = va_rf r' → r = r' := by
    intro r r' hh
    cases r <;> cases r' <;> first | rfl | (cases hh; rfl) | (cases hh; done)
  have hxy : rx = ry ↔ x = y := by
    constructor
    · intro z
      exact mx_tr_inj hal hxy0 (by rw [ex, ey, z])
    · intro z
      subst z
      exact hinj _ _ (ex.symm.trans ey)
  rw [ex, ey]
  cases q with
  | eq => exact lv_acmp_eq hexec hb hdg ht (fun z => kt (by rw [decide_eq_true (hxy.mp z)]; rfl)) (fun z => kf (by rw [decide_eq_false (fun w => z (hxy.mpr w))]; decide))
  | ne => exact lv_acmp_ne hexec hb hdg ht (fun z => kt (by rw [decide_eq_false (fun w => z (hxy.mpr w))]; rfl)) (fun z => kf (by rw [decide_eq_true (hxy.mp z)]; decide))
theorem mx_lo {al : mx_A} {locs : List Loc} {b a i : Nat} (hlo : ∀ q ∈ locs, b ≤ q.base) (ha : b ≤ al.1 a) : ∀ q ∈ locs ++ [⟨al.1 a, i⟩], b ≤ q.base := by
  intro q hq
  rcases List.mem_append.mp hq with h | h
  · exact hlo q h
  · rw [List.mem_singleton] at h
    subst h
    exact ha
theorem mx_tr_default (al : mx_A) (ty : FieldType) {v : Value} (h : defaultValue ty = v) : mx_tr al v = v := by
  subst h
  cases ty <;> rfl
end MXI
