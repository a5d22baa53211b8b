section MXT
variable {p : Program} {l : Launch} {e : Env} {R : Room} {s : State} {m : MethodId} {args : Array Value} {below : List Frame} {meth : Method} {c : Code} {H : Heap} {locs : List Loc} {cells slots : Nat} {Q : State → Prop}
variable {cc : ByteArray} {pc : Nat} {ls : Array Slot} {rest : List Value} {D : va_G} {dA : FieldType → ClassId} {al : mx_A} {b : Nat} {H0 : Heap} {olds h : mx_H}
theorem mx_flat_mem {α : Type} {l : List α} {f : α → List Cond} {x : α} {w : Cond} (hx : x ∈ l) (hw : w ∈ f x) : w ∈ l.flatMap f := List.mem_flatMap.mpr ⟨x, hx, hw⟩
theorem mt_fl_ok (hts : ∀ w ∈ mt_Ts, w.before args s = true) (hK : mx_K D dA al b H0 olds s) {mi idx fid : Nat} (h : mt_fl mi idx = some fid) : mx_flk s args (mt_own mi) idx (mt_fd fid) := by
  unfold mt_fl at h
  obtain ⟨q, hq, hf⟩ := Option.map_eq_some_iff.mp h
  obtain ⟨f, ref, host⟩ := q
  dsimp only at hf
  subst hf
  obtain ⟨Q0, hQ⟩ := mt_row_q hq (by decide)
  obtain ⟨ho, how⟩ := mt_own_ow hQ
  have hm := mt_row_mem hq
  have hall := mt_fw_all (mt_o mi) ho
  rw [how] at hall
  have hw : ∀ w ∈ mx_flw (mt_own mi) (idx, f, ref, host), w ∈ mt_tbl := fun w hw => hall w (mx_flat_mem hm hw)
  refine ⟨ref, ?_, ?_⟩
  · cases host with
    | none => exact Or.inl (hts _ (mt_inT (hw _ (by unfold mx_flw; exact List.mem_cons_self)) rfl))
    | some ho => exact Or.inr ⟨ho, va_Nw.use rfl (hK.2.2.2.2.2.1 _ (mt_inN (hw _ (by unfold mx_flw; exact List.mem_cons_self)) rfl))⟩
  · by_cases e : ref = (mt_fd f).1
    · intro x hx
      rw [e]
      exact hx
    · refine fun x hx => u_same (args := args) (hts _ (mt_inT (hw (Cond.sameField ref (mt_fd f).1 (mt_fd f).2.1 (mt_fd f).2.2.1) ?_) rfl)) x hx
      unfold mx_flw
      rw [if_neg e]
      exact List.mem_cons_of_mem _ List.mem_cons_self
theorem mt_fl_own (hf0 : ∀ (o : Nat) (q : Nat × Nat × String × Option String), q ∈ mt_FL.getD o [] → (mt_fd q.2.1).2.2.2 = true → (mt_fd q.2.1).1 = mt_ow.getD o "" → q.2.2.1 = mt_ow.getD o "" ∧ q.2.2.2 = none) {mi idx fid : Nat} (h : mt_fl mi idx = some fid) (hfin : (mt_fd fid).2.2.2 = true) (ho2 : (mt_fd fid).1 = mt_own mi) : Cond.fieldLink (mt_own mi) idx (mt_own mi) (mt_fd fid).2.1 (mt_fd fid).2.2.1 ∈ mt_Ts := by
  unfold mt_fl at h
  obtain ⟨q, hq, hf⟩ := Option.map_eq_some_iff.mp h
  obtain ⟨f, ref, host⟩ := q
  dsimp only at hf
  subst hf
  obtain ⟨Q0, hQ⟩ := mt_row_q hq (by decide)
  obtain ⟨ho, how⟩ := mt_own_ow hQ
  have hm := mt_row_mem hq
  obtain ⟨e1, e2⟩ := hf0 _ _ hm hfin (by rw [how]; exact ho2)
  rw [how] at e1
  dsimp only at e1 e2
  subst e1; subst e2
  have hall := mt_fw_all (mt_o mi) ho
  rw [how] at hall
  exact mt_inT (hall _ (mx_flat_mem hm (by unfold mx_flw; exact List.mem_cons_self))) rfl
theorem mt_fl_fin : ∀ (o : Nat) (q : Nat × Nat × String × Option String), q ∈ mt_FL.getD o [] → (mt_fd q.2.1).2.2.2 = true → (mt_fd q.2.1).1 = mt_ow.getD o "" → q.2.2.1 = mt_ow.getD o "" ∧ q.2.2.2 = none := by
  intro o q hq
  by_cases ho : o < 26
  · have key : ∀ o ∈ List.range 26, ∀ q ∈ mt_FL.getD o [], (mt_fd q.2.1).2.2.2 = true → (mt_fd q.2.1).1 = mt_ow.getD o "" → q.2.2.1 = mt_ow.getD o "" ∧ q.2.2.2 = none := by decide +kernel
    exact key o (List.mem_range.mpr ho) q hq
  · rw [List.getD_eq_getElem?_getD, List.getElem?_eq_none (by have : mt_FL.length = 26 := rfl; omega)] at hq
    simp at hq
theorem mt_pf_ok {mi idx fid : Nat} (h : mt_pf mi fid = true) (hl : mt_fl mi idx = some fid) : (mt_fd fid).2.2.2 = false ∨ ((mt_fd fid).2.2.2 = true ∧ mt_ini mi = true ∧ (mt_fd fid).1 = mt_own mi ∧ Cond.fieldLink (mt_own mi) idx (mt_own mi) (mt_fd fid).2.1 (mt_fd fid).2.2.1 ∈ mt_Ts) := by
  unfold mt_pf at h
  cases hf : (mt_fd fid).2.2.2 with
  | false => exact Or.inl rfl
  | true =>
    rw [hf] at h
    simp only [Bool.not_true, Bool.false_or, Bool.and_eq_true, decide_eq_true_eq] at h
    exact Or.inr ⟨rfl, h.1, h.2, mt_fl_own mt_fl_fin hl hf h.2⟩
theorem mx_cn_cl {ci : Nat} {r : vw_C} (h : mt_cl[ci]? = some r) : mx_cn ci = r.1 ∧ (mt_cq ci).length = r.2.2 := by
  obtain ⟨q, hq, rfl, hcq⟩ := mt_cl_at h
  refine ⟨?_, by rw [hcq]; rfl⟩
  unfold mx_cn
  rw [hq]
  rfl
theorem mt_cl_lt {ci : Nat} (h : ci < 12) : ∃ r, mt_cl[ci]? = some r := by
  have : mt_cl.length = 12 := rfl
  exact ⟨_, List.getElem?_eq_getElem (by omega)⟩
theorem mt_nw_ok {mi idx ci : Nat} (h : mt_nw mi idx = some ci) : ∃ r, mt_cl[ci]? = some r ∧ Cond.classLink (mt_own mi) idx r.1 ∈ mt_Ts ∧ Cond.instantiable r.1 r.2.2 ∈ mt_Ts ∧ Cond.initialized r.1 ∈ mt_Ts ∧ (mt_df ci).length = r.2.2 ∧ ∀ j, j < r.2.2 → defaultValue (mt_ct ci j) = (mt_df ci).getD j .null := by
  have h : mt_row mt_NW mi idx = some ci := h
  obtain ⟨Q0, hQ⟩ := mt_row_q h (by decide)
  obtain ⟨ho, how⟩ := mt_own_ow hQ
  have hm := mt_row_mem h
  have hall := mt_nv_all (mt_o mi) ho
  rw [how] at hall
  have hw : ∀ w ∈ mx_nww (mt_own mi) (idx, ci), w ∈ mt_tbl := fun w hw => hall w (mx_flat_mem hm hw)
  have hlt : ci < 12 := by
    have key : ∀ l ∈ mt_NW, ∀ q ∈ l, q.2 < 12 := by decide +kernel
    rw [List.getD_eq_getElem?_getD] at hm
    cases hl : mt_NW[mt_o mi]? with
    | none => rw [hl] at hm; simp at hm
    | some l => rw [hl] at hm; exact key l (List.mem_of_getElem? hl) _ hm
  obtain ⟨r, hr⟩ := mt_cl_lt hlt
  obtain ⟨c1, c2⟩ := mx_cn_cl hr
  refine ⟨r, hr, ?_, ?_, ?_, ?_, fun j hj => ?_⟩
  · rw [← c1]; exact mt_inT (hw _ (by unfold mx_nww; exact List.mem_cons_self)) rfl
  · rw [← c1, ← c2]; exact mt_inT (hw _ (by unfold mx_nww; exact List.mem_cons_of_mem _ List.mem_cons_self)) rfl
  · rw [← c1]; exact mt_inT (hw _ (by unfold mx_nww; exact List.mem_cons_of_mem _ (List.mem_cons_of_mem _ List.mem_cons_self))) rfl
  · unfold mt_df; rw [List.length_map]; exact c2
  · unfold mt_ct mt_df
    rw [← c2] at hj
    simp [List.getD_eq_getElem?_getD, hj]
theorem mt_na_ok {ty : FieldType} (h : ty ∈ mt_na) : ty ∈ mt_ty ∧ Cond.arrayClass ty ∈ mt_Ts ∧ componentBytes ty ≤ 8 ∧ ∀ C, ty ≠ .object C := by
  refine ⟨?_, mt_inT (mt_acw _ (List.mem_map.mpr ⟨ty, h, rfl⟩)) rfl, ?_, ?_⟩
  · have key : ∀ t ∈ mt_na, t ∈ mt_ty := by decide
    exact key ty h
  · have key : ∀ t ∈ mt_na, componentBytes t ≤ 8 := by decide
    exact key ty h
  · intro C hC
    subst hC
    simp [mt_na] at h
theorem mt_an_ok (hK : mx_K D dA al b H0 olds s) {mi idx : Nat} {C : String} (h : mt_an mi idx = some C) : FieldType.object C ∈ mt_ty ∧ Cond.classLink (mt_own mi) idx C ∈ mt_Ts ∧ va_AO C s := by
  have h : mt_row mt_AN mi idx = some C := h
  obtain ⟨Q0, hQ⟩ := mt_row_q h (by decide)
  obtain ⟨ho, how⟩ := mt_own_ow hQ
  have hm := mt_row_mem h
  have hall := mt_av_all (mt_o mi) ho
  rw [how] at hall
  have hC : C = "java/lang/Object" := by
    have key : ∀ l ∈ mt_AN, ∀ q ∈ l, q.2 = "java/lang/Object" := by decide +kernel
    have hm2 := hm
    rw [List.getD_eq_getElem?_getD] at hm2
    cases hl : mt_AN[mt_o mi]? with
    | none => rw [hl] at hm2; simp at hm2
    | some l => rw [hl] at hm2; exact key l (List.mem_of_getElem? hl) _ hm2
  refine ⟨by rw [hC]; decide, mt_inT (hall _ (mx_flat_mem hm (by unfold mx_anw; exact List.mem_cons_self))) rfl, ?_⟩
  rw [hC]
  exact hK.2.2.2.2.2.2.1
theorem mt_as_ok (hK : mx_K D dA al b H0 olds s) {C : String} {ci : Nat} (h : mt_as C ci = true) : (∃ r, mt_cl[ci]? = some r) ∧ mx_asg s C (D.1 ci) := by
  unfold mt_as at h
  simp only [Bool.and_eq_true, decide_eq_true_eq, List.contains_iff_mem] at h
  obtain ⟨hC, hm⟩ := h
  subst hC
  have hlt : ci < 12 := by
    have key : ∀ q ∈ mt_ob, q < 12 := by decide
    exact key ci hm
  obtain ⟨r, hr⟩ := mt_cl_lt hlt
  refine ⟨⟨r, hr⟩, fun comp hcomp => ?_⟩
  have hca := hK.2.2.2.2.2.1 _ (mt_inN (mt_obw _ (List.mem_map.mpr ⟨ci, hm, rfl⟩)) rfl)
  obtain ⟨c0, t0, f1, f2, f3⟩ := Cond.castable_spec (va_Nw.use (A := #[]) rfl hca)
  rw [(mx_cn_cl hr).1] at f1
  cases f1.symm.trans (hK.1 ci _ hr).2.1
  cases f2.symm.trans hcomp
  exact f3
theorem mt_w_ldc (hexec : p.tables.exec = Jvm.exec) (hal : mx_al al b olds.length) (hK : mx_K D dA al b H0 olds s) {mi idx : Nat} {v : Value} (hb : c.code = mt_by mi) (hown : s.vm.findClass (mt_own mi) = some m.cls) (hts : ∀ w ∈ mt_Ts, w.before args s = true) (hv : mt_lc mi idx = some v) (hdg : decode (mt_by mi) pc = .ok (.ldc idx, 2))
    (kk : W p l e R s m args below meth c H locs cells slots Q (F0 m (pc + 2) ls (mx_tr al v :: rest))) : W p l e R s m args below meth c H locs cells slots Q (F0 m pc ls rest) := by
  unfold mt_lc at hv
  split at hv
  · rename_i x hx
    cases hv
    obtain ⟨Q0, hQ⟩ := mt_row_q hx (by decide)
    obtain ⟨ho, how⟩ := mt_own_ow hQ
    have hall := mt_iw_all (mt_o mi) ho
    rw [how] at hall
    exact lv_ldc hexec hb hown (hts _ (mt_inT (hall _ (mx_flat_mem (mt_row_mem hx) (by unfold mx_liw; exact List.mem_cons_self))) rfl)) hdg kk
  · obtain ⟨q, hq, hf⟩ := Option.map_eq_some_iff.mp hv
    subst hf
    obtain ⟨Q0, hQ⟩ := mt_row_q hq (by decide)
    obtain ⟨ho, how⟩ := mt_own_ow hQ
    have hm := mt_row_mem hq
    refine va_ldcS (tx := q.1) hexec hb hown (hK.2.2.2.2.1 (mt_own mi, idx, q.1, q.2) ?_) hdg kk
    unfold mt_Ks
    rw [List.mem_flatMap]
    exact ⟨mt_o mi, List.mem_range.mpr ho, List.mem_map.mpr ⟨_, hm, by rw [how]⟩⟩
theorem mt_w_ldc2 (hexec : p.tables.exec = Jvm.exec) {mi idx : Nat} {v : Int64} (hb : c.code = mt_by mi) (hown : s.vm.findClass (mt_own mi) = some m.cls) (hts : ∀ w ∈ mt_Ts, w.before args s = true) (hv : mt_lj mi idx = some v) (hdg : decode (mt_by mi) pc = .ok (.ldc2_w idx, 3))
    (kk : W p l e R s m args below meth c H locs cells slots Q (F0 m (pc + 3) ls (.long v :: rest))) : W p l e R s m args below meth c H locs cells slots Q (F0 m pc ls rest) := by
  have hv : mt_row mt_LJ mi idx = some v := hv
  obtain ⟨Q0, hQ⟩ := mt_row_q hv (by decide)
  obtain ⟨ho, how⟩ := mt_own_ow hQ
  have hall := mt_jw_all (mt_o mi) ho
  rw [how] at hall
  exact lv_ldc2 hexec hb hown (hts _ (mt_inT (hall _ (mx_flat_mem (mt_row_mem hv) (by unfold mx_ljw; exact List.mem_cons_self))) rfl)) hdg kk
theorem mt_w_gets (hexec : p.tables.exec = Jvm.exec) (hK : mx_K D dA al b H0 olds s) (hR : mx_R D dA al b H0 olds h H) (hb0 : b = H0.size) {mi idx : Nat} {v : Value} (hb : c.code = mt_by mi) (hown : s.vm.findClass (mt_own mi) = some m.cls) (hts : ∀ w ∈ mt_Ts, w.before args s = true) (hv : mt_sg mi idx = some v) (hdg : decode (mt_by mi) pc = .ok (.getstatic idx, 3))
    (kk : W p l e R s m args below meth c H locs cells slots Q (F0 m (pc + 3) ls (mx_tr al v :: rest))) : W p l e R s m args below meth c H locs cells slots Q (F0 m pc ls rest) := by
  unfold mt_sg at hv
  obtain ⟨k, hk, hv⟩ := Option.bind_eq_some_iff.mp hv
  obtain ⟨q, hq, hf⟩ := Option.map_eq_some_iff.mp hv
  subst hf
  obtain ⟨Q0, hQ⟩ := mt_row_q hk (by decide)
  obtain ⟨ho, how⟩ := mt_own_ow hQ
  have hall := mt_gw_all (mt_o mi) ho
  rw [how] at hall
  have hw := hall _ (mx_flat_mem (mt_row_mem hk) (by unfold mx_sgw; exact List.mem_cons_self))
  rw [List.getD_eq_getElem?_getD, hq] at hw
  obtain ⟨cf, kf, fi, f, a, cell, h1, h2, h3, h4, h5, h6, h7, h8⟩ := hK.2.2.2.1 q (List.mem_of_getElem? hq)
  have ha : a < b := by rw [hb0]; exact (Array.getElem?_eq_some_iff.mp h5).1
  exact W.gets hexec hb hown (hts _ (mt_inT hw rfl)) h1 h2 h3 h4 (by rw [hR.2.2.1 a ha]; exact h5) (fun z => by rw [z] at h6; cases h6) h7 rfl hdg kk
theorem mt_w_cast (hexec : p.tables.exec = Jvm.exec) (hal : mx_al al b olds.length) (hK : mx_K D dA al b H0 olds s) (hR : mx_R D dA al b H0 olds h H) {mi idx a ci : Nat} {fs : List Value} (hb : c.code = mt_by mi) (hown : s.vm.findClass (mt_own mi) = some m.cls) (hts : ∀ w ∈ mt_Ts, w.before args s = true) (ha : h[a]? = some (.inl ci, fs)) (hv : mt_cc mi idx ci = true) (hdg : decode (mt_by mi) pc = .ok (.checkcast idx, 3))
    (kk : W p l e R s m args below meth c H locs cells slots Q (F0 m (pc + 3) ls (.ref (al.1 a) :: rest))) : W p l e R s m args below meth c H locs cells slots Q (F0 m pc ls (.ref (al.1 a) :: rest)) := by
  unfold mt_cc at hv
  split at hv
  · rename_i q hq
    obtain ⟨Q0, hQ⟩ := mt_row_q hq (by decide)
    obtain ⟨ho, how⟩ := mt_own_ow hQ
    have hm := mt_row_mem hq
    have hall := mt_cw_all (mt_o mi) ho
    rw [how] at hall
    have hlink := hts _ (mt_inT (hall _ (mx_flat_mem hm (by unfold mx_ccw; exact List.mem_cons_self))) rfl)
    have hlt : ci < 12 := by
      simp only [Bool.or_eq_true, Bool.and_eq_true, List.contains_iff_mem, decide_eq_true_eq] at hv
      rcases hv with hv | hv
      · have key : ∀ l ∈ mt_CC, ∀ q ∈ l, ∀ z ∈ q.2.2.1, z < 12 := by decide +kernel
        rw [List.getD_eq_getElem?_getD] at hm
        cases hl : mt_CC[mt_o mi]? with
        | none => rw [hl] at hm; simp at hm
        | some l => rw [hl] at hm; exact key l (List.mem_of_getElem? hl) _ hm ci hv
      · exact hv.2.2
    obtain ⟨r, hr⟩ := mt_cl_lt hlt
    have hrec := mx_recv hal hK hR ha hr
    simp only [Bool.or_eq_true, Bool.and_eq_true, List.contains_iff_mem, decide_eq_true_eq, beq_iff_eq] at hv
    rcases hv with hv | hv
    · have hca := hK.2.2.2.2.2.1 _ (mt_inN (hall _ (mx_flat_mem hm (w := Cond.castable (mx_cn ci) q.1) (by unfold mx_ccw; exact List.mem_cons_of_mem _ (List.mem_map.mpr ⟨ci, hv, rfl⟩)))) rfl)
      rw [(mx_cn_cl hr).1] at hca
      exact va_castY hexec hb hown hlink hca hrec hdg kk
    · have e1 : r.1 = q.1 := by rw [← (mx_cn_cl hr).1]; exact hv.2.1
      refine va_castS hexec hb hown hlink (cC := D.1 ci) ?_ ?_ hdg kk
      · rw [← e1]; exact (hK.1 ci _ hr).2
      · rw [← e1]; exact hrec
  · cases hv
theorem mt_w_inst (hexec : p.tables.exec = Jvm.exec) (hal : mx_al al b olds.length) (hK : mx_K D dA al b H0 olds s) (hR : mx_R D dA al b H0 olds h H) {mi idx a ci : Nat} {fs : List Value} {z : Bool} (hb : c.code = mt_by mi) (hown : s.vm.findClass (mt_own mi) = some m.cls) (hts : ∀ w ∈ mt_Ts, w.before args s = true) (ha : h[a]? = some (.inl ci, fs)) (hv : mt_io mi idx ci = some z) (hdg : decode (mt_by mi) pc = .ok (.instanceof idx, 3))
    (kk : W p l e R s m args below meth c H locs cells slots Q (F0 m (pc + 3) ls (.int (if z = true then 1 else 0) :: rest))) : W p l e R s m args below meth c H locs cells slots Q (F0 m pc ls (.ref (al.1 a) :: rest)) := by
  unfold mt_io at hv
  split at hv
  · rename_i T hT
    split at hv
    · rename_i hc
      cases hv
      obtain ⟨Q0, hQ⟩ := mt_row_q hT (by decide)
      obtain ⟨ho, how⟩ := mt_own_ow hQ
      have hall := mt_ov_all (mt_o mi) ho
      rw [how] at hall
      have hlink := hts _ (mt_inT (hall _ (mx_flat_mem (mt_row_mem hT) (by unfold mx_iow; exact List.mem_cons_self))) rfl)
      obtain ⟨r, hr⟩ := mt_cl_lt hc.2
      have hrec := mx_recv hal hK hR ha hr
      have e1 : r.1 = T := by rw [← (mx_cn_cl hr).1]; exact hc.1
      refine va_instS hexec hb hown hlink (cC := D.1 ci) ?_ ?_ hdg kk
      · rw [← e1]; exact (hK.1 ci _ hr).2
      · rw [← e1]; exact hrec
    · cases hv
  · cases hv
/-- what stands while a method's body runs -/
def mx_Std (p : Program) (s : State) (m : MethodId) (args : Array Value) (meth : Method) (c : Code) (mi : Nat) (D : va_G) (dA : FieldType → ClassId) (al : mx_A) (b : Nat) (H0 : Heap) (olds : mx_H) : Prop :=
  p.tables.exec = Jvm.exec ∧ c.code = mt_by mi ∧ c.maxLocals = mt_mL mi ∧ s.vm.findClass (mt_own mi) = some m.cls ∧ (∀ w ∈ mt_Ts, w.before args s = true) ∧ meth.sig.returnType = mt_rt mi ∧ meth.locks = false ∧ (mt_ini mi = true → meth.name = "<init>") ∧ mx_K D dA al b H0 olds s
end MXT
