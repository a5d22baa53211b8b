section MXS
variable {p : Program} {l : Launch} {e : Env} {R : Room} {s : State} {m : MethodId} {args : Array Value} {below : List Frame} {meth : Method} {c : Code} {H : Heap} {locs : List Loc} {cells slots : Nat} {Q : State → Prop}
variable {D : va_G} {dA : FieldType → ClassId} {al : mx_A} {b : Nat} {H0 : Heap} {olds : mx_H}
theorem mt_fk_cl {ci fid k : Nat} (h : mt_fk ci fid = some k) : ∃ r, mt_cl[ci]? = some r := by
  unfold mt_fk mt_cq at h
  cases hq : mt_cf[ci]? with
  | none => rw [hq] at h; simp at h
  | some q => exact ⟨mt_c1 q, by unfold mt_cl; rw [List.getElem?_map, hq]; rfl⟩
set_option maxHeartbeats 8000000 in
theorem mx_sim1 {mi pc pc' : Nat} {ins : Jvm.ClassFile.Instr} {L L' : mx_L} {st st' : List Value} {h h' : mx_H} {ls : Array Slot}
    (hS : mx_Std p s m args meth c mi D dA al b H0 olds) (hal : mx_al al b olds.length) (hnO : olds.length = mt_nO) (hb0 : b = H0.size) (hdg : decode (mt_by mi) pc = .ok (ins, mx_len pc ins))
    (hst : mx_st1 mi pc ins L st h = some (pc', L', st', h')) (hL : mx_RL al ls (mt_mL mi) L) (hR : mx_R D dA al b H0 olds h H) (hlo : ∀ q ∈ locs, b ≤ q.base) (hcells : cells + (h'.length - h.length) ≤ R.cells) (hslots : slots + (mx_tot h' - mx_tot h) ≤ R.slots)
    (kk : ∀ (ls' : Array Slot) (H' : Heap) (locs' : List Loc), mx_RL al ls' (mt_mL mi) L' → mx_R D dA al b H0 olds h' H' → (∀ q ∈ locs', b ≤ q.base) → W p l e R s m args below meth c H' locs' (cells + (h'.length - h.length)) (slots + (mx_tot h' - mx_tot h)) Q (F0 m pc' ls' (st'.map (mx_tr al)))) :
    W p l e R s m args below meth c H locs cells slots Q (F0 m pc ls (st.map (mx_tr al))) := by
  obtain ⟨hx, hb, hml, hown, hts, hret, hlocks, hini, hK⟩ := hS
  cases ins with
  | aconst_null =>
    simp only [mx_st1] at hst
    cases hst
    have kk0 := kk ls H locs hL hR hlo
    rw [Nat.sub_self, Nat.sub_self, Nat.add_zero, Nat.add_zero] at kk0
    exact lv_null hx hb hdg kk0
  | iconst k =>
    simp only [mx_st1] at hst
    cases hst
    have kk0 := kk ls H locs hL hR hlo
    rw [Nat.sub_self, Nat.sub_self, Nat.add_zero, Nat.add_zero] at kk0
    exact lv_iconst hx hb hdg rfl kk0
  | bipush k =>
    simp only [mx_st1] at hst
    cases hst
    have kk0 := kk ls H locs hL hR hlo
    rw [Nat.sub_self, Nat.sub_self, Nat.add_zero, Nat.add_zero] at kk0
    exact lv_bipush hx hb hdg rfl kk0
  | sipush k =>
    simp only [mx_st1] at hst
    cases hst
    have kk0 := kk ls H locs hL hR hlo
    rw [Nat.sub_self, Nat.sub_self, Nat.add_zero, Nat.add_zero] at kk0
    exact lv_sipush hx hb hdg rfl kk0
  | ldc i =>
    simp only [mx_st1, Option.map_eq_some_iff] at hst
    obtain ⟨v, hv, hst⟩ := hst
    cases hst
    have kk0 := kk ls H locs hL hR hlo
    rw [Nat.sub_self, Nat.sub_self, Nat.add_zero, Nat.add_zero] at kk0
    exact mt_w_ldc hx hal hK hb hown hts hv hdg kk0
  | iload i =>
    simp only [mx_st1, Option.map_eq_some_iff] at hst
    obtain ⟨v, hv, hst⟩ := hst
    cases hst
    have kk0 := kk ls H locs hL hR hlo
    rw [Nat.sub_self, Nat.sub_self, Nat.add_zero, Nat.add_zero] at kk0
    exact lv_iload hx hb hdg (hL.at (mx_li_at hv)) kk0
  | iload_n k =>
    simp only [mx_st1, Option.map_eq_some_iff] at hst
    obtain ⟨v, hv, hst⟩ := hst
    cases hst
    have kk0 := kk ls H locs hL hR hlo
    rw [Nat.sub_self, Nat.sub_self, Nat.add_zero, Nat.add_zero] at kk0
    exact lv_iload_n hx hb hdg rfl (hL.at (mx_li_at hv)) kk0
  | aload i =>
    simp only [mx_st1, Option.map_eq_some_iff] at hst
    obtain ⟨v, hv, hst⟩ := hst
    cases hst
    obtain ⟨hv1, hv2⟩ := mx_la_at hv
    have hv3 := hL.at hv1
    have kk0 := kk ls H locs hL hR hlo
    rw [Nat.sub_self, Nat.sub_self, Nat.add_zero, Nat.add_zero] at kk0
    rcases hv2 with rfl | ⟨a, rfl⟩
    · exact lv_aloadN hx hb hdg hv3 kk0
    · exact lv_aload hx hb hdg hv3 kk0
  | aload_n k =>
    simp only [mx_st1, Option.map_eq_some_iff] at hst
    obtain ⟨v, hv, hst⟩ := hst
    cases hst
    obtain ⟨hv1, hv2⟩ := mx_la_at hv
    have hv3 := hL.at hv1
    have kk0 := kk ls H locs hL hR hlo
    rw [Nat.sub_self, Nat.sub_self, Nat.add_zero, Nat.add_zero] at kk0
    rcases hv2 with rfl | ⟨a, rfl⟩
    · exact lv_aload_nN hx hb hdg rfl hv3 kk0
    · exact lv_aload_n hx hb hdg rfl hv3 kk0
  | istore i =>
    simp only [mx_st1, mx_si] at hst
    split at hst
    · split at hst
      · rename_i hlt
        cases hst
        refine lv_istore hx hb hdg hL.2 (by rw [← hL.1]; exact hlt) rfl fun ls' h' => ?_
        have kk0 := kk ls' H locs (hL.set1 (by rw [← hL.1]; exact hlt) h') hR hlo
        rw [Nat.sub_self, Nat.sub_self, Nat.add_zero, Nat.add_zero] at kk0
        exact kk0
      · cases hst
    · cases hst
  | istore_n k =>
    simp only [mx_st1, mx_si] at hst
    split at hst
    · split at hst
      · rename_i hlt
        cases hst
        refine lv_istore_n hx hb hdg rfl hL.2 (by rw [← hL.1]; exact hlt) rfl fun ls' h' => ?_
        have kk0 := kk ls' H locs (hL.set1 (by rw [← hL.1]; exact hlt) h') hR hlo
        rw [Nat.sub_self, Nat.sub_self, Nat.add_zero, Nat.add_zero] at kk0
        exact kk0
      · cases hst
    · cases hst
  | astore i =>
    simp only [mx_st1, mx_sa] at hst
    split at hst
    · rename_i v r
      split at hst
      · rename_i hlt
        cases hst
        have hi := hlt.2
        rw [hL.1] at hi
        have hfin : ∀ ls' : Array Slot, mx_RL al ls' (mt_mL mi) _ → _ := fun ls' hl => kk ls' H locs hl hR hlo
        rw [Nat.sub_self, Nat.sub_self, Nat.add_zero, Nat.add_zero] at hfin
        cases v with
        | null => exact lv_astoreN hx hb hdg hL.2 hi rfl fun ls' h' => hfin ls' (hL.set1 hi h')
        | ref x => exact lv_astore hx hb hdg hL.2 hi rfl fun ls' h' => hfin ls' (hL.set1 hi h')
        | _ => exact absurd hlt.1 (by simp [mx_isr])
      · cases hst
    · cases hst
  | astore_n k =>
    simp only [mx_st1, mx_sa] at hst
    split at hst
    · rename_i v r
      split at hst
      · rename_i hlt
        cases hst
        have hi := hlt.2
        rw [hL.1] at hi
        have hfin : ∀ ls' : Array Slot, mx_RL al ls' (mt_mL mi) _ → _ := fun ls' hl => kk ls' H locs hl hR hlo
        rw [Nat.sub_self, Nat.sub_self, Nat.add_zero, Nat.add_zero] at hfin
        cases v with
        | null => exact lv_astore_nN hx hb hdg rfl hL.2 hi rfl fun ls' h' => hfin ls' (hL.set1 hi h')
        | ref x => exact lv_astore_n hx hb hdg rfl hL.2 hi rfl fun ls' h' => hfin ls' (hL.set1 hi h')
        | _ => exact absurd hlt.1 (by simp [mx_isr])
      · cases hst
    · cases hst
  | iinc i k =>
    simp only [mx_st1, Option.map_eq_some_iff] at hst
    obtain ⟨x, hv, hst⟩ := hst
    cases hst
    have hv1 := mx_li_at hv
    have hi : i < mt_mL mi := by rw [← hL.1]; exact (List.getElem?_eq_some_iff.mp hv1).1
    obtain ⟨n, hn⟩ := List.getElem?_of_mem (mx_lv_mem.mpr (show (i, Value.int x).1 < mt_mL mi ∧ ∃ v, L[(i, Value.int x).1]? = some (some v) ∧ (i, Value.int x).2 = mx_tr al v from ⟨hi, _, hv1, rfl⟩))
    refine lv_iinc hx hb hdg hL.2 hn rfl hi rfl fun ls' h' => ?_
    have kk0 := kk ls' H locs (hL.set1 hi h') hR hlo
    rw [Nat.sub_self, Nat.sub_self, Nat.add_zero, Nat.add_zero] at kk0
    exact kk0
  | iadd =>
    simp only [mx_st1, mx_i2] at hst
    split at hst
    · cases hst
      have kk0 := kk ls H locs hL hR hlo
      rw [Nat.sub_self, Nat.sub_self, Nat.add_zero, Nat.add_zero] at kk0
      exact lv_iadd hx hb hdg kk0
    · cases hst
  | isub =>
    simp only [mx_st1, mx_i2] at hst
    split at hst
    · cases hst
      have kk0 := kk ls H locs hL hR hlo
      rw [Nat.sub_self, Nat.sub_self, Nat.add_zero, Nat.add_zero] at kk0
      exact lv_isub hx hb hdg kk0
    · cases hst
  | imul =>
    simp only [mx_st1, mx_i2] at hst
    split at hst
    · cases hst
      have kk0 := kk ls H locs hL hR hlo
      rw [Nat.sub_self, Nat.sub_self, Nat.add_zero, Nat.add_zero] at kk0
      exact lv_imul hx hb hdg kk0
    · cases hst
  | iand =>
    simp only [mx_st1, mx_i2] at hst
    split at hst
    · cases hst
      have kk0 := kk ls H locs hL hR hlo
      rw [Nat.sub_self, Nat.sub_self, Nat.add_zero, Nat.add_zero] at kk0
      exact lv_iand hx hb hdg kk0
    · cases hst
  | ior =>
    simp only [mx_st1, mx_i2] at hst
    split at hst
    · cases hst
      have kk0 := kk ls H locs hL hR hlo
      rw [Nat.sub_self, Nat.sub_self, Nat.add_zero, Nat.add_zero] at kk0
      exact lv_ior hx hb hdg kk0
    · cases hst
  | ixor =>
    simp only [mx_st1, mx_i2] at hst
    split at hst
    · cases hst
      have kk0 := kk ls H locs hL hR hlo
      rw [Nat.sub_self, Nat.sub_self, Nat.add_zero, Nat.add_zero] at kk0
      exact lv_ixor hx hb hdg kk0
    · cases hst
  | ishl =>
    simp only [mx_st1, mx_i2] at hst
    split at hst
    · cases hst
      have kk0 := kk ls H locs hL hR hlo
      rw [Nat.sub_self, Nat.sub_self, Nat.add_zero, Nat.add_zero] at kk0
      exact lv_ishl hx hb hdg kk0
    · cases hst
  | ishr =>
    simp only [mx_st1, mx_i2] at hst
    split at hst
    · cases hst
      have kk0 := kk ls H locs hL hR hlo
      rw [Nat.sub_self, Nat.sub_self, Nat.add_zero, Nat.add_zero] at kk0
      exact lv_ishr hx hb hdg kk0
    · cases hst
  | iushr =>
    simp only [mx_st1, mx_i2] at hst
    split at hst
    · cases hst
      have kk0 := kk ls H locs hL hR hlo
      rw [Nat.sub_self, Nat.sub_self, Nat.add_zero, Nat.add_zero] at kk0
      exact lv_iushr hx hb hdg rfl kk0
    · cases hst
  | ineg =>
    simp only [mx_st1, mx_i1] at hst
    split at hst
    · cases hst
      have kk0 := kk ls H locs hL hR hlo
      rw [Nat.sub_self, Nat.sub_self, Nat.add_zero, Nat.add_zero] at kk0
      exact lv_ineg hx hb hdg kk0
    · cases hst
  | i2b =>
    simp only [mx_st1, mx_i1] at hst
    split at hst
    · cases hst
      have kk0 := kk ls H locs hL hR hlo
      rw [Nat.sub_self, Nat.sub_self, Nat.add_zero, Nat.add_zero] at kk0
      exact lv_i2b hx hb hdg rfl kk0
    · cases hst
  | i2c =>
    simp only [mx_st1, mx_i1] at hst
    split at hst
    · cases hst
      have kk0 := kk ls H locs hL hR hlo
      rw [Nat.sub_self, Nat.sub_self, Nat.add_zero, Nat.add_zero] at kk0
      exact lv_i2c hx hb hdg rfl kk0
    · cases hst
  | i2s =>
    simp only [mx_st1, mx_i1] at hst
    split at hst
    · cases hst
      have kk0 := kk ls H locs hL hR hlo
      rw [Nat.sub_self, Nat.sub_self, Nat.add_zero, Nat.add_zero] at kk0
      exact lv_i2s hx hb hdg rfl kk0
    · cases hst
  | idiv =>
    simp only [mx_st1, mx_d2] at hst
    split at hst
    · split at hst
      · cases hst
      · rename_i hne
        cases hst
        have kk0 := kk ls H locs hL hR hlo
        rw [Nat.sub_self, Nat.sub_self, Nat.add_zero, Nat.add_zero] at kk0
        exact lv_idiv hx hb hdg hne kk0
    · cases hst
  | irem =>
    simp only [mx_st1, mx_d2] at hst
    split at hst
    · split at hst
      · cases hst
      · rename_i hne
        cases hst
        have kk0 := kk ls H locs hL hR hlo
        rw [Nat.sub_self, Nat.sub_self, Nat.add_zero, Nat.add_zero] at kk0
        exact lv_irem hx hb hdg hne kk0
    · cases hst
  | dup =>
    simp only [mx_st1] at hst
    split at hst
    · split at hst
      · rename_i hc
        cases hst
        have kk0 := kk ls H locs hL hR hlo
        rw [Nat.sub_self, Nat.sub_self, Nat.add_zero, Nat.add_zero] at kk0
        exact lv_dup hx hb hdg (by rw [mx_tr_cat]; exact hc) kk0
      · cases hst
    · cases hst
  | pop =>
    simp only [mx_st1] at hst
    split at hst
    · split at hst
      · rename_i hc
        cases hst
        have kk0 := kk ls H locs hL hR hlo
        rw [Nat.sub_self, Nat.sub_self, Nat.add_zero, Nat.add_zero] at kk0
        exact lv_pop hx hb hdg (by rw [mx_tr_cat]; exact hc) kk0
      · cases hst
    · cases hst
  | dup_x1 =>
    simp only [mx_st1] at hst
    split at hst
    · split at hst
      · rename_i hc
        cases hst
        have kk0 := kk ls H locs hL hR hlo
        rw [Nat.sub_self, Nat.sub_self, Nat.add_zero, Nat.add_zero] at kk0
        exact lv_dup_x1 hx hb hdg (by rw [mx_tr_cat]; exact hc.1) (by rw [mx_tr_cat]; exact hc.2) kk0
      · cases hst
    · cases hst
  | dup_x2 =>
    simp only [mx_st1] at hst
    split at hst
    · split at hst
      · rename_i hc
        cases hst
        have kk0 := kk ls H locs hL hR hlo
        rw [Nat.sub_self, Nat.sub_self, Nat.add_zero, Nat.add_zero] at kk0
        exact lv_dup_x2 hx hb hdg (by rw [mx_tr_cat]; exact hc.1) (by rw [mx_tr_cat]; exact hc.2.1) (by rw [mx_tr_cat]; exact hc.2.2) kk0
      · cases hst
    · cases hst
  | dup2 =>
    simp only [mx_st1] at hst
    split at hst
    · split at hst
      · rename_i hc
        cases hst
        have kk0 := kk ls H locs hL hR hlo
        rw [Nat.sub_self, Nat.sub_self, Nat.add_zero, Nat.add_zero] at kk0
        exact lv_dup2_11 hx hb hdg (by rw [mx_tr_cat]; exact hc.1) (by rw [mx_tr_cat]; exact hc.2) kk0
      · cases hst
    · cases hst
  | ifCond q off =>
    simp only [mx_st1] at hst
    split at hst
    · simp only [Option.map_eq_some_iff] at hst
      obtain ⟨n, hn, hst⟩ := hst
      cases hst
      have ht := mx_br_eq hn
      have kk0 := kk ls H locs hL hR hlo
      rw [Nat.sub_self, Nat.sub_self, Nat.add_zero, Nat.add_zero] at kk0
      cases q with
      | eq => exact lv_if_eq hx hb hdg ht (fun z => by rw [if_pos (by simpa [mx_ci] using z)] at kk0; exact kk0) (fun z => by rw [if_neg (by simpa [mx_ci] using z)] at kk0; exact kk0)
      | ne => exact lv_if_ne hx hb hdg ht (fun z => by rw [if_pos (by simpa [mx_ci] using z)] at kk0; exact kk0) (fun z => by rw [if_neg (by simpa [mx_ci] using z)] at kk0; exact kk0)
      | lt => exact lv_if_lt hx hb hdg ht (fun z => by rw [if_pos (by simpa [mx_ci] using z)] at kk0; exact kk0) (fun z => by rw [if_neg (by simpa [mx_ci] using z)] at kk0; exact kk0)
      | ge => exact lv_if_ge hx hb hdg ht (fun z => by rw [if_pos (by simpa [mx_ci] using z)] at kk0; exact kk0) (fun z => by rw [if_neg (by simpa [mx_ci] using z)] at kk0; exact kk0)
      | gt => exact lv_if_gt hx hb hdg ht (fun z => by rw [if_pos (by simpa [mx_ci] using z)] at kk0; exact kk0) (fun z => by rw [if_neg (by simpa [mx_ci] using z)] at kk0; exact kk0)
      | le => exact lv_if_le hx hb hdg ht (fun z => by rw [if_pos (by simpa [mx_ci] using z)] at kk0; exact kk0) (fun z => by rw [if_neg (by simpa [mx_ci] using z)] at kk0; exact kk0)
    · cases hst
  | if_icmp q off =>
    simp only [mx_st1] at hst
    split at hst
    · simp only [Option.map_eq_some_iff] at hst
      obtain ⟨n, hn, hst⟩ := hst
      cases hst
      have ht := mx_br_eq hn
      have kk0 := kk ls H locs hL hR hlo
      rw [Nat.sub_self, Nat.sub_self, Nat.add_zero, Nat.add_zero] at kk0
      cases q with
      | eq => exact lv_icmp_eq hx hb hdg ht (fun z => by rw [if_pos (by simpa [mx_ci] using z)] at kk0; exact kk0) (fun z => by rw [if_neg (by simpa [mx_ci] using z)] at kk0; exact kk0)
      | ne => exact lv_icmp_ne hx hb hdg ht (fun z => by rw [if_pos (by simpa [mx_ci] using z)] at kk0; exact kk0) (fun z => by rw [if_neg (by simpa [mx_ci] using z)] at kk0; exact kk0)
      | lt => exact lv_icmp_lt hx hb hdg ht (fun z => by rw [if_pos (by simpa [mx_ci] using z)] at kk0; exact kk0) (fun z => by rw [if_neg (by simpa [mx_ci] using z)] at kk0; exact kk0)
      | ge => exact lv_icmp_ge hx hb hdg ht (fun z => by rw [if_pos (by simpa [mx_ci] using z)] at kk0; exact kk0) (fun z => by rw [if_neg (by simpa [mx_ci] using z)] at kk0; exact kk0)
      | gt => exact lv_icmp_gt hx hb hdg ht (fun z => by rw [if_pos (by simpa [mx_ci] using z)] at kk0; exact kk0) (fun z => by rw [if_neg (by simpa [mx_ci] using z)] at kk0; exact kk0)
      | le => exact lv_icmp_le hx hb hdg ht (fun z => by rw [if_pos (by simpa [mx_ci] using z)] at kk0; exact kk0) (fun z => by rw [if_neg (by simpa [mx_ci] using z)] at kk0; exact kk0)
    · cases hst
  | if_acmp q off =>
    simp only [mx_st1] at hst
    split at hst
    · split at hst
      · rename_i hc
        simp only [Option.map_eq_some_iff] at hst
        obtain ⟨n, hn, hst⟩ := hst
        cases hst
        have kk0 := kk ls H locs hL hR hlo
        rw [Nat.sub_self, Nat.sub_self, Nat.add_zero, Nat.add_zero] at kk0
        exact mx_acmp hx hb hal.1 hc hdg (mx_br_eq hn) (fun z => by rw [if_pos z] at kk0; exact kk0) (fun z => by rw [if_neg z] at kk0; exact kk0)
      · cases hst
    · cases hst
  | ifnull off =>
    simp only [mx_st1] at hst
    split at hst
    · simp only [Option.map_eq_some_iff] at hst
      obtain ⟨n, hn, hst⟩ := hst
      cases hst
      have kk0 := kk ls H locs hL hR hlo
      rw [Nat.sub_self, Nat.sub_self, Nat.add_zero, Nat.add_zero] at kk0
      exact lv_ifnullN hx hb hdg (mx_br_eq hn) kk0
    · cases hst
      have kk0 := kk ls H locs hL hR hlo
      rw [Nat.sub_self, Nat.sub_self, Nat.add_zero, Nat.add_zero] at kk0
      exact lv_ifnull hx hb hdg kk0
    · cases hst
  | ifnonnull off =>
    simp only [mx_st1] at hst
    split at hst
    · simp only [Option.map_eq_some_iff] at hst
      obtain ⟨n, hn, hst⟩ := hst
      cases hst
      have kk0 := kk ls H locs hL hR hlo
      rw [Nat.sub_self, Nat.sub_self, Nat.add_zero, Nat.add_zero] at kk0
      exact lv_ifnonnull hx hb hdg (mx_br_eq hn) kk0
    · cases hst
      have kk0 := kk ls H locs hL hR hlo
      rw [Nat.sub_self, Nat.sub_self, Nat.add_zero, Nat.add_zero] at kk0
      exact lv_ifnonnullN hx hb hdg kk0
    · cases hst
  | goto off =>
    simp only [mx_st1, Option.map_eq_some_iff] at hst
    obtain ⟨n, hn, hst⟩ := hst
    cases hst
    have kk0 := kk ls H locs hL hR hlo
    rw [Nat.sub_self, Nat.sub_self, Nat.add_zero, Nat.add_zero] at kk0
    exact lv_goto hx hb hdg (mx_br_eq hn) kk0
  | tableswitch d lo hi offs =>
    simp only [mx_st1] at hst
    split at hst
    · split at hst
      · rename_i hc
        simp only [Option.map_eq_some_iff] at hst
        obtain ⟨n, hn, hst⟩ := hst
        cases hst
        have kk0 := kk ls H locs hL hR hlo
        rw [Nat.sub_self, Nat.sub_self, Nat.add_zero, Nat.add_zero] at kk0
        exact lv_tableOut hx hb hdg hc (mx_br_eq hn) kk0
      · rename_i hc
        simp only [Option.bind_eq_some_iff, Option.map_eq_some_iff] at hst
        obtain ⟨o, ho, n, hn, hst⟩ := hst
        cases hst
        have kk0 := kk ls H locs hL hR hlo
        rw [Nat.sub_self, Nat.sub_self, Nat.add_zero, Nat.add_zero] at kk0
        exact lv_tableIn hx hb hdg (fun z => hc (Or.inl z)) (fun z => hc (Or.inr z)) ho (mx_br_eq hn) kk0
    · cases hst
  | lookupswitch d ps =>
    simp only [mx_st1] at hst
    split at hst
    · split at hst
      · rename_i hc
        simp only [Option.map_eq_some_iff] at hst
        obtain ⟨n, hn, hst⟩ := hst
        cases hst
        have kk0 := kk ls H locs hL hR hlo
        rw [Nat.sub_self, Nat.sub_self, Nat.add_zero, Nat.add_zero] at kk0
        exact lv_lookup hx hb hdg hc rfl (mx_br_eq hn) kk0
      · cases hst
    · cases hst
  | getfield i =>
    simp only [mx_st1, mx_gf] at hst
    split at hst
    · split at hst
      · rename_i ci fs fid ha hfl
        simp only [Option.bind_eq_some_iff] at hst
        obtain ⟨k, hk, v, hv, hst⟩ := hst
        split at hst
        · rename_i hkn
          cases hst
          have kk0 := kk ls H locs hL hR hlo
          rw [Nat.sub_self, Nat.sub_self, Nat.add_zero, Nat.add_zero] at kk0
          obtain ⟨r, hc⟩ := mt_fk_cl hk
          obtain ⟨f1, f2, f3⟩ := mt_fk_ok hk hc
          exact mx_w_get hx hb hal hK hR hown hts ha hc (mt_cls_ok hc).1 f1 (by rw [f2]; exact mt_fl_ok hts hK hfl) hv hkn hdg kk0
        · cases hst
      · cases hst
    · cases hst
  | putfield i =>
    simp only [mx_st1, mx_pf] at hst
    split at hst
    · split at hst
      · rename_i ci fs fid ha hfl
        simp only [Option.bind_eq_some_iff] at hst
        obtain ⟨k, hk, hst⟩ := hst
        split at hst
        · rename_i hc0
          obtain ⟨g1, g2, g3, g4⟩ := hc0
          cases hst
          obtain ⟨r, hc⟩ := mt_fk_cl hk
          obtain ⟨f1, f2, f3⟩ := mt_fk_ok hk hc
          obtain ⟨c1, c2, c3⟩ := mt_cls_ok hc
          refine mx_w_put hx hb hal hK hR hown hts ha (by rw [hnO]; exact g1) hc c1 (mt_ct ci) c2 c3 f1 (by rw [f2]; exact mt_fl_ok hts hK hfl) ?_ (by rw [f3]; exact g2) (by rw [f3]; exact g3) hdg fun H1 i hR1 => ?_
          · rw [f2]
            rcases mt_pf_ok g4 hfl with z | ⟨z1, z2, z3, z4⟩
            · exact Or.inl z
            · exact Or.inr ⟨z1, hini z2, z3, hts _ z4⟩
          · have kk0 := kk ls H1 _ hL hR1 (mx_lo (i := i) hlo (by rw [hal.2.1 _ (by rw [hnO]; exact g1)]; omega))
            rw [List.length_set, mx_tot_set ha (by simp), Nat.sub_self, Nat.sub_self, Nat.add_zero, Nat.add_zero] at kk0
            exact kk0
        · cases hst
      · cases hst
    · cases hst
  | getstatic i =>
    simp only [mx_st1, Option.map_eq_some_iff] at hst
    obtain ⟨v, hv, hst⟩ := hst
    cases hst
    have kk0 := kk ls H locs hL hR hlo
    rw [Nat.sub_self, Nat.sub_self, Nat.add_zero, Nat.add_zero] at kk0
    exact mt_w_gets hx hK hR hb0 hb hown hts hv hdg kk0
  | new i =>
    simp only [mx_st1, Option.map_eq_some_iff] at hst
    obtain ⟨ci, hci, hst⟩ := hst
    cases hst
    obtain ⟨r, hc, n1, n2, n3, n4, n5⟩ := mt_nw_ok hci
    obtain ⟨c1, c2, c3⟩ := mt_cls_ok hc
    rw [mx_tot_app] at hslots kk
    simp only [List.length_append, List.length_cons, List.length_nil, mx_tot, List.map_cons, List.map_nil, List.sum_cons, List.sum_nil] at hcells hslots kk
    refine mx_w_new hx hb hal hK hR hown hts hc c1 (mt_ct ci) c2 n1 n2 n3 n4 (fun j hj => ?_) (by omega) (by omega) hdg fun H1 hR1 => ?_
    · rw [n5 j hj]
      exact (mx_tr_default al (mt_ct ci j) (n5 j hj)).symm
    · have kk0 := kk ls H1 locs hL hR1 hlo
      rw [show h.length + (0 + 1) - h.length = 1 by omega, show (h.map fun q => q.2.length).sum + ((mt_df ci).length + 0) - (h.map fun q => q.2.length).sum = (mt_df ci).length by omega, n4] at kk0
      exact kk0
  | newarray t =>
    simp only [mx_st1] at hst
    split at hst
    · rename_i hna
      simp only [mx_na] at hst
      split at hst
      · split at hst
        · cases hst
        · rename_i hj
          cases hst
          obtain ⟨a1, a2, a3, a4⟩ := mt_na_ok hna
          rw [mx_tot_app] at hslots kk
          simp only [List.length_append, List.length_cons, List.length_nil, mx_tot, List.map_cons, List.map_nil, List.sum_cons, List.sum_nil, List.length_replicate] at hcells hslots kk
          refine mx_w_newa hx hb hal hK hR rfl a1 (hts _ a2) (fun z => hj (Or.inl z)) rfl (Nat.le_trans (Nat.mul_le_mul_left _ a3) (by have : ¬ 1000000 < _ := fun z => hj (Or.inr z); omega)) (by omega) (by omega) a4 hdg fun H1 hR1 => ?_
          have kk0 := kk ls H1 locs hL hR1 hlo
          rw [show h.length + (0 + 1) - h.length = 1 by omega, Nat.add_zero, Nat.add_sub_cancel_left] at kk0
          exact kk0
      · cases hst
    · cases hst
  | anewarray i =>
    simp only [mx_st1, Option.bind_eq_some_iff] at hst
    obtain ⟨C, hC, hst⟩ := hst
    simp only [mx_na] at hst
    split at hst
    · split at hst
      · cases hst
      · rename_i hj
        cases hst
        obtain ⟨a1, a2, a3⟩ := mt_an_ok hK hC
        rw [mx_tot_app] at hslots kk
        simp only [List.length_append, List.length_cons, List.length_nil, mx_tot, List.map_cons, List.map_nil, List.sum_cons, List.sum_nil, List.length_replicate] at hcells hslots kk
        refine mx_w_newq hx hb hal hK hR hown a1 (hts _ a2) a3 (fun z => hj (Or.inl z)) rfl (by have : ¬ 1000000 < _ := fun z => hj (Or.inr z); omega) (by omega) (by omega) hdg fun H1 hR1 => ?_
        have kk0 := kk ls H1 locs hL hR1 hlo
        rw [show h.length + (0 + 1) - h.length = 1 by omega, Nat.add_zero, Nat.add_sub_cancel_left] at kk0
        exact kk0
    · cases hst
  | arraylength =>
    simp only [mx_st1] at hst
    split at hst
    · split at hst
      · rename_i ha
        cases hst
        have kk0 := kk ls H locs hL hR hlo
        rw [Nat.sub_self, Nat.sub_self, Nat.add_zero, Nat.add_zero] at kk0
        exact mx_w_alen hx hb hal hK hR ha hdg kk0
      · cases hst
    · cases hst
  | iaload =>
    simp only [mx_st1, mx_ld] at hst
    split at hst
    · split at hst
      · rename_i ha
        split at hst
        · rename_i ho
          simp only [Option.bind_eq_some_iff, Option.map_eq_some_iff] at hst
          obtain ⟨k, hk, v, hv, hst⟩ := hst
          cases hst
          have kk0 := kk ls H locs hL hR hlo
          rw [Nat.sub_self, Nat.sub_self, Nat.add_zero, Nat.add_zero] at kk0
          exact mx_w_ald hx hb hal hK hR ha hk hv (Or.inl ⟨rfl, by simpa using ho⟩) hdg kk0
        · cases hst
      · cases hst
    · cases hst
  | caload =>
    simp only [mx_st1, mx_ld] at hst
    split at hst
    · split at hst
      · rename_i ha
        split at hst
        · rename_i ho
          simp only [Option.bind_eq_some_iff, Option.map_eq_some_iff] at hst
          obtain ⟨k, hk, v, hv, hst⟩ := hst
          cases hst
          have kk0 := kk ls H locs hL hR hlo
          rw [Nat.sub_self, Nat.sub_self, Nat.add_zero, Nat.add_zero] at kk0
          exact mx_w_ald hx hb hal hK hR ha hk hv (Or.inr (Or.inl ⟨rfl, by simpa using ho⟩)) hdg kk0
        · cases hst
      · cases hst
    · cases hst
  | baload =>
    simp only [mx_st1, mx_ld] at hst
    split at hst
    · split at hst
      · rename_i ha
        split at hst
        · rename_i ho
          simp only [Option.bind_eq_some_iff, Option.map_eq_some_iff] at hst
          obtain ⟨k, hk, v, hv, hst⟩ := hst
          cases hst
          have kk0 := kk ls H locs hL hR hlo
          rw [Nat.sub_self, Nat.sub_self, Nat.add_zero, Nat.add_zero] at kk0
          exact mx_w_ald hx hb hal hK hR ha hk hv (by simp only [Bool.or_eq_true, beq_iff_eq] at ho; rcases ho with z | z <;> simp [z]) hdg kk0
        · cases hst
      · cases hst
    · cases hst
  | aaload =>
    simp only [mx_st1, mx_ld] at hst
    split at hst
    · split at hst
      · rename_i ha
        split at hst
        · rename_i ho
          simp only [Option.bind_eq_some_iff, Option.map_eq_some_iff] at hst
          obtain ⟨k, hk, v, hv, hst⟩ := hst
          cases hst
          have kk0 := kk ls H locs hL hR hlo
          rw [Nat.sub_self, Nat.sub_self, Nat.add_zero, Nat.add_zero] at kk0
          exact mx_w_ald hx hb hal hK hR ha hk hv (Or.inr (Or.inr (Or.inr (Or.inr (Or.inl ⟨rfl, ho⟩))))) hdg kk0
        · cases hst
      · cases hst
    · cases hst
  | iastore =>
    simp only [mx_st1, mx_st] at hst
    split at hst
    · split at hst
      · rename_i ha
        split at hst
        · rename_i ho
          simp only [Option.map_eq_some_iff] at hst
          obtain ⟨k, hk, hst⟩ := hst
          cases hst
          refine mx_w_ast hx hb hal hK hR ha (by rw [hnO]; exact ho.2) hk (Or.inl ⟨rfl, by simpa using ho.1⟩) hdg fun H1 i hR1 => ?_
          have kk0 := kk ls H1 _ hL hR1 (mx_lo (i := i) hlo (by rw [hal.2.1 _ (by rw [hnO]; exact ho.2)]; omega))
          rw [List.length_set, mx_tot_set ha (by simp), Nat.sub_self, Nat.sub_self, Nat.add_zero, Nat.add_zero] at kk0
          exact kk0
        · cases hst
      · cases hst
    · cases hst
  | castore =>
    simp only [mx_st1, mx_st] at hst
    split at hst
    · split at hst
      · rename_i ha
        split at hst
        · rename_i ho
          simp only [Option.map_eq_some_iff] at hst
          obtain ⟨k, hk, hst⟩ := hst
          cases hst
          refine mx_w_ast hx hb hal hK hR ha (by rw [hnO]; exact ho.2) hk (Or.inr (Or.inl ⟨rfl, by simpa using ho.1⟩)) hdg fun H1 i hR1 => ?_
          have kk0 := kk ls H1 _ hL hR1 (mx_lo (i := i) hlo (by rw [hal.2.1 _ (by rw [hnO]; exact ho.2)]; omega))
          rw [List.length_set, mx_tot_set ha (by simp), Nat.sub_self, Nat.sub_self, Nat.add_zero, Nat.add_zero] at kk0
          exact kk0
        · cases hst
      · cases hst
    · cases hst
  | bastore =>
    simp only [mx_st1, mx_st] at hst
    split at hst
    · split at hst
      · rename_i ha
        split at hst
        · rename_i ho
          simp only [Option.map_eq_some_iff] at hst
          obtain ⟨k, hk, hst⟩ := hst
          cases hst
          refine mx_w_ast hx hb hal hK hR ha (by rw [hnO]; exact ho.2) hk (by have ho := ho.1; simp only [Bool.or_eq_true, beq_iff_eq] at ho; rcases ho with z | z <;> simp [z]) hdg fun H1 i hR1 => ?_
          have kk0 := kk ls H1 _ hL hR1 (mx_lo (i := i) hlo (by rw [hal.2.1 _ (by rw [hnO]; exact ho.2)]; omega))
          rw [List.length_set, mx_tot_set ha (by simp), Nat.sub_self, Nat.sub_self, Nat.add_zero, Nat.add_zero] at kk0
          exact kk0
        · cases hst
      · cases hst
    · cases hst
  | aastore =>
    simp only [mx_st1, mx_sr] at hst
    split at hst
    · split at hst
      · rename_i ha
        split at hst
        · rename_i ho
          simp only [Option.map_eq_some_iff] at hst
          obtain ⟨k, hk, hst⟩ := hst
          cases hst
          refine mx_w_astN hx hb hal hK hR ha (by rw [hnO]; exact ho) hk hdg fun H1 i hR1 => ?_
          have kk0 := kk ls H1 _ hL hR1 (mx_lo (i := i) hlo (by rw [hal.2.1 _ (by rw [hnO]; exact ho)]; omega))
          rw [List.length_set, mx_tot_set ha (by simp), Nat.sub_self, Nat.sub_self, Nat.add_zero, Nat.add_zero] at kk0
          exact kk0
        · cases hst
      · cases hst
    · split at hst
      · rename_i ha hv
        split at hst
        · rename_i ho
          simp only [Option.map_eq_some_iff] at hst
          obtain ⟨k, hk, hst⟩ := hst
          cases hst
          obtain ⟨hcl, has⟩ := mt_as_ok hK ho.2
          refine mx_w_astR hx hb hal hK hR ha (by rw [hnO]; exact ho.1) hk hv hcl has hdg fun H1 i hR1 => ?_
          have kk0 := kk ls H1 _ hL hR1 (mx_lo (i := i) hlo (by rw [hal.2.1 _ (by rw [hnO]; exact ho.1)]; omega))
          rw [List.length_set, mx_tot_set ha (by simp), Nat.sub_self, Nat.sub_self, Nat.add_zero, Nat.add_zero] at kk0
          exact kk0
        · cases hst
      · cases hst
    · cases hst
  | checkcast i =>
    simp only [mx_st1] at hst
    split at hst
    · cases hst
      have kk0 := kk ls H locs hL hR hlo
      rw [Nat.sub_self, Nat.sub_self, Nat.add_zero, Nat.add_zero] at kk0
      exact lv_castN hx hb hdg kk0
    · split at hst
      · rename_i ha
        split at hst
        · rename_i hc
          cases hst
          have kk0 := kk ls H locs hL hR hlo
          rw [Nat.sub_self, Nat.sub_self, Nat.add_zero, Nat.add_zero] at kk0
          exact mt_w_cast hx hal hK hR hb hown hts ha hc hdg kk0
        · cases hst
      · cases hst
    · cases hst
  | instanceof i =>
    simp only [mx_st1] at hst
    split at hst
    · cases hst
      have kk0 := kk ls H locs hL hR hlo
      rw [Nat.sub_self, Nat.sub_self, Nat.add_zero, Nat.add_zero] at kk0
      exact lv_instN hx hb hdg kk0
    · split at hst
      · rename_i ha
        simp only [Option.map_eq_some_iff] at hst
        obtain ⟨z, hz, hst⟩ := hst
        cases hst
        have kk0 := kk ls H locs hL hR hlo
        rw [Nat.sub_self, Nat.sub_self, Nat.add_zero, Nat.add_zero] at kk0
        exact mt_w_inst hx hal hK hR hb hown hts ha hz hdg kk0
      · cases hst
    · cases hst
  | ldc2_w i =>
    simp only [mx_st1, Option.map_eq_some_iff] at hst
    obtain ⟨v, hv, hst⟩ := hst
    cases hst
    have kk0 := kk ls H locs hL hR hlo
    rw [Nat.sub_self, Nat.sub_self, Nat.add_zero, Nat.add_zero] at kk0
    exact mt_w_ldc2 hx hb hown hts hv hdg kk0
  | lconst k =>
    simp only [mx_st1] at hst
    cases hst
    have kk0 := kk ls H locs hL hR hlo
    rw [Nat.sub_self, Nat.sub_self, Nat.add_zero, Nat.add_zero] at kk0
    exact lv_lconst hx hb hdg rfl kk0
  | lload i =>
    simp only [mx_st1, Option.map_eq_some_iff] at hst
    obtain ⟨v, hv, hst⟩ := hst
    cases hst
    have kk0 := kk ls H locs hL hR hlo
    rw [Nat.sub_self, Nat.sub_self, Nat.add_zero, Nat.add_zero] at kk0
    exact lv_lload hx hb hdg (hL.at (mx_lo8_at hv)) kk0
  | lload_n k =>
    simp only [mx_st1, Option.map_eq_some_iff] at hst
    obtain ⟨v, hv, hst⟩ := hst
    cases hst
    have kk0 := kk ls H locs hL hR hlo
    rw [Nat.sub_self, Nat.sub_self, Nat.add_zero, Nat.add_zero] at kk0
    exact lv_lload_n hx hb hdg rfl (hL.at (mx_lo8_at hv)) kk0
  | lstore i =>
    simp only [mx_st1, mx_sl8] at hst
    split at hst
    · split at hst
      · rename_i hlt
        cases hst
        refine lv_lstore hx hb hdg hL.2 (by rw [← hL.1]; exact hlt) rfl fun ls' h' => ?_
        have kk0 := kk ls' H locs (hL.set2 (by rw [← hL.1]; exact hlt) h') hR hlo
        rw [Nat.sub_self, Nat.sub_self, Nat.add_zero, Nat.add_zero] at kk0
        exact kk0
      · cases hst
    · cases hst
  | lstore_n k =>
    simp only [mx_st1, mx_sl8] at hst
    split at hst
    · split at hst
      · rename_i hlt
        cases hst
        refine lv_lstore_n hx hb hdg rfl hL.2 (by rw [← hL.1]; exact hlt) rfl fun ls' h' => ?_
        have kk0 := kk ls' H locs (hL.set2 (by rw [← hL.1]; exact hlt) h') hR hlo
        rw [Nat.sub_self, Nat.sub_self, Nat.add_zero, Nat.add_zero] at kk0
        exact kk0
      · cases hst
    · cases hst
  | ladd =>
    simp only [mx_st1, mx_l2] at hst
    split at hst
    · cases hst
      have kk0 := kk ls H locs hL hR hlo
      rw [Nat.sub_self, Nat.sub_self, Nat.add_zero, Nat.add_zero] at kk0
      exact lv_ladd hx hb hdg kk0
    · cases hst
  | lsub =>
    simp only [mx_st1, mx_l2] at hst
    split at hst
    · cases hst
      have kk0 := kk ls H locs hL hR hlo
      rw [Nat.sub_self, Nat.sub_self, Nat.add_zero, Nat.add_zero] at kk0
      exact lv_lsub hx hb hdg kk0
    · cases hst
  | lmul =>
    simp only [mx_st1, mx_l2] at hst
    split at hst
    · cases hst
      have kk0 := kk ls H locs hL hR hlo
      rw [Nat.sub_self, Nat.sub_self, Nat.add_zero, Nat.add_zero] at kk0
      exact lv_lmul hx hb hdg kk0
    · cases hst
  | ldiv =>
    simp only [mx_st1, mx_m2] at hst
    split at hst
    · split at hst
      · cases hst
      · rename_i hne
        cases hst
        have kk0 := kk ls H locs hL hR hlo
        rw [Nat.sub_self, Nat.sub_self, Nat.add_zero, Nat.add_zero] at kk0
        exact lv_ldiv hx hb hdg hne kk0
    · cases hst
  | lrem =>
    simp only [mx_st1, mx_m2] at hst
    split at hst
    · split at hst
      · cases hst
      · rename_i hne
        cases hst
        have kk0 := kk ls H locs hL hR hlo
        rw [Nat.sub_self, Nat.sub_self, Nat.add_zero, Nat.add_zero] at kk0
        exact lv_lrem hx hb hdg hne kk0
    · cases hst
  | lneg =>
    simp only [mx_st1] at hst
    split at hst
    · cases hst
      have kk0 := kk ls H locs hL hR hlo
      rw [Nat.sub_self, Nat.sub_self, Nat.add_zero, Nat.add_zero] at kk0
      exact lv_lneg hx hb hdg kk0
    · cases hst
  | lcmp =>
    simp only [mx_st1] at hst
    split at hst
    · cases hst
      have kk0 := kk ls H locs hL hR hlo
      rw [Nat.sub_self, Nat.sub_self, Nat.add_zero, Nat.add_zero] at kk0
      exact W.lcmp hx hb hdg kk0
    · cases hst
  | i2l =>
    simp only [mx_st1] at hst
    split at hst
    · cases hst
      have kk0 := kk ls H locs hL hR hlo
      rw [Nat.sub_self, Nat.sub_self, Nat.add_zero, Nat.add_zero] at kk0
      exact lv_i2l hx hb hdg rfl kk0
    · cases hst
  | l2i =>
    simp only [mx_st1] at hst
    split at hst
    · cases hst
      have kk0 := kk ls H locs hL hR hlo
      rw [Nat.sub_self, Nat.sub_self, Nat.add_zero, Nat.add_zero] at kk0
      exact lv_l2i hx hb hdg rfl kk0
    · cases hst
  | laload =>
    simp only [mx_st1, mx_ld] at hst
    split at hst
    · split at hst
      · rename_i ha
        split at hst
        · rename_i ho
          simp only [Option.bind_eq_some_iff, Option.map_eq_some_iff] at hst
          obtain ⟨k, hk, v, hv, hst⟩ := hst
          cases hst
          have kk0 := kk ls H locs hL hR hlo
          rw [Nat.sub_self, Nat.sub_self, Nat.add_zero, Nat.add_zero] at kk0
          exact mx_w_ald hx hb hal hK hR ha hk hv (Or.inr (Or.inr (Or.inr (Or.inr (Or.inr ⟨rfl, by simpa using ho⟩))))) hdg kk0
        · cases hst
      · cases hst
    · cases hst
  | lastore =>
    simp only [mx_st1] at hst
    split at hst
    · split at hst
      · rename_i ha
        split at hst
        · rename_i ho
          simp only [Option.map_eq_some_iff] at hst
          obtain ⟨k, hk, hst⟩ := hst
          cases hst
          refine mx_w_last hx hb hal hK hR ha (by rw [hnO]; exact ho) hk hdg fun H1 i hR1 => ?_
          have kk0 := kk ls H1 _ hL hR1 (mx_lo (i := i) hlo (by rw [hal.2.1 _ (by rw [hnO]; exact ho)]; omega))
          rw [List.length_set, mx_tot_set ha (by simp), Nat.sub_self, Nat.sub_self, Nat.add_zero, Nat.add_zero] at kk0
          exact kk0
        · cases hst
      · cases hst
    · cases hst
  | _ => simp only [mx_st1] at hst; cases hst
end MXS
