section MXR
variable {p : Program} {l : Launch} {e : Env} {R : Room} {s : State} {m : MethodId} {args : Array Value} {below : List Frame} {meth : Method} {c : Code} {H : Heap} {locs : List Loc} {cells slots : Nat}
variable {D : va_G} {dA : FieldType → ClassId} {al : mx_A} {b : Nat} {H0 : Heap} {olds : mx_H}
theorem mx_w_ret {mi pc : Nat} {ins : Jvm.ClassFile.Instr} {st : List Value} {h : mx_H} {ls : Array Slot} {rv : Option Value} (hS : mx_Std p s m args meth c mi D dA al b H0 olds) (hdg : decode (mt_by mi) pc = .ok (ins, mx_len pc ins)) (hR : mx_R D dA al b H0 olds h H) (hlo : ∀ q ∈ locs, b ≤ q.base) (hrt : mx_ret mi ins st = some rv) :
    W p l e R s m args below meth c H locs cells slots (MQ below (mx_Q D dA al b H0 olds rv h) args s cells slots (fun q => b ≤ q)) (F0 m pc ls (st.map (mx_tr al))) := by
  obtain ⟨hx, hb, hml, hown, hts, hret, hlocks, hini, hK⟩ := hS
  have hq : ∀ (r : Option Value) (t : State), t.heap = H → s.WarmedH t.vm → mx_Q D dA al b H0 olds r h args s (.returned (r.map (mx_tr al))) t := fun r t ht _ => ⟨rfl, by rw [ht]; exact hR⟩
  cases ins with
  | ireturn =>
    simp only [mx_ret] at hrt
    split at hrt
    · rename_i x ty hty
      split at hrt
      · rename_i hn
        cases hrt
        exact W.zret hx hb (hret.trans hty) hn (hq (some (.int x))) hlo hdg hlocks
      · cases hrt
    · cases hrt
  | lreturn =>
    simp only [mx_ret] at hrt
    split at hrt
    · rename_i x hty
      cases hrt
      exact W.lret hx hb (hret.trans hty) (hq (some (.long x))) hlo hdg hlocks
    · cases hrt
  | areturn =>
    simp only [mx_ret] at hrt
    split at hrt
    · rename_i v ty hty
      split at hrt
      · rename_i hn
        cases hrt
        refine W.aret hx hb (hret.trans hty) ?_ ?_ (hq (some v)) hlo hdg hlocks
        · have h2 := hn.2
          cases ty <;> first | exact Or.inl ⟨_, rfl⟩ | exact Or.inr ⟨_, rfl⟩ | cases h2
        · have h1 := hn.1
          cases v <;> first | exact Or.inl rfl | exact Or.inr ⟨_, rfl⟩ | cases h1
      · cases hrt
    · cases hrt
  | return_ =>
    simp only [mx_ret] at hrt
    split at hrt
    · rename_i hty
      cases hrt
      exact W.vret hx hb (hret.trans hty) (hq none) hlo hdg hlocks
    · cases hrt
  | _ => simp only [mx_ret] at hrt; cases hrt
theorem mx_w_nat {Q : State → Prop} {mi pc w : Nat} {ins : Jvm.ClassFile.Instr} {st st1 : List Value} {h h1 : mx_H} {ls : Array Slot} (hS : mx_Std p s m args meth c mi D dA al b H0 olds) (hdg : decode (mt_by mi) pc = .ok (ins, mx_len pc ins)) (hR : mx_R D dA al b H0 olds h H) (hlo : ∀ q ∈ locs, b ≤ q.base) (hls : ls.size = mt_mL mi) (hal : mx_al al b olds.length) (hnO : olds.length = mt_nO) (hnt : mx_nat mi ins st h = some (w, st1, h1)) (hwt : mx_wt st ≤ 9) (hfr : 1 ≤ R.frames) (hlc : 40 ≤ R.locals) (hcs : cells + (h1.length - h.length) ≤ R.cells) (hss : slots + (mx_tot h1 - mx_tot h) ≤ R.slots)
    (kk : ∀ (H' : Heap) (locs' : List Loc), mx_R D dA al b H0 olds h1 H' → (∀ q ∈ locs', b ≤ q.base) → W p l e R s m args below meth c H' locs' (cells + (h1.length - h.length)) (slots + (mx_tot h1 - mx_tot h)) Q (F0 m (pc + w) ls (st1.map (mx_tr al)))) :
    W p l e R s m args below meth c H locs cells slots Q (F0 m pc ls (st.map (mx_tr al))) := by
  obtain ⟨hx, hb, hml, hown, hts, hret, hlocks, hini, hK⟩ := hS
  cases ins with
  | invokespecial i =>
    simp only [mx_nat] at hnt
    split at hnt
    · rename_i hoi
      split at hnt
      · rename_i a r
        cases hnt
        have kk0 := kk H locs hR hlo
        rw [Nat.sub_self, Nat.sub_self, Nat.add_zero, Nat.add_zero] at kk0
        unfold mt_oi at hoi
        obtain ⟨u, hu⟩ := Option.isSome_iff_exists.mp hoi
        obtain ⟨Q0, hQ⟩ := mt_row_q hu (by decide)
        obtain ⟨ho, how⟩ := mt_own_ow hQ
        have hall := mt_ow__all (mt_o mi) ho
        rw [how] at hall
        have hl := hall _ (mx_flat_mem (mt_row_mem hu) (by unfold mx_oiw; exact List.mem_cons_self))
        refine W.objInit hx hb hown (hts _ (mt_inT hl rfl)) (hts _ (mt_inT (mt_oiw2 _ List.mem_cons_self) rfl)) (hts _ (mt_inT (mt_oiw2 _ (List.mem_cons_of_mem _ List.mem_cons_self)) rfl)) rfl (by rw [hml]; exact hls) rfl hdg hfr ?_ kk0
        have h8 : mx_wt st1 ≤ 8 := by
          simp only [mx_wt, List.map_cons, List.sum_cons, Value.category] at hwt ⊢
          omega
        have := mx_wt_room (m := m) (al := al) (pc := pc) (ls := ls) (st := (Value.ref a :: st1).map (mx_tr al)) h8
        omega
      · cases hnt
    · cases hnt
  | invokestatic i =>
    simp only [mx_nat] at hnt
    split at hnt
    · rename_i hac
      unfold mx_acp at hnt
      split at hnt
      · rename_i n dp a sp a0 r
        split at hnt
        · rename_i t0 vs t1 ws ha0 ha
          split at hnt
          · rename_i hc
            obtain ⟨rfl, c1, c2, c3, c4, c5, c6, c7⟩ := hc
            cases hnt
            have hlen : (mx_cpy vs ws sp.toNatClampNeg dp.toNatClampNeg n.toNatClampNeg).length = ws.length := mx_cpy_len _ _ _ _ _
            have hna : olds.length ≤ a := by rw [hnO]; exact c1
            have hw := mt_ncp
            have hl := hw _ (List.mem_append.mpr (Or.inl (List.mem_map.mpr ⟨_, hac, rfl⟩)))
            have hmo : s.vm.findClass (mt_ow.getD (mt_o mi) "") = some m.cls := by
              rw [mt_own_o mi (fun h => by rw [h] at hac; simp [mt_AC, mt_GC, mt_KM] at hac)]
              exact hown
            refine mx_w_copy hx hb (by rw [hml]; exact hls.symm) hmo (hts _ (mt_inT hl rfl)) (hts _ (mt_inT (hw _ (List.mem_append.mpr (Or.inr List.mem_cons_self))) rfl)) (hts _ (mt_inT (hw _ (List.mem_append.mpr (Or.inr (List.mem_cons_of_mem _ List.mem_cons_self)))) rfl)) (hts _ (mt_inT (hw _ (List.mem_append.mpr (Or.inr (List.mem_cons_of_mem _ (List.mem_cons_of_mem _ List.mem_cons_self))))) rfl)) hal hK hR ha0 ha hna c2 c3 c4 c5 c6 c7 hfr ?_ hdg fun H' locs' hR' hlo' => ?_
            · have h8 : mx_wt st1 ≤ 8 := by
                simp only [mx_wt, List.map_cons, List.sum_cons, Value.category] at hwt ⊢
                omega
              have := mx_wt_room (m := m) (al := al) (pc := pc) (ls := ls) (st := []) h8
              have e0 : 2 * (F0 m pc ls []).monitorRoom = 0 := rfl
              have e1 : nativeFrameWords "java/lang/System" "arraycopy" 5 = 7 := by decide
              omega
            · have kk0 := kk H' locs' hR' (fun q hq => (hlo' q hq).elim (hlo q) (fun e => by rw [e, hal.2.1 a hna]; omega))
              rw [mx_tot_set ha hlen, List.length_set, Nat.sub_self, Nat.sub_self, Nat.add_zero, Nat.add_zero] at kk0
              exact kk0
          · cases hnt
        · cases hnt
      · cases hnt
    · cases hnt
  | invokevirtual i =>
    simp only [mx_nat] at hnt
    split at hnt
    · rename_i hac
      unfold mx_gcl at hnt
      split at hnt
      · rename_i a r
        split at hnt
        · rename_i ty vs ha
          split at hnt
          · rename_i hc
            obtain ⟨rfl, c1⟩ := hc
            cases hnt
            have hna : olds.length ≤ a := by rw [hnO]; exact c1
            have kk0 := kk H locs hR hlo
            rw [Nat.sub_self, Nat.sub_self, Nat.add_zero, Nat.add_zero] at kk0
            have hw := mt_gcw
            have hl := hw _ (List.mem_append.mpr (Or.inl (List.mem_map.mpr ⟨_, hac, rfl⟩)))
            have hmo : s.vm.findClass (mt_ow.getD (mt_o mi) "") = some m.cls := by
              rw [mt_own_o mi (fun h => by rw [h] at hac; simp [mt_AC, mt_GC, mt_KM] at hac)]
              exact hown
            obtain ⟨hin0, g1⟩ := hR.2.2.2.2 a _ hna ha
            obtain ⟨kA, comp, k1, k2, k3, k4⟩ := (hK.2.1 _ hin0).2
            refine va_getC hx hb (by rw [hml]; exact hls.symm) hmo (hts _ (mt_inT hl rfl)) (va_Dc.use hK.2.2.2.2.2.2.2.2.2) (hts _ (mt_inT (hw _ (List.mem_append.mpr (Or.inr List.mem_cons_self))) rfl)) (hts _ (mt_inT (hw _ (List.mem_append.mpr (Or.inr (List.mem_cons_of_mem _ List.mem_cons_self)))) rfl)) (hts _ (mt_inT (hw _ (List.mem_append.mpr (Or.inr (List.mem_cons_of_mem _ (List.mem_cons_of_mem _ List.mem_cons_self))))) rfl)) hK.2.2.2.2.2.2.2.2.1 ⟨_, g1, rfl, k4⟩ hfr ?_ hdg kk0
            have h8 : mx_wt r ≤ 8 := by
              simp only [mx_wt, List.map_cons, List.sum_cons, Value.category] at hwt ⊢
              omega
            have := mx_wt_room (m := m) (al := al) (pc := pc) (ls := ls) (st := []) h8
            omega
          · cases hnt
        · cases hnt
      · cases hnt
    · split at hnt
      · rename_i hgc hac
        unfold mx_cln at hnt
        split at hnt
        · rename_i a r
          split at hnt
          · rename_i vs ha
            split at hnt
            · rename_i hc
              obtain ⟨c1, c2⟩ := hc
              cases hnt
              have hna : olds.length ≤ a := by rw [hnO]; exact c1
              have e1 : (h ++ [((.inr .byte : Nat ⊕ FieldType), vs)]).length - h.length = 1 := by rw [List.length_append]; simp
              have e2 : mx_tot (h ++ [((.inr .byte : Nat ⊕ FieldType), vs)]) - mx_tot h = vs.length := by
                rw [mx_tot_app]
                simp [mx_tot]
              rw [e1] at hcs
              rw [e2] at hss
              have hmo : s.vm.findClass (mt_ow.getD (mt_o mi) "") = some m.cls := by
                rw [mt_own_o mi (fun h => by rw [h] at hac; simp [mt_CL] at hac)]
                exact hown
              have hmi : mt_o mi = 16 ∧ i = 310 := by simpa [mt_CL] using hac
              obtain ⟨m1, m2⟩ := hmi
              subst m2
              rw [m1] at hmo
              refine mx_w_clone hx hb (by rw [hml]; exact hls.symm) hmo (hts _ (mt_inT (mt_clw _ List.mem_cons_self) rfl)) (hts _ (mt_inT (mt_clw _ (List.mem_cons_of_mem _ List.mem_cons_self)) rfl)) (hts _ (mt_inT (mt_clw _ (List.mem_cons_of_mem _ (List.mem_cons_of_mem _ List.mem_cons_self))) rfl)) (hts _ (mt_inT (mt_clw _ (List.mem_cons_of_mem _ (List.mem_cons_of_mem _ (List.mem_cons_of_mem _ List.mem_cons_self)))) rfl)) (hts _ (mt_inT (mt_clw _ (List.mem_cons_of_mem _ (List.mem_cons_of_mem _ (List.mem_cons_of_mem _ (List.mem_cons_of_mem _ List.mem_cons_self))))) rfl)) (hK.2.2.2.2.2.1 _ (mt_inN (mt_clw _ (List.mem_cons_of_mem _ (List.mem_cons_of_mem _ (List.mem_cons_of_mem _ (List.mem_cons_of_mem _ (List.mem_cons_of_mem _ List.mem_cons_self)))))) rfl)) hal hK hR ha hna c2 hfr ?_ hcs hss hdg fun H1 hR1 => ?_
              · have h8 : mx_wt r ≤ 8 := by
                  simp only [mx_wt, List.map_cons, List.sum_cons, Value.category] at hwt ⊢
                  omega
                have := mx_wt_room (m := m) (al := al) (pc := pc) (ls := ls) (st := []) h8
                have e0 : 2 * (F0 m pc ls []).monitorRoom = 0 := rfl
                omega
              · have kk0 := kk H1 locs hR1 hlo
                rw [e1, e2] at kk0
                exact kk0
            · cases hnt
          · cases hnt
        · cases hnt
      · cases hnt
  | checkcast i =>
    simp only [mx_nat] at hnt
    split at hnt
    · rename_i a hb0
      split at hnt
      · rename_i hc
        obtain ⟨hac, c1⟩ := hc
        cases hnt
        have hna : olds.length ≤ a := by rw [hnO]; exact c1
        have kk0 := kk H locs hR hlo
        rw [Nat.sub_self, Nat.sub_self, Nat.add_zero, Nat.add_zero] at kk0
        unfold mx_bca at hb0
        split at hb0
        · rename_i a' r'
          split at hb0
          · rename_i vs ha
            cases hb0
            have hmo : s.vm.findClass (mt_ow.getD (mt_o mi) "") = some m.cls := by
              rw [mt_own_o mi (fun h => by rw [h] at hac; simp [mt_BC] at hac)]
              exact hown
            have hmi : mt_o mi = 16 ∧ i = 311 := by simpa [mt_BC] using hac
            obtain ⟨m1, m2⟩ := hmi
            subst m2
            rw [m1] at hmo
            exact mx_w_castB hx hb hmo (hts _ (mt_inT (mt_clw _ (List.mem_cons_of_mem _ (List.mem_cons_of_mem _ (List.mem_cons_of_mem _ (List.mem_cons_of_mem _ (List.mem_cons_of_mem _ (List.mem_cons_of_mem _ List.mem_cons_self))))))) rfl)) hK hR ha hna hdg kk0
          · cases hb0
        · cases hb0
      · cases hnt
    · cases hnt
  | ldc i =>
    simp only [mx_nat] at hnt
    split at hnt
    · rename_i hac
      cases hnt
      have kk0 := kk H locs hR hlo
      rw [Nat.sub_self, Nat.sub_self, Nat.add_zero, Nat.add_zero] at kk0
      have hl := mt_kmw _ (List.mem_map.mpr ⟨_, hac, rfl⟩)
      have hmo : s.vm.findClass (mt_ow.getD (mt_o mi) "") = some m.cls := by
        rw [mt_own_o mi (fun h => by rw [h] at hac; simp [mt_AC, mt_GC, mt_KM] at hac)]
        exact hown
      exact va_ldcM hx hb hmo (hts _ (mt_inT hl rfl)) hK.2.2.2.2.2.2.2.2.1 hdg kk0
    · cases hnt
  | _ => simp only [mx_nat] at hnt; cases hnt
set_option maxHeartbeats 4000000 in
theorem mx_sim (l : Launch) (D : va_G) (dA : FieldType → ClassId) (al : mx_A) (b : Nat) (H0 : Heap) (olds : mx_H) (hal : mx_al al b olds.length) (hnO : olds.length = mt_nO) (hb0 : b = H0.size) : ∀ (n d mi pc : Nat) (L : mx_L) (st : List Value) (h : mx_H) (rv : Option Value) (h1 : mx_H), mx_run n d mi pc L st h = some (rv, h1) →
    ∀ (p : Program) (e : Env) (R : Room) (s : State) (m : MethodId) (args : Array Value) (below : List Frame) (meth : Method) (c : Code) (H : Heap) (locs : List Loc) (cells slots mc ms : Nat) (ls : Array Slot),
    mx_Std p s m args meth c mi D dA al b H0 olds → mx_RL al ls (mt_mL mi) L → mx_R D dA al b H0 olds h H → (∀ q ∈ locs, b ≤ q.base) → d ≤ R.frames → 40 * d ≤ R.locals → cells + (h1.length - h.length) = mc → slots + (mx_tot h1 - mx_tot h) = ms → mc ≤ R.cells → ms ≤ R.slots →
    W p l e R s m args below meth c H locs cells slots (MQ below (mx_Q D dA al b H0 olds rv h1) args s mc ms (fun q => b ≤ q)) (F0 m pc ls (st.map (mx_tr al))) := by
  intro n
  induction n with
  | zero => intro d mi pc L st h rv h1 hr; simp only [mx_run] at hr; cases hr
  | succ n ih =>
    intro d mi pc L st h rv h1 hr p e R s m args below meth c H locs cells slots mc ms ls hS hL hR hlo hfr hlc emc ems hmc hms
    simp only [mx_run] at hr
    split at hr
    · cases hr
    · rename_i ins hins
      have hdg := mt_dec hins
      split at hr
      · rename_i rv' hrt
        cases hr
        rw [Nat.sub_self, Nat.add_zero] at emc ems
        subst emc; subst ems
        exact mx_w_ret hS hdg hR hlo hrt
      · split at hr
        · rename_i mj htg
          split at hr
          · rename_i hcond
            obtain ⟨c1, c2, c3⟩ := hcond
            split at hr
            · cases hr
            · rename_i d'
              split at hr
              · rename_i rv2 h2 hcall
                have m1 := mx_run_mono _ _ _ _ _ _ _ _ _ hcall
                have m2 := mx_run_mono _ _ _ _ _ _ _ _ _ hr
                have hqj : ∃ q, mt_q mj = some q := by
                  cases hq : mt_q mj with
                  | some q => exact ⟨q, rfl⟩
                  | none =>
                    exfalso
                    cases n with
                    | zero => simp only [mx_run] at hcall; cases hcall
                    | succ n => simp only [mx_run, mt_at, hq] at hcall; cases hcall
                obtain ⟨qj, hqj⟩ := hqj
                have hpl : plainFor (mt_nm mj) = true := by
                  have hg := mt_q_ok hqj
                  unfold mx_goodB at hg
                  simp only [Bool.and_eq_true] at hg
                  unfold mt_nm
                  rw [hqj]
                  exact hg.2.1
                have hM : Met l (mt_nm mj) (mx_w mj) { frames := d', cells := h2.length - h.length, slots := mx_tot h2 - mx_tot h, locals := 40 * d' } (mx_Pc D dA al b H0 olds (st.take (mt_np mj)).reverse h) (mx_Q D dA al b H0 olds rv2 h2) (h2.length - h.length) (mx_tot h2 - mx_tot h) (fun q => b ≤ q) := by
                  refine va_MetF (cc := mt_by mj) (maxL := mt_mL mj) (ret := mt_rt mj) hpl rfl ?_
                  intro p' e' s' m' args' below' meth' c' s₁ B hml' hv
                  obtain ⟨rfl, hR', hK'⟩ := hv
                  rw [lg_entry_eq]
                  have hts' := atoms_spec (ws := mx_w mj) B.pre
                  have hS' : mx_Std p' s' m' _ meth' c' mj D dA al b H0 olds := ⟨B.exec, B.bytes, hml', findClass_of_methodNamed B.named, fun w hw => hts' w (List.mem_cons_of_mem _ hw), B.returns, B.notSynchronized, fun hi => by rw [(name_of_methodNamed B.named B.method).1]; exact of_decide_eq_true hi, hK'⟩
                  exact ih d' mj 0 _ [] h rv2 h2 hcall p' e' _ s' m' _ below' meth' c' s'.heap [] 0 0 _ _ _ hS' (mx_RL.entry al _ c3) hR' (fun q hq => by cases hq) (Nat.le_refl _) (Nat.le_refl _) (Nat.zero_add _) (Nat.zero_add _) (Nat.le_refl _) (Nat.le_refl _)
                obtain ⟨a, hrun⟩ := mx_call (below := below) (e := e) (locs := locs) (cells := cells) (slots := slots) hS hal hR hdg htg c1 c2 hL.2.1 hM (by omega) (by omega) ⟨by omega, by omega⟩
                refine mx_after hrun hlo fun H' locs' hR2 hlo2 => ?_
                have := ih (d' + 1) mi (pc + 3) L (rv2.toList ++ st.drop (mt_np mj)) h2 rv h1 hr p e R s m args below meth c H' locs' (cells + (h2.length - h.length)) (slots + (mx_tot h2 - mx_tot h)) mc ms ls hS hL hR2 hlo2 hfr hlc (by omega) (by omega) hmc hms
                have e5 : (rv2.map (mx_tr al)).toList ++ (st.drop (mt_np mj)).map (mx_tr al) = (rv2.toList ++ st.drop (mt_np mj)).map (mx_tr al) := by cases rv2 <;> rfl
                rw [e5]
                exact this
              · cases hr
          · cases hr
        · split at hr
          · rename_i w st1 h2 hnt
            split at hr
            · rename_i hcond
              have m1 := mx_nat_mono hnt
              have m2 := mx_run_mono _ _ _ _ _ _ _ _ _ hr
              refine mx_w_nat hS hdg hR hlo hL.2.1 hal hnO hnt hcond.1 (by omega) (by omega) (by omega) (by omega) fun H' locs' hR2 hlo2 => ?_
              exact ih d mi (pc + w) L st1 h2 rv h1 hr p e R s m args below meth c H' locs' _ _ mc ms ls hS hL hR2 hlo2 hfr hlc (by omega) (by omega) hmc hms
            · cases hr
          · split at hr
            · rename_i pc1 L1 st1 h2 hst
              have m1 := mx_st1_mono hst
              have m2 := mx_run_mono _ _ _ _ _ _ _ _ _ hr
              refine mx_sim1 hS hal hnO hb0 hdg hst hL hR hlo (by omega) (by omega) fun ls' H' locs' hL2 hR2 hlo2 => ?_
              exact ih d mi pc1 L1 st1 h2 rv h1 hr p e R s m args below meth c H' locs' _ _ mc ms ls' hS hL2 hR2 hlo2 hfr hlc (by omega) (by omega) hmc hms
            · cases hr
end MXR
