/-- the words of a method's contract -/
def mx_w (mj : Nat) : List Cond := Cond.code (mt_nm mj) (mt_by mj) (mt_mL mj) (mt_rt mj) :: mt_Ts
theorem mt_code_in {mj : Nat} {q : mt_Q} (h : mt_q mj = some q) (hne : (mt_nm mj).cls ≠ "PeopleStoreLaw") : Cond.code (mt_nm mj) (mt_by mj) (mt_mL mj) (mt_rt mj) ∈ mt_Ts := by
  have hq : mt_cwd q := by
    unfold mt_q at h
    obtain ⟨l, h1, h2⟩ := Option.bind_eq_some_iff.mp h
    exact mt_ws l (List.mem_of_getElem? h1) q (List.mem_of_getElem? h2)
  unfold mt_nm at hne
  unfold mt_nm mt_by mt_mL mt_rt
  rw [h] at hne ⊢
  exact mt_inT (hq hne) rfl
theorem mx_goodIn {pre : List Cond} {mj : Nat} {q : mt_Q} (h : mt_q mj = some q) (hne : (mt_nm mj).cls ≠ "PeopleStoreLaw") (hp : ∀ w ∈ pre, w ∈ mt_Ts) : GoodIn mt_Ts (pre ++ mx_w mj) := by
  have hin : ∀ w ∈ pre ++ mx_w mj, w ∈ mt_Ts := by
    intro w hw
    rcases List.mem_append.mp hw with hw | hw
    · exact hp w hw
    · unfold mx_w at hw
      rcases List.mem_cons.mp hw with rfl | hw
      · exact mt_code_in h hne
      · exact hw
  exact fun w hw => ⟨hin w hw, good_of_word (List.mem_filter.mp (hin w hw)).2⟩
def mx_pn (mj : Nat) : Option Nat := (parseMethodDescriptor (mt_nm mj).desc).map fun d => d.parameters.length
def mx_mB (mj : Nat) : Bool := (mt_q mj).isSome && (decide ((mt_nm mj).cls ≠ "PeopleStoreLaw") && (decide ((mt_nm mj).cls ≠ "java/lang/invoke/MethodHandle") && decide ((mt_nm mj).cls ≠ "java/lang/invoke/VarHandle")))
def mx_scB (q : Nat × Nat × Nat) : Bool := mx_mB q.2.1 && (match q.2.2 with
  | 0 => decide (mx_pn q.2.1 = some (mt_np q.2.1))
  | 1 => decide (mx_pn q.2.1 = some (mt_np q.2.1))
  | 2 => decide (mx_pn q.2.1 = some (mt_np q.2.1 - 1)) && (decide (1 ≤ mt_np q.2.1) && (decide ((mt_nm q.2.1).name = "<init>") && decide (mt_rt q.2.1 = none)))
  | 3 => decide (mx_pn q.2.1 = some (mt_np q.2.1 - 1)) && (decide (1 ≤ mt_np q.2.1) && (decide ((mt_nm q.2.1).name = "<init>") && decide (mt_rt q.2.1 = none)))
  | _ => decide (mx_pn q.2.1 = some (mt_np q.2.1 - 1)) && (decide (1 ≤ mt_np q.2.1) && decide ((mt_nm q.2.1).name ≠ "<init>")))
theorem mt_scBs : ∀ l ∈ mt_SC, ∀ q ∈ l, mx_scB q = true := by decide +kernel
def mx_veB (n : Nat) (e : Nat × Nat × Nat × Nat) : Bool := mx_mB e.2.1 && (decide (mt_np e.2.1 = n + 1) && (decide (e.1 < 12) && (match e.2.2.1 with
  | 0 => decide (mx_pn e.2.1 = some n) && decide ((mt_nm e.2.1).cls = mx_cn e.1)
  | 1 => decide (mx_pn e.2.1 = some n)
  | 2 => decide (mx_pn e.2.1 = some n)
  | _ => decide (mx_pn e.2.2.2 = some n) && mx_mB e.2.2.2)))
theorem mt_vcBs : ∀ l ∈ mt_VC, ∀ q ∈ l, ∀ e ∈ q.2.2, mx_veB q.2.1 e = true := by decide +kernel
theorem mt_tab_mem {α : Type} {t : List (List α)} {o : Nat} {x : α} {P : α → Prop} (h : ∀ l ∈ t, ∀ q ∈ l, P q) (hx : x ∈ t.getD o []) : P x := by
  rw [List.getD_eq_getElem?_getD] at hx
  cases hl : t[o]? with
  | none => rw [hl] at hx; simp at hx
  | some l => rw [hl] at hx; exact h l (List.mem_of_getElem? hl) x hx
theorem mx_mB_ok {mj : Nat} (h : mx_mB mj = true) : (∃ q, mt_q mj = some q) ∧ (mt_nm mj).cls ≠ "PeopleStoreLaw" ∧ (mt_nm mj).cls ≠ "java/lang/invoke/MethodHandle" ∧ (mt_nm mj).cls ≠ "java/lang/invoke/VarHandle" := by
  unfold mx_mB at h
  simp only [Bool.and_eq_true, decide_eq_true_eq] at h
  exact ⟨Option.isSome_iff_exists.mp h.1, h.2.1, h.2.2.1, h.2.2.2⟩
theorem mt_mL_le (mj : Nat) : mt_mL mj ≤ 12 := by
  unfold mt_mL
  split
  · rename_i q hq
    have hg := mt_q_ok hq
    unfold mx_goodB at hg
    simp only [Bool.and_eq_true, decide_eq_true_eq] at hg
    exact hg.2.2.2.1
  · omega
section MXC
variable {p : Program} {l : Launch} {e : Env} {R : Room} {s : State} {m : MethodId} {args : Array Value} {below : List Frame} {meth : Method} {c : Code} {H : Heap} {locs : List Loc} {cells slots : Nat} {Q : State → Prop}
variable {D : va_G} {dA : FieldType → ClassId} {al : mx_A} {b : Nat} {H0 : Heap} {olds : mx_H}
def mx_Pc (D : va_G) (dA : FieldType → ClassId) (al : mx_A) (b : Nat) (H0 : Heap) (olds : mx_H) (as : List Value) (h : mx_H) : Array Value → State → Prop := fun v U => v = (as.map (mx_tr al)).toArray ∧ mx_R D dA al b H0 olds h U.heap ∧ mx_K D dA al b H0 olds U
def mx_Q (D : va_G) (dA : FieldType → ClassId) (al : mx_A) (b : Nat) (H0 : Heap) (olds : mx_H) (rv : Option Value) (h1 : mx_H) : Array Value → State → Outcome → State → Prop := fun _ _ oc t => oc = .returned (rv.map (mx_tr al)) ∧ mx_R D dA al b H0 olds h1 t.heap
theorem mx_Pc_blind (as : List Value) (h : mx_H) : FrameBlind (mx_Pc D dA al b H0 olds as h) := fun a U g mk hp => ⟨hp.1, hp.2.1, mx_K.moved (U := U.calling g mk a) (State.WarmedH.refl U) hp.2.2⟩
theorem mx_Pc_at {as : List Value} {h : mx_H} (hK : mx_K D dA al b H0 olds s) (hR : mx_R D dA al b H0 olds h H) : ∀ U : State, U.heap = H → s.WarmedH U.vm → mx_Pc D dA al b H0 olds as h (as.map (mx_tr al)).toArray U :=
  fun U hU hW => ⟨rfl, by rw [hU]; exact hR, mx_K.moved hW hK⟩
/-- behind a call -/
theorem mx_after {mc ms pc : Nat} {ls : Array Slot} {st0 rest : List Value} {a : Array Value} {rv : Option Value} {h1 : mx_H} (hr : va_Run p l e R s m args below meth c H locs cells slots mc ms (F0 m pc ls st0) rest (mx_Q D dA al b H0 olds rv h1 a) (fun q => b ≤ q)) (hlo : ∀ q ∈ locs, b ≤ q.base)
    (kk : ∀ (H' : Heap) (locs' : List Loc), mx_R D dA al b H0 olds h1 H' → (∀ q ∈ locs', b ≤ q.base) → W p l e R s m args below meth c H' locs' (cells + mc) (slots + ms) Q (F0 m (pc + 3) ls ((rv.map (mx_tr al)).toList ++ rest))) : W p l e R s m args below meth c H locs cells slots Q (F0 m pc ls st0) := by
  intro T hT X
  obtain ⟨v, st₀, t, T', L, h0, X', hL, e1, e2, ⟨hv, hR1⟩, st⟩ := hr T hT X
  cases hv
  obtain ⟨t2, a1, b1⟩ := kk T'.heap (locs ++ L) (by rw [e1]; exact hR1) (fun q hq => by
    rcases List.mem_append.mp hq with z | z
    · exact hlo q z
    · exact hL q z) T' rfl X'
  exact ⟨t2, st t2 a1, b1⟩
theorem mx_wt_room {pc : Nat} {ls : Array Slot} {st rest : List Value} (h : mx_wt rest ≤ 8) : 2 * (F0 m pc ls st).monitorRoom + ((rest.map (mx_tr al)).map fun v => v.category).sum ≤ 8 := by
  refine lv_room ?_
  have e : ((rest.map (mx_tr al)).map fun v => v.category) = rest.map fun v => v.category := by
    rw [List.map_map]
    exact List.map_congr_left fun v _ => mx_tr_cat al v
  rw [e]
  exact h
/-- a call as the tables have it, over the callee's contract -/
theorem mx_call {mi pc mj d mc ms : Nat} {ins : Jvm.ClassFile.Instr} {st : List Value} {h h1 : mx_H} {ls : Array Slot} {rv : Option Value}
    (hS : mx_Std p s m args meth c mi D dA al b H0 olds) (hal : mx_al al b olds.length) (hR : mx_R D dA al b H0 olds h H) (hdg : decode (mt_by mi) pc = .ok (ins, mx_len pc ins)) (htg : mx_tgt mi ins st h = some mj) (hlen : mt_np mj ≤ st.length) (hwt : mx_wt (st.drop (mt_np mj)) ≤ 8) (hls : ls.size = mt_mL mi)
    (hM : Met l (mt_nm mj) (mx_w mj) { frames := d, cells := mc, slots := ms, locals := 40 * d } (mx_Pc D dA al b H0 olds (st.take (mt_np mj)).reverse h) (mx_Q D dA al b H0 olds rv h1) mc ms (fun q => b ≤ q))
    (hfr : d + 1 ≤ R.frames) (hlc : 40 * (d + 1) ≤ R.locals) (hcs : cells + mc ≤ R.cells ∧ slots + ms ≤ R.slots) :
    ∃ a : Array Value, va_Run p l e R s m args below meth c H locs cells slots mc ms (F0 m pc ls (st.map (mx_tr al))) ((st.drop (mt_np mj)).map (mx_tr al)) (mx_Q D dA al b H0 olds rv h1 a) (fun q => b ≤ q) := by
  obtain ⟨hx, hb, hml, hown, hts, hret, hlocks, hini, hK⟩ := hS
  have hFix : CallFix p m c (mt_by mi) (mt_mL mi) s args mt_Ts (mt_own mi) := ⟨hx, hb, hml, hown, hts⟩
  have hroom : (d + 1 ≤ R.frames) ∧ 8 + (mt_mL mj + 11) + 40 * d ≤ R.locals := ⟨hfr, by have := mt_mL_le mj; omega⟩
  have hstk : ∀ k : Nat, st.map (mx_tr al) = ((((st.take k).reverse).map (mx_tr al)).reverse) ++ (st.drop k).map (mx_tr al) := by
    intro k
    rw [← List.map_reverse, List.reverse_reverse, ← List.map_append, List.take_append_drop]
  cases ins with
  | invokestatic i =>
    simp only [mx_tgt] at htg
    split at htg
    · rename_i q hq
      split at htg
      · rename_i hk
        cases htg
        have hm := mt_row_mem hq
        obtain ⟨Q0, hQ⟩ := mt_row_q hq (by decide)
        obtain ⟨ho, how⟩ := mt_own_ow hQ
        have hall := mt_sw_all (mt_o mi) ho
        rw [how] at hall
        have hw : ∀ w ∈ mx_scw (mt_own mi) (i, q.1, q.2), w ∈ mt_tbl := fun w hw => hall w (mx_flat_mem hm hw)
        have hB := mt_tab_mem (P := fun q => mx_scB q = true) mt_scBs hm
        obtain ⟨mj, kd⟩ := q
        unfold mx_scB at hB
        rw [Bool.and_eq_true] at hB
        obtain ⟨⟨qj, hqj⟩, n1, n2, n3⟩ := mx_mB_ok hB.1
        dsimp only at hk hw hB hM hlen hwt ⊢
        have hpre : PreS s H (mx_Pc D dA al b H0 olds (st.take (mt_np mj)).reverse h) (((st.take (mt_np mj)).reverse).map (mx_tr al)) := ⟨mx_Pc_blind _ _, mx_Pc_at hK hR⟩
        have hn : (((st.take (mt_np mj)).reverse).map (mx_tr al)).length = mt_np mj := by simp; omega
        match kd, hk, hw, hB with
        | 0, _, hw, hB =>
          have hpn : mx_pn mj = some (mt_np mj) := of_decide_eq_true hB.2
          exact ⟨_, va_runS hFix hM (va_cwS (mt_np mj) hts (mx_goodIn hqj n1 (pre := [_, _, _]) (fun w hw' => mt_inT (hw w hw') (by
            simp only [List.mem_cons, List.not_mem_nil, or_false] at hw'
            rcases hw' with rfl | rfl | rfl <;> rfl))) rfl rfl rfl ⟨n2, n3, hpn⟩ hroom) hpre rfl hn hls (hstk _) (mx_wt_room hwt) hdg hcs⟩
        | 1, _, hw, hB =>
          have hpn : mx_pn mj = some (mt_np mj) := of_decide_eq_true hB.2
          refine ⟨_, va_runSN hFix hM ⟨va_cnB (host := "PeopleStore") (mt_np mj) hts (mx_goodIn hqj n1 (pre := []) (fun w hw' => absurd hw' List.not_mem_nil)) rfl rfl rfl (hK.2.2.2.2.2.1 _ (mt_inN (hw _ List.mem_cons_self) rfl)) (hts _ (mt_inT (hw _ (List.mem_cons_of_mem _ (List.mem_cons_of_mem _ List.mem_cons_self))) rfl)) ⟨n2, n3, hpn⟩ hroom, hts _ (mt_inT (hw _ (List.mem_cons_of_mem _ List.mem_cons_self)) rfl), trivial⟩ hpre rfl hn hls (hstk _) (mx_wt_room hwt) hdg hcs⟩
      · cases htg
    · cases htg
  | invokespecial i =>
    simp only [mx_tgt] at htg
    split at htg
    · rename_i q hq
      split at htg
      · rename_i hk
        cases htg
        have hm := mt_row_mem hq
        obtain ⟨Q0, hQ⟩ := mt_row_q hq (by decide)
        obtain ⟨ho, how⟩ := mt_own_ow hQ
        have hall := mt_sw_all (mt_o mi) ho
        rw [how] at hall
        have hw : ∀ w ∈ mx_scw (mt_own mi) (i, q.1, q.2), w ∈ mt_tbl := fun w hw => hall w (mx_flat_mem hm hw)
        have hB := mt_tab_mem (P := fun q => mx_scB q = true) mt_scBs hm
        obtain ⟨mj, kd⟩ := q
        unfold mx_scB at hB
        rw [Bool.and_eq_true] at hB
        obtain ⟨⟨qj, hqj⟩, n1, n2, n3⟩ := mx_mB_ok hB.1
        dsimp only at hk hw hB hM hlen hwt ⊢
        obtain ⟨ci, hci⟩ := Option.isSome_iff_exists.mp hk.2
        obtain ⟨a, fs, ha, hf, hlt⟩ := mx_rcv_at hci
        have h1np : 1 ≤ mt_np mj := by
          match kd, hk, hB with
          | 0, hk, _ => exact absurd hk.1 (by decide)
          | 1, hk, _ => exact absurd hk.1 (by decide)
          | 2, _, hB => simp only [Bool.and_eq_true, decide_eq_true_eq] at hB; exact hB.2.2.1
          | 3, _, hB => simp only [Bool.and_eq_true, decide_eq_true_eq] at hB; exact hB.2.2.1
          | k + 4, _, hB => simp only [Bool.and_eq_true, decide_eq_true_eq] at hB; exact hB.2.2.1
        have hsplit : (st.take (mt_np mj)).reverse = .ref a :: (st.take (mt_np mj - 1)).reverse := by
          have e1 : mt_np mj = (mt_np mj - 1) + 1 := by omega
          rw [e1, List.take_succ, ha]
          simp
        have has : ((st.take (mt_np mj)).reverse).map (mx_tr al) = .ref (al.1 a) :: ((st.take (mt_np mj - 1)).reverse).map (mx_tr al) := by rw [hsplit]; rfl
        have hstk2 : st.map (mx_tr al) = (((st.take (mt_np mj - 1)).reverse).map (mx_tr al)).reverse ++ .ref (al.1 a) :: (st.drop (mt_np mj)).map (mx_tr al) := by
          rw [hstk (mt_np mj), has]
          simp
        have hn : (((st.take (mt_np mj - 1)).reverse).map (mx_tr al)).length = mt_np mj - 1 := by simp; omega
        have hpre : PreS s H (mx_Pc D dA al b H0 olds (st.take (mt_np mj)).reverse h) (.ref (al.1 a) :: ((st.take (mt_np mj - 1)).reverse).map (mx_tr al)) := ⟨mx_Pc_blind _ _, by rw [← has]; exact mx_Pc_at hK hR⟩
        match kd, hk, hw, hB with
        | 0, hk, _, _ => exact absurd hk.1 (by decide)
        | 1, hk, _, _ => exact absurd hk.1 (by decide)
        | 2, _, hw, hB =>
          simp only [Bool.and_eq_true, decide_eq_true_eq] at hB
          obtain ⟨-, b1, b2, b3, b4⟩ := hB
          unfold mx_w at hM
          rw [b4] at hM
          refine ⟨_, va_runI hFix hM (cwI (mt_np mj - 1) hts ?_ rfl rfl rfl (hts _ (mt_inT (hw _ (List.mem_cons_of_mem _ (List.mem_cons_of_mem _ List.mem_cons_self))) rfl)) (hts _ (mt_inT (hw _ List.mem_cons_self) rfl)) (hts _ (mt_inT (hw _ (List.mem_cons_of_mem _ List.mem_cons_self)) rfl)) b3 ⟨n2, n3, b1⟩ hroom) hpre rfl hn hls hstk2 (mx_wt_room hwt) hdg hcs⟩
          have := mx_goodIn hqj n1 (pre := []) (fun w hw' => absurd hw' List.not_mem_nil)
          unfold mx_w at this
          rw [b4] at this
          exact this
        | 3, _, hw, hB =>
          simp only [Bool.and_eq_true, decide_eq_true_eq] at hB
          obtain ⟨-, b1, b2, b3, b4⟩ := hB
          unfold mx_w at hM
          rw [b4] at hM
          refine ⟨_, va_runIN hFix hM ⟨va_cnB (host := "PeopleStore") (mt_np mj - 1) hts ?_ rfl rfl rfl (hK.2.2.2.2.2.1 _ (mt_inN (hw _ List.mem_cons_self) rfl)) (hts _ (mt_inT (hw _ (List.mem_cons_of_mem _ (List.mem_cons_of_mem _ List.mem_cons_self))) rfl)) ⟨n2, n3, b1⟩ hroom, b3, hts _ (mt_inT (hw _ (List.mem_cons_of_mem _ List.mem_cons_self)) rfl)⟩ hpre rfl hn hls hstk2 (mx_wt_room hwt) hdg hcs⟩
          have := mx_goodIn hqj n1 (pre := []) (fun w hw' => absurd hw' List.not_mem_nil)
          unfold mx_w at this
          rw [b4] at this
          exact this
        | k + 4, _, hw, hB =>
          simp only [Bool.and_eq_true, decide_eq_true_eq] at hB
          obtain ⟨-, b1, b2, b3⟩ := hB
          obtain ⟨r, hr⟩ := mt_cl_lt hlt
          refine ⟨_, va_runSU (hK.1 ci _ hr).2 hFix hM (va_cwSU (mt_np mj - 1) hts (mx_goodIn hqj n1 (pre := [_, _, _, _, _]) (fun w hw' => mt_inT (hw w hw') (by
            simp only [List.mem_cons, List.not_mem_nil, or_false] at hw'
            rcases hw' with rfl | rfl | rfl | rfl | rfl <;> rfl))) rfl rfl rfl ⟨b3, b1⟩ hroom) ⟨hpre.1, mx_recv hal hK hR hf hr, hpre.2⟩ rfl hn hls hstk2 (mx_wt_room hwt) hdg hcs⟩
      · cases htg
    · cases htg
  | invokevirtual i =>
    simp only [mx_tgt] at htg
    split at htg
    · rename_i q hq
      split at htg
      · rename_i ci hci
        obtain ⟨ve, hve, hvj⟩ := Option.map_eq_some_iff.mp htg
        obtain ⟨nn, es⟩ := q
        obtain ⟨ci', mj', kd, mx⟩ := ve
        dsimp only at hvj hci hve
        subst hvj
        have hme := List.mem_of_find?_eq_some hve
        have hce : ci' = ci := by simpa using List.find?_some hve
        subst hce
        obtain ⟨a, fs, ha, hf, hlt⟩ := mx_rcv_at hci
        have hm := mt_row_mem hq
        obtain ⟨Q0, hQ⟩ := mt_row_q hq (by decide)
        obtain ⟨ho, how⟩ := mt_own_ow hQ
        have hall := mt_vw_all (mt_o mi) ho
        rw [how] at hall
        have hw : ∀ w ∈ mx_vew (mt_own mi) i (ci', mj', kd, mx), w ∈ mt_tbl := fun w hw => hall w (mx_flat_mem hm (by unfold mx_vcw; exact mx_flat_mem hme hw))
        have hB := mt_tab_mem (P := fun q => ∀ e ∈ q.2.2, mx_veB q.2.1 e = true) mt_vcBs hm _ hme
        unfold mx_veB at hB
        rw [Bool.and_eq_true, Bool.and_eq_true, Bool.and_eq_true] at hB
        obtain ⟨hB1, hB2, hB3, hB4⟩ := hB
        have hnp : mt_np mj' = nn + 1 := of_decide_eq_true hB2
        obtain ⟨⟨qj, hqj⟩, n1, n2, n3⟩ := mx_mB_ok hB1
        obtain ⟨r, hr⟩ := mt_cl_lt hlt
        have hcn := (mx_cn_cl hr).1
        have hrc := mx_recv hal hK hR hf hr
        rw [← hcn] at hrc
        have hsplit : (st.take (mt_np mj')).reverse = .ref a :: (st.take nn).reverse := by
          rw [hnp, List.take_succ, ha]
          simp
        have has : ((st.take (mt_np mj')).reverse).map (mx_tr al) = .ref (al.1 a) :: ((st.take nn).reverse).map (mx_tr al) := by rw [hsplit]; rfl
        have hstk2 : st.map (mx_tr al) = (((st.take nn).reverse).map (mx_tr al)).reverse ++ .ref (al.1 a) :: (st.drop (mt_np mj')).map (mx_tr al) := by
          rw [hstk (mt_np mj'), has]
          simp
        have hn : (((st.take nn).reverse).map (mx_tr al)).length = nn := by simp; omega
        have hpre : PreV s H (mx_cn ci') (al.1 a) (mx_Pc D dA al b H0 olds (st.take (mt_np mj')).reverse h) (((st.take nn).reverse).map (mx_tr al)) := ⟨mx_Pc_blind _ _, hrc, by rw [← has]; exact mx_Pc_at hK hR⟩
        match kd, hw, hB4 with
        | 0, hw, hB4 =>
          simp only [Bool.and_eq_true, decide_eq_true_eq] at hB4
          refine ⟨_, va_runV hFix hM (cwV nn hts (mx_goodIn hqj n1 (pre := [_, _, _, _]) (fun w hw' => mt_inT (hw w hw') (by
            simp only [List.mem_cons, List.not_mem_nil, or_false] at hw'
            rcases hw' with rfl | rfl | rfl | rfl <;> rfl))) rfl rfl rfl ⟨hB4.2, n2, n3, hB4.1⟩ hroom) hpre rfl hn hls hstk2 (mx_wt_room hwt) hdg hcs⟩
        | 1, hw, hB4 =>
          have hpn : mx_pn mj' = some nn := of_decide_eq_true hB4
          refine ⟨_, va_runVN hFix hM ⟨va_cnB (host := "PeopleStore") nn hts (mx_goodIn hqj n1 (pre := []) (fun w hw' => absurd hw' List.not_mem_nil)) rfl rfl rfl (hK.2.2.2.2.2.1 _ (mt_inN (hw _ List.mem_cons_self) rfl)) (hts _ (mt_inT (hw _ (List.mem_cons_of_mem _ (List.mem_cons_of_mem _ (List.mem_cons_of_mem _ List.mem_cons_self)))) rfl)) ⟨n2, n3, hpn⟩ hroom, hts _ (mt_inT (hw _ (List.mem_cons_of_mem _ List.mem_cons_self)) rfl), hts _ (mt_inT (hw _ (List.mem_cons_of_mem _ (List.mem_cons_of_mem _ List.mem_cons_self))) rfl)⟩ hpre rfl hn hls hstk2 (mx_wt_room hwt) hdg hcs⟩
        | 2, hw, hB4 =>
          have hpn : mx_pn mj' = some nn := of_decide_eq_true hB4
          refine ⟨_, va_runU hFix hM (va_cwU (owner := (mt_nm mj').cls) (x := mt_nm mj') nn hts (mx_goodIn hqj n1 (pre := [_, _, _, _, _]) (fun w hw' => mt_inT (hw w hw') (by
            simp only [List.mem_cons, List.not_mem_nil, or_false] at hw'
            rcases hw' with rfl | rfl | rfl | rfl | rfl <;> rfl))) rfl rfl rfl rfl ⟨n2, n3, hpn⟩ hroom) hpre rfl hn hls hstk2 (mx_wt_room hwt) hdg hcs⟩
        | k + 3, hw, hB4 =>
          simp only [Bool.and_eq_true, decide_eq_true_eq] at hB4
          obtain ⟨⟨qx, hqx⟩, x1, x2, x3⟩ := mx_mB_ok hB4.2
          refine ⟨_, va_runU hFix hM (va_cwO (owner := (mt_nm mx).cls) (x := mt_nm mx) nn hts (mx_goodIn hqj n1 (pre := [_, _, _, _, _, _]) (fun w hw' => mt_inT (hw w hw') (by
            simp only [List.mem_cons, List.not_mem_nil, or_false] at hw'
            rcases hw' with rfl | rfl | rfl | rfl | rfl | rfl <;> rfl))) rfl rfl rfl (mt_code_in hqx x1) ⟨x2, x3, hB4.1⟩ hroom) hpre rfl hn hls hstk2 (mx_wt_room hwt) hdg hcs⟩
      · cases htg
    · cases htg
  | _ => simp only [mx_tgt] at htg; cases htg
end MXC
