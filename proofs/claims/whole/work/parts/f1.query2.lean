/-! query: the whole of it. -/
section
variable {d : Nat} {h : mx_H} {x x2 A3 A4 : Nat} {bt : List Nat} {s : sto}
theorem cSt_pg {h' : mx_H} {s' : sto} (C : cSt h x x2 A3 A4 bt s) (f : Fr [63, 73] h h') (hp : pS h' s') (hg : pgS h' s'.2.2) (e : s'.1 = s.1) : cSt h' x x2 A3 A4 bt s' := by
  obtain ⟨r1, r2⟩ := cSt_R C
  obtain ⟨K, hl, -, hb, hpl, hf, -, hw, hm⟩ := C
  obtain ⟨ls, ks, ss, es, t, c, n, us, BB, q1, S, rn, rA, rx⟩ := id hb
  obtain ⟨n2, us2, S2, hx2⟩ := hw
  obtain ⟨cp3, es3, L3, -⟩ := id hpl
  obtain ⟨cp4, es4, L4, e4, n4⟩ := hf
  have hm3 := hm.2.1
  have hm4 := hm.2.2.1
  have E : Ex (x :: mR x2 A3 A4) h (x :: mR x2 A3 A4) h' := f.ex (fun a ha z => by
    simp only [List.mem_cons, List.not_mem_nil, or_false] at ha
    exact z.1 (by omega)) (fun a ha => Or.inl ha)
  refine ⟨K.fr f (by simp), Nat.le_trans hl f.1, hp, bufS_fr hb f (fun a ha => ?_), ?_, ⟨cp4, es4, AL_fr L4 f (by simp) (by simp; omega), fun y hy => ⟨elt_fr (e4 y hy).1 f (by have := (e4 y hy).2; simp; omega), (e4 y hy).2⟩, n4⟩, hg, ⟨n2, us2, SB_fr S2 f (by simp) (by simp; omega), hx2⟩, hm⟩
  · simp only [List.mem_cons, List.not_mem_nil, or_false] at ha
    omega
  · rw [e]
    exact hpl.ex E (f.2 71 (by omega) (by simp)) (f.2 A3 (ce_l L3.2.1) (by simp; omega))
def s_qry (g : prs → Option Nat → Bool) (s : sto) (sort : Int) (dn : Bool) (start count : Int) : Int × sto := if sort < 0 ∨ 4 < sort then (-401, s) else
    (((srt sort.toNat dn (s.1.filter fun p => g p none)).length : Nat), (s.1, s.2.1, (((srt sort.toNat dn (s.1.filter fun p => g p none)).drop (start - 1).toNat).take count.toNat).map fun p => p.1))
theorem jq_after (C : cSt h x x2 A3 A4 [] s) (hok : ∀ p ∈ s.1, oks p) (hup : (ids s.1).Pairwise (· < ·)) (O : oT7 h) {fv : Value} {g : prs → Option Nat → Bool} (V : FV (x :: mR x2 A3 A4) h fv g) (sort : Int32) (dn : Bool) (st cn a5 a7 : Int32) :
    ∃ (h' : mx_H) (A4' : Nat), mx_G (d + 31) 201 73 [some (.ref 63), some (.int sort), some (.int (if dn = true then 1 else 0)), some (.int st), some (.int cn), some (.int a5), some fv, some (.int a7), none, none] [] h = some (some (.int (Int32.ofInt (s_qry g s sort.toInt dn st.toInt cn.toInt).1)), h') ∧ cSt h' x x2 A3 A4' [] (s_qry g s sort.toInt dn st.toInt cn.toInt).2 ∧ mdl h h' ∧ mw h' ≤ mw h + 6000 := by
  obtain ⟨s1, s2, s3, s4, s5, -⟩ := pS_f C.2.2.1
  obtain ⟨-, -, -, k4⟩ := id C.1
  have t4 := ce_t k4
  have l4 : mx_ln h 4 = 5 := by rw [ce_n k4]; rfl
  have o5 : nI 5 = 5 := rfl
  have i5 : (5 : Int32).toInt = 5 := rfl
  have i0 : (0 : Int32).toInt = 0 := rfl
  unfold s_qry
  by_cases c0 : sort < 0
  · rw [if_pos (Or.inl (by rw [Int32.lt_iff_toInt_lt] at c0; omega))]
    refine ⟨h, A4, ?_, C, mdl.rfl h, by omega⟩
    simp only [g201_73, g201_74, g201_85, g201_88, mx_isr_ref, mx_isr_null, mx_wt_nil, mx_wt_1, mx_wt_2, mx_wt_3, Option.bind_some, Option.toList_some, Option.toList_none, List.cons_append, List.nil_append, mx_nl_int, mx_nl_ref, mx_nl_null, mx_nl_none, mx_nb0, mx_nb1, mx_fb0, mx_fb1, mx_cat_int, mx_cat_ref, if_true, if_false, not_true_eq_false, not_false_eq_true, mx_wt_4, mx_w4_0, mx_w9_0, mx_w9_1, mx_kn_int, mx_kn_ref, mx_kn_null, Nat.reduceLT, ofn, n10, c0]
    rfl
  · by_cases c1 : sort < 5
    · rw [if_neg (show ¬ (sort.toInt < 0 ∨ 4 < sort.toInt) by rw [Int32.lt_iff_toInt_lt] at c0 c1; omega)]
      obtain ⟨ky, hky31, rfl⟩ := nI_of c0
      have hky : ky < 5 := by rw [Int32.lt_iff_toInt_lt, nI_toInt hky31] at c1; omega
      rw [nI_toInt hky31, show ((ky : Int)).toNat = ky by omega]
      obtain ⟨cp, es, L, e4, n4⟩ := C.2.2.2.2.2.1
      obtain ⟨h1, b1, b2, b3, b4⟩ := jl_clear (d := d + 30) L
      obtain ⟨C1, E1, -, -⟩ := cSt_fd C b3 (Or.inl rfl) C.2.2.2.2.2.2.2.2.2.2.1 ⟨cp, [], b2, by simp, by simp⟩
      have hm := C.2.2.2.2.2.2.2.2
      have F63 : ∀ a ∈ fA 72 A4, 63 ≤ a ∧ ¬ (76 ≤ a ∧ a < 102) := fun a ha => by rcases fA_mem ha with z | z <;> (have := hm.2.2.1; omega)
      have F1 : FS (x :: mR x2 A3 A4) h1 A4 cp [] (srt ky dn ((s.1.take 0).filter fun p => g p none)) := ⟨b2, rfl, fun k hk => (by cases hk)⟩
      obtain ⟨h2, A4', cp', fs', l9', i1, i2, i3, i4, i5'⟩ := jq_findL (d := d) (st := st) (cn := cn) (a5 := a5) (a7 := a7) hok hup hky dn s.1.length 0 h1 A4 cp [] none (by omega) C1 F1 (V.ex E1) (O.fr b3 (fun a ha => (F63 a ha).1) C.2.1)
      have hRl : (srt ky dn (s.1.filter fun p => g p none)).length ≤ 8 := by
        rw [srt_len]
        have h1 := List.length_filter_le (fun p => g p none) s.1
        obtain ⟨_, _, _, _, h8, _⟩ := C.2.2.2.2.1
        omega
      obtain ⟨h3, j1, j2, j3, j4, j5⟩ := jq_turn (d := d + 27) i3 hRl (fun k hk => (hok _ (List.mem_filter.mp (srt_mem (pAt_mem hk))).1).2.1) i2.2.2.2.2.2.2.2.2.2.2.1 i2.2.2.1 i2.2.2.2.2.2.2.1 st cn
      generalize hR : srt ky dn (s.1.filter fun p => g p none) = R at *
      have C3 := cSt_pg i2 j4 j2 j3 rfl
      refine ⟨h3, A4', ?_, C3, ((b3.mdl C.2.1 (fun a ha => (F63 a ha).2)).trans i4).trans (j4.mdl i2.2.1 (by simp)), ?_⟩
      · obtain ⟨u1, u2, u3, u4, u5, -⟩ := pS_f i2.2.2.1
        obtain ⟨w1, w2, w3, w4, w5, -⟩ := pS_f j2
        have L3 : AL h3 72 A4' cp' fs' := AL_fr i3.1 j4 (by simp) (by have := i2.2.2.2.2.2.2.2.2.2.2.1; simp; omega)
        have sz := jl_size (d := d + 30) L3
        rw [i3.2.1] at sz
        rw [nI_0] at i1
        simp only [g201_73, g201_74, g201_77, g201_78, g201_81 t4, g201_82, g201_89, g201_90, g201_93, g201_96, g201_97, mx_isr_ref, mx_isr_null, mx_wt_nil, mx_wt_1, mx_wt_2, mx_wt_3, Option.bind_some, Option.toList_some, Option.toList_none, List.cons_append, List.nil_append, mx_nl_int, mx_nl_ref, mx_nl_null, mx_nl_none, mx_nb0, mx_nb1, mx_fb0, mx_fb1, mx_cat_int, mx_cat_ref, if_true, if_false, not_true_eq_false, not_false_eq_true, mx_wt_4, mx_w4_0, mx_w9_0, mx_w9_1, mx_kn_int, mx_kn_ref, mx_kn_null, Nat.reduceLT, ofn, n10, c0, t4, l4, o5, c1, s1, s2, s5, (AL_f L).1, b1]
        rw [i1]
        simp only [g201_159, g201_160, g201_161, g201_163, g201_166, g201_167, g201_170, g201_173, mx_isr_ref, mx_isr_null, mx_wt_nil, mx_wt_1, mx_wt_2, mx_wt_3, Option.bind_some, Option.toList_some, Option.toList_none, List.cons_append, List.nil_append, mx_nl_int, mx_nl_ref, mx_nl_null, mx_nl_none, mx_nb0, mx_nb1, mx_fb0, mx_fb1, mx_cat_int, mx_cat_ref, if_true, if_false, not_true_eq_false, not_false_eq_true, mx_wt_4, mx_w4_0, mx_w9_0, mx_w9_1, mx_kn_int, mx_kn_ref, mx_kn_null, Nat.reduceLT, ofn, n10, u1, j1, w1, w2, w5, (AL_f L3).1, sz]
        rw [oI_nat]
      · have h1 := i3.1.2.2.2.1
        omega
    · rw [if_pos (Or.inr (by rw [Int32.lt_iff_toInt_lt] at c1; omega))]
      refine ⟨h, A4, ?_, C, mdl.rfl h, by omega⟩
      simp only [g201_73, g201_74, g201_77, g201_78, g201_81 t4, g201_82, g201_85, g201_88, mx_isr_ref, mx_isr_null, mx_wt_nil, mx_wt_1, mx_wt_2, mx_wt_3, Option.bind_some, Option.toList_some, Option.toList_none, List.cons_append, List.nil_append, mx_nl_int, mx_nl_ref, mx_nl_null, mx_nl_none, mx_nb0, mx_nb1, mx_fb0, mx_fb1, mx_cat_int, mx_cat_ref, if_true, if_false, not_true_eq_false, not_false_eq_true, mx_wt_4, mx_w4_0, mx_w9_0, mx_w9_1, mx_kn_int, mx_kn_ref, mx_kn_null, Nat.reduceLT, ofn, n10, c0, t4, l4, o5, c1]
      rfl
theorem jq_query (C : cSt h x x2 A3 A4 bt s) (hok : ∀ p ∈ s.1, oks p) (hup : (ids s.1).Pairwise (· < ·)) (O : oT7 h) (sort : Int32) (dn : Bool) (st cn : Int32) :
    ∃ (h' : mx_H) (x' A4' : Nat), mx_G (d + 31) 201 0 [some (.ref 63), some (.int sort), some (.int (if dn = true then 1 else 0)), some (.int st), some (.int cn), none, none, none, none, none] [] h = some (some (.int (Int32.ofInt (s_query (lx bt.length bt) (lx_good (lx bt.length bt)) s sort.toInt dn st.toInt cn.toInt).1)), h') ∧ cSt h' x' x2 A3 A4' [] (s_query (lx bt.length bt) (lx_good (lx bt.length bt)) s sort.toInt dn st.toInt cn.toInt).2 ∧ mdl h h' ∧ mw h' ≤ mw h + 2700 * bt.length + 10000 := by
  obtain ⟨r1, r2⟩ := cSt_R C
  have C0 := C
  obtain ⟨K, hl, hp, hb, hpl, hf, hg, hw, hm⟩ := C
  obtain ⟨b128, b120⟩ := bufS_lt hb
  have x70 : x = 70 ∨ 102 ≤ x := by obtain ⟨_, _, _, _, _, _, _, _, _, _, _, _, _, z⟩ := hb; exact z
  obtain ⟨h1, cp, a1, T1, F1, W1⟩ := jq_split (d := d + 22) K hl hb
  have t64 : mx_tag h 64 = some (.inl 1) := by
    obtain ⟨ls, ks, ss, es, t, c, n, us, BB, -⟩ := hb
    exact ce_t BB.1
  have l1 := F1.1
  have N := NB_lx bt.length bt
  have hend : ∀ e, e ≤ (lx bt.length bt).length → (tI (lx bt.length bt) e 0 = true ↔ e = (lx bt.length bt).length) := fun e he => tI_end b128 he
  generalize hts : lx bt.length bt = ts at *
  obtain ⟨s1, s2, s3, -⟩ := pS_f hp
  have hp1 : pS h1 s := F1.at hp (by simp)
  obtain ⟨u1, u2, u3, -⟩ := pS_f hp1
  have t641 := T1.kind.1
  have hWt : ∀ e, Wt ts e ≤ 104 * bt.length := fun e => by rw [← hts]; exact Wt_end _ _ _
  have hW0 : Wt ts 0 = 0 := rfl
  -- the end, whatever was read
  have fin : ∀ (h2 : mx_H) (x' cp' e : Nat), BT h2 x' cp' ts e → PXd ts h1 x cp 0 h2 x' cp' e 36 → cSt (mx_up h2 64 5 (.int 0)) x' x2 A3 A4 [] s ∧ Fr [64, 65, 66, 67, 68, 69, x] h (mx_up h2 64 5 (.int 0)) ∧ mw (mx_up h2 64 5 (.int 0)) ≤ mw h + 104 * bt.length + 3036 ∧ pS h2 s ∧ mx_tag h2 64 = some (.inl 1) := by
    intro h2 x' cp' e T2 P2
    obtain ⟨-, B2⟩ := jt_clearB (d := 0) T2
    have FF : Fr [64, 65, 66, 67, 68, 69, x] h (mx_up h2 64 5 (.int 0)) := ((F1.mono (F' := [64, 65, 66, 67, 68, 69, x]) (fun a ha => by simp only [List.mem_cons, List.not_mem_nil, or_false] at ha ⊢; omega)).trans P2.1 (fun a ha => Or.inl (by simp only [List.mem_cons, List.not_mem_nil, or_false] at ha ⊢; omega))).trans (Fr.up (F := [64]) (by simp)) (fun a ha => Or.inl (by simp only [List.mem_cons, List.not_mem_nil, or_false] at ha ⊢; omega))
    have hx' : x' = x ∨ h.length ≤ x' := P2.2.1.elim Or.inl (fun z => Or.inr (by omega))
    refine ⟨cSt_read C0 FF hx' B2, FF, ?_, P2.1.at hp1 (by have := T1.xlt.2.2.1; simp; omega), T2.kind.1⟩
    rw [mw_up]
    have := P2.2.2.2
    have := hWt e
    have := T2.xlt.2.2.2.2.2.2
    omega
  have FFm : ∀ g, Fr [64, 65, 66, 67, 68, 69, x] h g → mdl h g ∧ oT7 g := fun g f => ⟨f.mdl hl (fun a ha => by simp only [List.mem_cons, List.not_mem_nil, or_false] at ha; omega), O.fr f (fun a ha => by simp only [List.mem_cons, List.not_mem_nil, or_false] at ha; omega) hl⟩
  have A1 := jt_isAt (d := d + 30) T1 (k := 0) (by decide)
  rw [nI_0] at A1
  unfold s_query
  by_cases hnil : ts = []
  · have hgood : lx_good ts = true := by rw [hnil]; rfl
    have z0 : tI ts 0 0 = true := (hend 0 (by omega)).mpr (by rw [hnil]; rfl)
    rw [if_pos z0] at A1
    rw [hgood, if_neg (show ¬ (true = false) by decide), if_pos hnil]
    obtain ⟨c1, c2, c4, c6, c7⟩ := fin h1 x cp 0 T1 ⟨Fr.rfl _ _, Or.inl rfl, Nat.le_refl _, by omega⟩
    have CL := (jt_clearB (d := d + 30) T1).1
    obtain ⟨m1, o1⟩ := FFm _ c2
    obtain ⟨h', A4', k1, k2, k3, k4⟩ := jq_after (d := d) c1 hok hup o1 (fv := .null) (g := fun _ _ => true) (Or.inl ⟨rfl, fun _ => rfl⟩) sort dn st cn 1 1
    refine ⟨h', x, A4', ?_, k2, m1.trans k3, by omega⟩
    simp only [g201_0, g201_1, g201_4, g201_7, g201_8, g201_11, g201_12, g201_15, g201_17, g201_19, g201_22, g201_23, g201_35, g201_37, g201_38, g201_41, g201_42, g201_45, g201_47, g201_48, g201_51, g201_54, g201_56, mx_isr_ref, mx_isr_null, mx_wt_nil, mx_wt_1, mx_wt_2, mx_wt_3, Option.bind_some, Option.toList_some, Option.toList_none, List.cons_append, List.nil_append, mx_nl_int, mx_nl_ref, mx_nl_null, mx_nl_none, mx_nb0, mx_nb1, mx_fb0, mx_fb1, mx_cat_int, mx_cat_ref, if_true, if_false, not_true_eq_false, not_false_eq_true, mx_wt_4, mx_w4_0, mx_w9_0, mx_w9_1, mx_kn_int, mx_kn_ref, mx_kn_null, Nat.reduceLT, ofn, n10, s1, s2, s3, t64, a1, u1, u2, u3, t641, A1, CL, show ¬ (1 : Int32) = 0 by decide]
    exact k1
  · have z0 : ¬ tI ts 0 0 = true := fun z => hnil (List.eq_nil_of_length_eq_zero ((hend 0 (by omega)).mp z).symm)
    rw [if_neg z0] at A1
    have RO6 := ro_n (ts := ts) N 6 (Nat.le_refl _) d false h1 x cp 0 (mR x2 A3 A4) T1 (r1.le l1) (K.fr F1 (by simp))
    rw [show d + 3 * 6 + 12 = d + 30 by omega, show nI (6 - 6) = 0 from rfl] at RO6
    simp only [Bool.false_eq_true, if_false] at RO6
    rw [if_neg hnil]
    cases hc : cF ts 6 false 0 with
    | none =>
      rw [hc] at RO6
      obtain ⟨h2, x', cp', c', g1, T2, P2⟩ := RO6
      obtain ⟨c1, c2, c4, c6, c7⟩ := fin h2 x' cp' c' T2 P2
      obtain ⟨v1, v2, v3, -⟩ := pS_f c6
      have A2 := jt_isAt (d := d + 30) T2 (k := 0) (by decide)
      rw [nI_0] at A2
      have CL := (jt_clearB (d := d + 30) T2).1
      obtain ⟨m1, o1⟩ := FFm _ c2
      have e0 : (if lx_good ts = false then ((-400 : Int), s) else match (Option.bind none fun q : cdP × Nat => if q.2 = ts.length then some q.1.2 else none : Option (prs → Option Nat → Bool)) with | none => (-400, s) | some g => if sort.toInt < 0 ∨ 4 < sort.toInt then (-401, s) else (((srt sort.toInt.toNat dn (s.1.filter fun p => g p none)).length : Nat), (s.1, s.2.1, (((srt sort.toInt.toNat dn (s.1.filter fun p => g p none)).drop (st.toInt - 1).toNat).take cn.toInt.toNat).map fun p => p.1))) = (-400, s) := by
        split <;> rfl
      refine ⟨mx_up h2 64 5 (.int 0), x', A4, ?_, ?_, m1, by omega⟩
      · refine Eq.trans ?_ (congrArg (fun z : Int × sto => some (some (Value.int (Int32.ofInt z.1)), mx_up h2 64 5 (.int 0))) e0.symm)
        simp only [g201_0, g201_1, g201_4, g201_7, g201_8, g201_11, g201_12, g201_15, g201_17, g201_19, g201_26, g201_27, g201_30, g201_31, g201_32, g201_35, g201_37, g201_38, g201_41, g201_42, g201_45, g201_47, g201_48, g201_51, g201_54, g201_56, g201_59, g201_61, g201_61n, g201_61n, g201_69, g201_72, mx_isr_ref, mx_isr_null, mx_wt_nil, mx_wt_1, mx_wt_2, mx_wt_3, Option.bind_some, Option.toList_some, Option.toList_none, List.cons_append, List.nil_append, mx_nl_int, mx_nl_ref, mx_nl_null, mx_nl_none, mx_nb0, mx_nb1, mx_fb0, mx_fb1, mx_cat_int, mx_cat_ref, if_true, if_false, not_true_eq_false, not_false_eq_true, mx_wt_4, mx_w4_0, mx_w9_0, mx_w9_1, mx_kn_int, mx_kn_ref, mx_kn_null, Nat.reduceLT, ofn, n10, s1, s2, s3, t64, a1, u1, u2, u3, t641, A1, g1, v1, v2, v3, c7, A2, CL]
        rfl
      · exact (congrArg (fun z : Int × sto => cSt (mx_up h2 64 5 (.int 0)) x' x2 A3 A4 [] z.2) e0).mpr c1
    | some q =>
      rw [hc] at RO6
      obtain ⟨h2, x', cp', f, g1, T2, Pf, hf1, P2⟩ := RO6
      obtain ⟨c1, c2, c4, c6, c7⟩ := fin h2 x' cp' q.2 T2 (P2.d 36)
      obtain ⟨v1, v2, v3, -⟩ := pS_f c6
      have A2 := jt_isAt (d := d + 30) T2 (k := 0) (by decide)
      rw [nI_0] at A2
      have CL := (jt_clearB (d := d + 30) T2).1
      obtain ⟨m1, o1⟩ := FFm _ c2
      have he : q.2 ≤ ts.length := T2.kind.2.2.2.2.2.2.2.2.2.2.2
      show ∃ h' x' A4', _ = some (some (Value.int (Int32.ofInt (if lx_good ts = false then ((-400 : Int), s) else match (if q.2 = ts.length then some q.1.2 else none : Option (prs → Option Nat → Bool)) with | none => (-400, s) | some g => s_qry g s sort.toInt dn st.toInt cn.toInt).1)), h') ∧ cSt h' x' x2 A3 A4' [] (if lx_good ts = false then ((-400 : Int), s) else match (if q.2 = ts.length then some q.1.2 else none : Option (prs → Option Nat → Bool)) with | none => (-400, s) | some g => s_qry g s sort.toInt dn st.toInt cn.toInt).2 ∧ _
      by_cases e : q.2 = ts.length
      · have hgood : lx_good ts = true := gdA_good (by have := gdA_cF _ _ _ _ hc; rw [e] at this; exact this)
        rw [if_pos ((hend _ he).mpr e)] at A2
        rw [hgood, if_neg (show ¬ (true = false) by decide), if_pos e]
        obtain ⟨cs, ef, hcs, mt⟩ := Pf
        have fx : f ≠ x' := T2.ne ef (by simp)
        have fz1 : fz (x' :: mR x2 A3 A4) f := ⟨by omega, fun z => by
          rcases List.mem_cons.mp z with y | y
          · exact fx y
          · have := (r1 _ y).2; omega⟩
        have V : FV (x' :: mR x2 A3 A4) (mx_up h2 64 5 (.int 0)) (.ref f) q.1.2 := FV.ex (Or.inr ⟨f, cs, rfl, ef, fz1, mt.sub (fun a ha => List.mem_cons_of_mem _ ha)⟩) (Ex.fr64 (Fr.up (by simp)))
        obtain ⟨h', A4', k1, k2, k3, k4⟩ := jq_after (d := d) c1 hok hup o1 V sort dn st cn 0 1
        refine ⟨h', x', A4', ?_, k2, m1.trans k3, by omega⟩
        simp only [g201_0, g201_1, g201_4, g201_7, g201_8, g201_11, g201_12, g201_15, g201_17, g201_19, g201_26, g201_27, g201_30, g201_31, g201_32, g201_35, g201_37, g201_38, g201_41, g201_42, g201_45, g201_47, g201_48, g201_51, g201_54, g201_56, g201_59, g201_61, g201_61n, g201_64, g201_66, mx_isr_ref, mx_isr_null, mx_wt_nil, mx_wt_1, mx_wt_2, mx_wt_3, Option.bind_some, Option.toList_some, Option.toList_none, List.cons_append, List.nil_append, mx_nl_int, mx_nl_ref, mx_nl_null, mx_nl_none, mx_nb0, mx_nb1, mx_fb0, mx_fb1, mx_cat_int, mx_cat_ref, if_true, if_false, not_true_eq_false, not_false_eq_true, mx_wt_4, mx_w4_0, mx_w9_0, mx_w9_1, mx_kn_int, mx_kn_ref, mx_kn_null, Nat.reduceLT, ofn, n10, s1, s2, s3, t64, a1, u1, u2, u3, t641, A1, g1, v1, v2, v3, c7, A2, CL, show ¬ (1 : Int32) = 0 by decide]
        exact k1
      · rw [if_neg (fun z => e ((hend _ he).mp z))] at A2
        rw [if_neg e]
        have e0 : (if lx_good ts = false then ((-400 : Int), s) else match (none : Option (prs → Option Nat → Bool)) with | none => (-400, s) | some g => s_qry g s sort.toInt dn st.toInt cn.toInt) = (-400, s) := by
          split <;> rfl
        rw [e0]
        refine ⟨mx_up h2 64 5 (.int 0), x', A4, ?_, c1, m1, by omega⟩
        simp only [g201_0, g201_1, g201_4, g201_7, g201_8, g201_11, g201_12, g201_15, g201_17, g201_19, g201_26, g201_27, g201_30, g201_31, g201_32, g201_35, g201_37, g201_38, g201_41, g201_42, g201_45, g201_47, g201_48, g201_51, g201_54, g201_56, g201_59, g201_61, g201_61n, g201_64, g201_66, g201_69, g201_72, mx_isr_ref, mx_isr_null, mx_wt_nil, mx_wt_1, mx_wt_2, mx_wt_3, Option.bind_some, Option.toList_some, Option.toList_none, List.cons_append, List.nil_append, mx_nl_int, mx_nl_ref, mx_nl_null, mx_nl_none, mx_nb0, mx_nb1, mx_fb0, mx_fb1, mx_cat_int, mx_cat_ref, if_true, if_false, not_true_eq_false, not_false_eq_true, mx_wt_4, mx_w4_0, mx_w9_0, mx_w9_1, mx_kn_int, mx_kn_ref, mx_kn_null, Nat.reduceLT, ofn, n10, s1, s2, s3, t64, a1, u1, u2, u3, t641, A1, g1, v1, v2, v3, c7, A2, CL]
        rfl
end
