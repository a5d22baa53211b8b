section
variable {d : Nat} {h : mx_H}
theorem oI_nat (n : Nat) : Int32.ofInt (n : Int) = nI n := by
  unfold nI Int32.ofInt Int32.ofNat
  rw [BitVec.ofInt_natCast]
theorem rc_id {p : prs} {h h' : mx_H} {i v : Nat} (R : rcP h 8 p) (h4 : (pit p).length ≤ 4) (h0 : mi h' 77 640 = nI i) (h1 : mi h' 77 641 = nI v) (e : ∀ j, 642 ≤ j → j < 720 → mi h' 77 j = mi h 77 j) : rcP h' 8 (sId p i v) := by
  refine rc_hd R rfl (fun o ho => ?_) (fun j h2 h3 => e j (by omega) (by omega)) h4
  by_cases c0 : o = 0
  · subst c0; exact h0
  · by_cases c1 : o = 1
    · subst c1; exact h1
    · rw [e _ (by omega) (by omega), pe_id c0 c1]
      exact R.1 o ho
theorem rm_created {bs : List Nat} {sl : slt} {s : sto} (M : mSt h sl s) (B : rm_buf h bs) (hb : s.2.1 + 1 < 2 ^ 20) :
    ∃ h' sl', mx_G (d + 8) 239 0 [some (.ref 76), none, none] [] h = some (some (.int (Int32.ofInt (s_create (lx bs.length bs) (lx_good (lx bs.length bs)) s).1)), h') ∧ mSt h' sl' (s_create (lx bs.length bs) (lx_good (lx bs.length bs)) s).2 := by
  have T := M.1
  obtain ⟨h1, r1, T1, -, F, S⟩ := rm_cut (d := d + 4) B
  have M1 := mSt_mf M (fr_mf T1 F) stct
  unfold s_create
  cases g : lx_good (lx bs.length bs) with
  | false =>
    rw [g] at r1
    refine ⟨h1, sl, ?_, M1⟩
    simp only [r239_0, r239_1, r239_4, r239_5, r239_6, r239_9, r239_10, r239_11, r239_13, r239_16, r239_19, r239_20, r239_21, r239_24, r239_25, r239_28, r239_31, r239_34, mx_isr_ref, mx_isr_null, mx_wt_nil, mx_wt_1, mx_wt_2, mx_wt_3, Option.bind_some, Option.toList_some, Option.toList_none, List.cons_append, List.nil_append, mx_nl_int, mx_nl_ref, mx_nl_null, mx_nl_none, mx_nb0, mx_nb1, mx_fb0, mx_fb1, mx_cat_int, mx_cat_ref, if_true, if_false, not_true_eq_false, not_false_eq_true, T, T1, r1, Bool.false_eq_true]
    rfl
  | true =>
    rw [g] at r1
    obtain ⟨S1, K⟩ := TK_of (buf_128 B) S g
    generalize lx bs.length bs = ts at S1 K
    have hl := S1.1.2.1
    have i := rm_isF (d := d + 7) S1.1 (t := 0) (by decide)
    rw [show nI 0 = 0 from rfl] at i
    obtain ⟨h2, m2, r2, hO⟩ := rm_isObj (d := d + 3) S1
    have T2 := m2.1
    have M2 := mSt_mf M1 m2 st84
    have S2 := TK_mf S1 m2 tk84
    have tk2 := S2.1.2.2.1
    rw [Bool.true_and]
    by_cases ob : oB ts = true
    · obtain ⟨ob1, ob2⟩ := hO.1 ob
      rw [if_neg (by rw [ob]; decide)]
      have pv : pV ts 3 0 = some ts.length := by
        unfold oB at ob
        rw [Bool.and_eq_true] at ob
        exact beq_iff_eq.1 ob.2
      have hv := vOk_V pv
      have s1 := rm_set (d := d + 7) T2 (s := 8) (o := 0) (v := 0) (by decide)
      rw [show nI 8 = 8 from rfl, show nI 0 = 0 from rfl, show 80 * 8 + 0 = 640 from rfl] at s1
      have m3 : mf P79 h2 (mx_up h2 77 640 (.int 0)) := mf_up (mf_rfl T2) (by decide) (P79_t (by decide))
      have T3 := m3.1
      have s2 := rm_set (d := d + 7) T3 (s := 8) (o := 1) (v := 1) (by decide)
      rw [show nI 8 = 8 from rfl, show nI 1 = 1 from rfl, show 80 * 8 + 1 = 641 from rfl] at s2
      have m4 : mf P79 h2 (mx_up (mx_up h2 77 640 (.int 0)) 77 641 (.int 1)) := mf_up m3 (by decide) (P79_t (by decide))
      have T4 := m4.1
      obtain ⟨h5, r5, m5, g5⟩ := rm_fill (d := d) (TK_mf S2 m4 tk79) K (t := 0) (id := 0) (ver := 1) hv ob1 (by rw [mi_r T3 (by decide), if_neg (by decide), mi_r T2 (by decide), if_pos rfl]; rfl) (by rw [mi_r T3 (by decide), if_pos rfl]; rfl)
      rw [show nI 0 = 0 from rfl] at r5
      have m5' := mf_trans m4 m5
      have M5 := mSt_mf M2 m5' st79
      have T5 := m5.1
      have pre : mx_G (d + 8) 239 0 [some (.ref 76), none, none] [] h = mx_G (d + 8) 239 56 [some (.ref 76), some (.int 1), none] [.int (if (fP ts 0 0 1).isSome = true then 1 else 0)] h5 := by
        simp only [r239_0, r239_1, r239_4, r239_5, r239_6, r239_9, r239_10, r239_11, r239_13, r239_16, r239_19, r239_20, r239_21, r239_24, r239_25, r239_28, r239_31, r239_34, r239_35, r239_36, r239_38, r239_39, r239_40, r239_43, r239_44, r239_46, r239_47, r239_48, r239_51, r239_52, r239_53, mx_isr_ref, mx_isr_null, mx_wt_nil, mx_wt_1, mx_wt_2, mx_wt_3, Option.bind_some, Option.toList_some, Option.toList_none, List.cons_append, List.nil_append, mx_nl_int, mx_nl_ref, mx_nl_null, mx_nl_none, mx_nb0, mx_nb1, mx_fb0, mx_fb1, mx_cat_int, mx_cat_ref, if_true, if_false, not_true_eq_false, not_false_eq_true, T, T1, T2, T3, T4, r1, i, ob1, r2, tk2, eq_true ob2, s1, s2, r5, show ¬ (1 : Int32) = 0 by decide]
      rw [fP_id 0 (s.2.1 + 1) 1 0 1]
      cases z : fP ts 0 0 1 with
      | none =>
        rw [z] at pre
        refine ⟨h5, sl, ?_, M5⟩
        rw [pre]
        simp only [r239_56, r239_59, r239_62, mx_isr_ref, mx_isr_null, mx_wt_nil, mx_wt_1, mx_wt_2, mx_wt_3, Option.bind_some, Option.toList_some, Option.toList_none, List.cons_append, List.nil_append, mx_nl_int, mx_nl_ref, mx_nl_null, mx_nl_none, mx_nb0, mx_nb1, mx_fb0, mx_fb1, mx_cat_int, mx_cat_ref, if_true, if_false, not_true_eq_false, not_false_eq_true, Option.isSome_none, Bool.false_eq_true]
        rfl
      | some p0 =>
        rw [z] at pre
        have R := g5 p0 z
        obtain ⟨w0, wi, wv⟩ := fP_ok K z
        have h4 := w0.2.2.1
        have hw : ∀ x ∈ s.1, (x.1 ≠ p0.1 ↔ x.1 ≠ (sId p0 (s.2.1 + 1) 1).1) := by
          intro x hx
          have a := M.2.2.2.1.2.2 x hx
          have b := M.2.1.2.2.2 x hx
          rw [wi]
          show x.1 ≠ 0 ↔ x.1 ≠ s.2.1 + 1
          omega
        have N : nmW h5 (pnm (sId p0 (s.2.1 + 1) 1)) p0.1 := nmW_of R w0.1 (by omega)
        have tkr := rm_taken (d := d + 6) T5 M5.2.1 M5.2.2.1 N hw
        simp only [Option.map_some]
        by_cases ct : tkn s.1 (sId p0 (s.2.1 + 1) 1) = true
        · rw [ct] at tkr
          simp only [if_pos ct]
          refine ⟨h5, sl, ?_, M5⟩
          rw [pre]
          simp only [r239_56, r239_59, r239_62, r239_63, r239_64, r239_67, r239_70, r239_73, mx_isr_ref, mx_isr_null, mx_wt_nil, mx_wt_1, mx_wt_2, mx_wt_3, Option.bind_some, Option.toList_some, Option.toList_none, List.cons_append, List.nil_append, mx_nl_int, mx_nl_ref, mx_nl_null, mx_nl_none, mx_nb0, mx_nb1, mx_fb0, mx_fb1, mx_cat_int, mx_cat_ref, if_true, if_false, not_true_eq_false, not_false_eq_true, T5, tkr, Option.isSome_some, show ¬ (1 : Int32) = 0 by decide]
          rfl
        · rw [Bool.eq_false_iff.2 ct] at tkr
          simp only [if_neg ct]
          have pre2 : mx_G (d + 8) 239 0 [some (.ref 76), none, none] [] h = mx_G (d + 8) 239 76 [some (.ref 76), some (.int 1), some (.int (nI 0))] [] h5 := by
            rw [pre]
            simp only [r239_56, r239_59, r239_62, r239_63, r239_64, r239_67, r239_70, r239_73, r239_74, r239_75, mx_isr_ref, mx_isr_null, mx_wt_nil, mx_wt_1, mx_wt_2, mx_wt_3, Option.bind_some, Option.toList_some, Option.toList_none, List.cons_append, List.nil_append, mx_nl_int, mx_nl_ref, mx_nl_null, mx_nl_none, mx_nb0, mx_nb1, mx_fb0, mx_fb1, mx_cat_int, mx_cat_ref, if_true, if_false, not_true_eq_false, not_false_eq_true, T5, tkr, Option.isSome_some, Bool.false_eq_true, show ¬ (1 : Int32) = 0 by decide]
            rfl
          have pl := ppl_len sl
          have hl8 := M.2.1.1
          have ple := hld_len M.2.1
          rw [pre2]
          rcases rm_free (d := d + 7) T5 M5.2.2.1 (l1 := 1) 8 0 rfl (fun k hk => by omega) with ⟨k, hk, zk, rk⟩ | ⟨zk, rk⟩
          · have lt := pl.2.1 ⟨k, by omega, zk⟩
            rw [rk, if_neg (by omega)]
            have e8 : ¬ nI k = 8 := fun y => by have := (nI_eq (b := 8) (by omega) (by decide)).mp y; omega
            have mad := M5.2.2.2.1.1
            have e9 : nI s.2.1 + 1 = nI (s.2.1 + 1) := nI_1 _
            have P1 : Nat → Nat → Bool := fun a j => (a == 76 && j == 1) || P79 a j
            have m6 : mf (fun a j => (a == 76 && j == 1) || P79 a j) h5 (mx_up h5 76 1 (.int (nI (s.2.1 + 1)))) := mf_f (mf_rfl T5) (by decide) rfl
            have T6 := m6.1
            have rd6 : mi (mx_up h5 76 1 (.int (nI (s.2.1 + 1)))) 76 1 = nI (s.2.1 + 1) := by rw [mi_up, if_pos ⟨rfl, rfl, by rw [T5.2.1]; decide⟩]
            have s7 := rm_set (d := d + 7) T6 (s := 8) (o := 0) (v := nI (s.2.1 + 1)) (by decide)
            rw [show nI 8 = 8 from rfl, show nI 0 = 0 from rfl, show 80 * 8 + 0 = 640 from rfl] at s7
            have m7 : mf (fun a j => (a == 76 && j == 1) || P79 a j) h5 (mx_up (mx_up h5 76 1 (.int (nI (s.2.1 + 1)))) 77 640 (.int (nI (s.2.1 + 1)))) := mf_up m6 (by decide) (by rw [P79_t (by decide)]; rfl)
            have T7 := m7.1
            obtain ⟨h8, r8, m8, g8⟩ := rm_copy (d := d + 6) T7 (a := 8) (b := k) (by decide) (by omega) (by omega)
            have T8 := m8.1
            rw [show nI 8 = 8 from rfl] at r8
            have rd8 : mi h8 76 1 = nI (s.2.1 + 1) := by rw [m8.2.1 76 1 rfl, mi_up, if_neg (by omega), rd6]
            refine ⟨h8, sl.set k (some (sId p0 (s.2.1 + 1) 1)), ?_, ?_⟩
            · simp only [r239_97, r239_98, r239_100, r239_103, r239_106, r239_107, r239_108, r239_109, r239_112, r239_113, r239_114, r239_117, r239_118, r239_120, r239_121, r239_122, r239_125, r239_128, r239_129, r239_131, r239_132, r239_135, r239_136, r239_139, mx_isr_ref, mx_isr_null, mx_wt_nil, mx_wt_1, mx_wt_2, mx_wt_3, Option.bind_some, Option.toList_some, Option.toList_none, List.cons_append, List.nil_append, mx_nl_int, mx_nl_ref, mx_nl_null, mx_nl_none, mx_nb0, mx_nb1, mx_fb0, mx_fb1, mx_cat_int, mx_cat_ref, if_true, if_false, not_true_eq_false, not_false_eq_true, T5, T6, T7, T8, e8, mad, e9, rd6, s7, r8, rd8]
              rw [oI_nat]
            · have R7 : rcP (mx_up (mx_up h5 76 1 (.int (nI (s.2.1 + 1)))) 77 640 (.int (nI (s.2.1 + 1)))) 8 (sId p0 (s.2.1 + 1) 1) := by
                refine rc_id R h4 (by rw [mi_r T6 (by decide), if_pos rfl]) ?_ (fun j h1 h2 => by rw [mi_r T6 (by decide), if_neg (by omega), mi_up, if_neg (by omega)])
                rw [mi_r T6 (by decide), if_neg (by decide), mi_up, if_neg (by omega), R.1 1 (by decide)]
                show nI p0.2.1 = nI 1
                rw [wv]
              have R8 : rcP h8 k (sId p0 (s.2.1 + 1) 1) := rc_copy R7 h4 fun o ho => by
                rw [g8, if_pos (by omega)]
                congr 1
                omega
              refine ⟨T8, hld_add M.2.1 ?_ (Nat.succ_pos _) ?_, ?_, ⟨rd8, hb, ?_⟩, ?_, M.2.2.2.2.2.1, ?_⟩
              · rw [List.getD_eq_getElem?_getD] at zk
                cases y : sl[k]? with
                | none => have := List.getElem?_eq_none_iff.1 y; omega
                | some o => rw [y] at zk; rw [show o = none from zk]
              · intro y
                obtain ⟨x, hx, e⟩ := List.mem_map.1 y
                have := M.2.2.2.1.2.2 x hx
                have e : x.1 = s.2.1 + 1 := e
                omega
              · intro j hj
                rw [getD_set hl8 hk]
                by_cases c : j = k
                · rw [if_pos c, c]
                  exact ⟨R8, ⟨w0.1, w0.2⟩, Nat.succ_pos _, hb, by show 1 < 2 ^ 20; decide⟩
                · rw [if_neg c]
                  refine slE_keep (M5.2.2.1 j hj) fun x h1 h2 => ?_
                  rw [g8, if_neg (by omega), mi_r T6 (by decide), if_neg (by omega), mi_up, if_neg (by omega)]
              · intro x hx
                rcases List.mem_append.1 hx with y | y
                · have := M.2.2.2.1.2.2 x y; show x.1 ≤ s.2.1 + 1; omega
                · rw [List.mem_singleton.1 y]; exact Nat.le_refl _
              · rw [m8.2.1 76 34 rfl, m7.2.1 76 34 rfl]; exact M5.2.2.2.2.1
              · intro j hj
                rw [m8.2.1 100 j rfl, m7.2.1 100 j rfl]
                exact M5.2.2.2.2.2.2 j hj
          · have eq := pl.2.2 fun k hk => zk k (by omega)
            rw [rk, if_pos (by omega)]
            refine ⟨h5, sl, ?_, M5⟩
            simp only [r239_97, r239_98, r239_100, r239_103, r239_106, mx_isr_ref, mx_isr_null, mx_wt_nil, mx_wt_1, mx_wt_2, mx_wt_3, Option.bind_some, Option.toList_some, Option.toList_none, List.cons_append, List.nil_append, mx_nl_int, mx_nl_ref, mx_nl_null, mx_nl_none, mx_nb0, mx_nb1, mx_fb0, mx_fb1, mx_cat_int, mx_cat_ref, if_true, if_false, not_true_eq_false, not_false_eq_true, show nI 8 = 8 from rfl]
            rfl
    · rw [if_pos (Bool.eq_false_iff.2 ob)]
      by_cases ob1 : tI ts 0 123 = true
      · have ob2 := fun y => ob (hO.2 ⟨ob1, y⟩)
        refine ⟨h2, sl, ?_, M2⟩
        simp only [r239_0, r239_1, r239_4, r239_5, r239_6, r239_9, r239_10, r239_11, r239_13, r239_16, r239_19, r239_20, r239_21, r239_24, r239_25, r239_28, r239_31, r239_34, mx_isr_ref, mx_isr_null, mx_wt_nil, mx_wt_1, mx_wt_2, mx_wt_3, Option.bind_some, Option.toList_some, Option.toList_none, List.cons_append, List.nil_append, mx_nl_int, mx_nl_ref, mx_nl_null, mx_nl_none, mx_nb0, mx_nb1, mx_fb0, mx_fb1, mx_cat_int, mx_cat_ref, if_true, if_false, not_true_eq_false, not_false_eq_true, T, T1, T2, r1, i, ob1, r2, tk2, eq_false ob2, show ¬ (1 : Int32) = 0 by decide]
        rfl
      · refine ⟨h1, sl, ?_, M1⟩
        simp only [r239_0, r239_1, r239_4, r239_5, r239_6, r239_9, r239_10, r239_11, r239_13, r239_16, r239_19, r239_20, r239_21, r239_24, r239_25, r239_28, r239_31, r239_34, mx_isr_ref, mx_isr_null, mx_wt_nil, mx_wt_1, mx_wt_2, mx_wt_3, Option.bind_some, Option.toList_some, Option.toList_none, List.cons_append, List.nil_append, mx_nl_int, mx_nl_ref, mx_nl_null, mx_nl_none, mx_nb0, mx_nb1, mx_fb0, mx_fb1, mx_cat_int, mx_cat_ref, if_true, if_false, not_true_eq_false, not_false_eq_true, T, T1, r1, i, Bool.eq_false_iff.2 ob1, Bool.false_eq_true, show ¬ (1 : Int32) = 0 by decide]
        rfl
theorem buf_nil (T : mr_T h) : rm_buf (mx_up h 76 3 (.int 0)) [] := by
  refine ⟨mr_T_f T (by decide) 0, by decide, ?_, fun k hk => by cases hk⟩
  rw [mi_up, if_pos ⟨rfl, rfl, by rw [T.2.1]; decide⟩]
  rfl
def P3 (a k : Nat) : Bool := a == 76 && k == 3
theorem st3 : stP P3 := ⟨fun _ _ => rfl, rfl, rfl, fun _ => rfl⟩
theorem rm_create {bs : List Nat} {sl : slt} {s : sto} (M : mSt h sl s) (B : rm_buf h bs) (hb : s.2.1 + 1 < 2 ^ 20) :
    ∃ h' sl', mx_G (d + 9) 238 0 [some (.ref 76), none] [] h = some (some (.int (Int32.ofInt (s_create (lx bs.length bs) (lx_good (lx bs.length bs)) s).1)), h') ∧ mSt h' sl' (s_create (lx bs.length bs) (lx_good (lx bs.length bs)) s).2 ∧ rm_buf h' [] := by
  have T := M.1
  obtain ⟨h1, sl', r, M1⟩ := rm_created (d := d) M B hb
  have T1 := M1.1
  refine ⟨mx_up h1 76 3 (.int 0), sl', ?_, mSt_mf M1 (mf_f (P := P3) (mf_rfl T1) (by decide) rfl) st3, buf_nil T1⟩
  simp only [r238_0, r238_1, r238_4, r238_5, r238_6, r238_7, r238_10, r238_11, mx_isr_ref, mx_isr_null, mx_wt_nil, mx_wt_1, mx_wt_2, mx_wt_3, Option.bind_some, Option.toList_some, Option.toList_none, List.cons_append, List.nil_append, mx_nl_int, mx_nl_ref, mx_nl_null, mx_nl_none, mx_nb0, mx_nb1, mx_fb0, mx_fb1, mx_cat_int, mx_cat_ref, if_true, if_false, not_true_eq_false, not_false_eq_true, T, T1, r]
end
