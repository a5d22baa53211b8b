section
variable {d : Nat} {h : mx_H} {ts : List tk}
theorem nI_mul (a b : Nat) : nI a * nI b = nI (a * b) := (Int32.ofNat_mul a b).symm
def pB (o : Option Bool) : Nat := match o with | none => 0 | some true => 1 | some false => 2
/-- a text in the row: its length, its letters, nothing behind them -/
def te (l : List Nat) (j : Nat) : Int32 := if j = 0 then nI l.length else nI (l.getD (j - 1) 0)
def ie (x : itm) (j : Nat) : Int32 := if j < 13 then te x.1 j else nI (pB x.2)
def pe (p : prs) (o : Nat) : Int32 :=
  if o = 0 then nI p.1 else if o = 1 then nI p.2.1 else if o < 15 then te (pnm p) (o - 2)
  else if o = 15 then (if (pag p).isSome = true then 1 else 0) else if o = 16 then (match pag p with | none => 0 | some v => Int32.ofInt v)
  else if o = 17 then (if (pon p).isSome = true then 1 else 0) else if o = 18 then nI (pB (pon p)) else nI (pit p).length
def recH (h : mx_H) (s : Nat) (p : prs) : Prop := ∀ o, o < 20 → mi h 77 (80 * s + o) = pe p o
def itR (h : mx_H) (s k : Nat) (x : itm) : Prop := ∀ j, j < 14 → mi h 77 (80 * s + 20 + 14 * k + j) = ie x j
def rcP (h : mx_H) (s : Nat) (p : prs) : Prop := recH h s p ∧ ∀ k, k < (pit p).length → itR h s k (iG (pit p) k)
def P77 (a k : Nat) : Bool := a == 77 && decide (640 ≤ k)
theorem P77_t {k : Nat} (h : 640 ≤ k) : P77 77 k = true := by unfold P77; simp [h]
theorem tk77 : tkP P77 := ⟨rfl, fun _ => ⟨rfl, rfl, rfl, rfl, rfl⟩⟩
theorem rm_f (T : mr_T h) {s o : Nat} (hs : 80 * s + o < 800) : mx_G d 274 0 [some (.ref 76), some (.int (nI s)), some (.int (nI o))] [] h = some (some (.int (mi h 77 (80 * s + o))), h) := by
  have e1 : (80 : Int32) * nI s = nI (80 * s) := nI_mul 80 s
  have t1 : (nI (80 * s + o)).toNatClampNeg = 80 * s + o := nI_clamp (by omega)
  have t2 : (0 : Int32) ≤ nI (80 * s + o) := nI_pos' (by omega)
  simp only [r274_0, r274_1, r274_4, r274_6, r274_7, r274_8, r274_9, r274_10, r274_11, mx_isr_ref, mx_isr_null, mx_wt_nil, mx_wt_1, mx_wt_2, mx_wt_3, Option.bind_some, Option.toList_some, Option.toList_none, List.cons_append, List.nil_append, mx_nl_int, mx_nl_ref, mx_nl_null, mx_nl_none, mx_nb0, mx_nb1, mx_fb0, mx_fb1, mx_cat_int, mx_cat_ref, if_true, if_false, not_true_eq_false, not_false_eq_true, T, mr_ty_77, mr_n_77, mr_isI_77, mr_ty_78, mr_n_78, mr_isI_78, mr_ty_79, mr_n_79, mr_isI_79, mr_ty_80, mr_n_80, mr_isI_80, mr_ty_81, mr_n_81, mr_isI_81, mr_ty_82, mr_n_82, mr_isJ_82, mr_ty_83, mr_n_83, mr_isI_83, mr_ty_84, mr_n_84, mr_isI_84, mr_ty_85, mr_n_85, mr_isI_85, mr_ty_86, mr_n_86, mr_isI_86, mr_ty_87, mr_n_87, mr_isI_87, mr_ty_88, mr_n_88, mr_isI_88, mr_ty_89, mr_n_89, mr_isJ_89, mr_ty_90, mr_n_90, mr_isI_90, mr_ty_91, mr_n_91, mr_isI_91, mr_ty_92, mr_n_92, mr_isI_92, mr_ty_93, mr_n_93, mr_isI_93, mr_ty_94, mr_n_94, mr_isI_94, mr_ty_95, mr_n_95, mr_isI_95, mr_ty_96, mr_n_96, mr_isI_96, mr_ty_97, mr_n_97, mr_isI_97, mr_ty_98, mr_n_98, mr_isI_98, mr_ty_99, mr_n_99, mr_isI_99, mr_ty_100, mr_n_100, mr_isI_100, mr_ty_101, mr_n_101, mr_isI_101, mr_isF_1, mr_isF_3, mr_isF_4, mr_isF_10, mr_isF_12, mr_isF_18, mr_isF_19, mr_isF_21, mr_isF_22, mr_isF_23, mr_isF_26, mr_isF_34, mr_isF_37, mr_isF_38, mr_isF_39, mr_T_up, mr_T_upJ, mr_T_f, e1, nI_add, t1, t2, hs]
theorem rm_set (T : mr_T h) {s o : Nat} {v : Int32} (hs : 80 * s + o < 800) : mx_G d 260 0 [some (.ref 76), some (.int (nI s)), some (.int (nI o)), some (.int v)] [] h = some (none, mx_up h 77 (80 * s + o) (.int v)) := by
  have e1 : (80 : Int32) * nI s = nI (80 * s) := nI_mul 80 s
  have t1 : (nI (80 * s + o)).toNatClampNeg = 80 * s + o := nI_clamp (by omega)
  have t2 : (0 : Int32) ≤ nI (80 * s + o) := nI_pos' (by omega)
  simp only [r260_0, r260_1, r260_4, r260_6, r260_7, r260_8, r260_9, r260_10, r260_11, r260_12, mx_isr_ref, mx_isr_null, mx_wt_nil, mx_wt_1, mx_wt_2, mx_wt_3, Option.bind_some, Option.toList_some, Option.toList_none, List.cons_append, List.nil_append, mx_nl_int, mx_nl_ref, mx_nl_null, mx_nl_none, mx_nb0, mx_nb1, mx_fb0, mx_fb1, mx_cat_int, mx_cat_ref, if_true, if_false, not_true_eq_false, not_false_eq_true, T, mr_ty_77, mr_n_77, mr_isI_77, mr_ty_78, mr_n_78, mr_isI_78, mr_ty_79, mr_n_79, mr_isI_79, mr_ty_80, mr_n_80, mr_isI_80, mr_ty_81, mr_n_81, mr_isI_81, mr_ty_82, mr_n_82, mr_isJ_82, mr_ty_83, mr_n_83, mr_isI_83, mr_ty_84, mr_n_84, mr_isI_84, mr_ty_85, mr_n_85, mr_isI_85, mr_ty_86, mr_n_86, mr_isI_86, mr_ty_87, mr_n_87, mr_isI_87, mr_ty_88, mr_n_88, mr_isI_88, mr_ty_89, mr_n_89, mr_isJ_89, mr_ty_90, mr_n_90, mr_isI_90, mr_ty_91, mr_n_91, mr_isI_91, mr_ty_92, mr_n_92, mr_isI_92, mr_ty_93, mr_n_93, mr_isI_93, mr_ty_94, mr_n_94, mr_isI_94, mr_ty_95, mr_n_95, mr_isI_95, mr_ty_96, mr_n_96, mr_isI_96, mr_ty_97, mr_n_97, mr_isI_97, mr_ty_98, mr_n_98, mr_isI_98, mr_ty_99, mr_n_99, mr_isI_99, mr_ty_100, mr_n_100, mr_isI_100, mr_ty_101, mr_n_101, mr_isI_101, mr_isF_1, mr_isF_3, mr_isF_4, mr_isF_10, mr_isF_12, mr_isF_18, mr_isF_19, mr_isF_21, mr_isF_22, mr_isF_23, mr_isF_26, mr_isF_34, mr_isF_37, mr_isF_38, mr_isF_39, mr_T_up, mr_T_upJ, mr_T_f, e1, nI_add, t1, t2, hs]
theorem mi_r (T : mr_T h) {k : Nat} (hk : k < 800) (x : Int32) (i : Nat) : mi (mx_up h 77 k (.int x)) 77 i = if i = k then x else mi h 77 i := by
  rw [mi_up]
  have : mx_ln h 77 = 800 := by rw [mr_ln T mr_ty_77]; rfl
  by_cases e : i = k
  · rw [if_pos ⟨rfl, e, by omega⟩, if_pos e]
  · rw [if_neg (fun z => e z.2.1), if_neg e]
theorem rm_item {k : Nat} : mx_G d 268 0 [some (.ref 76), some (.int (nI k))] [] h = some (some (.int (nI (20 + 14 * k))), h) := by
  have e1 : (14 : Int32) * nI k = nI (14 * k) := nI_mul 14 k
  have e2 : (20 : Int32) + nI (14 * k) = nI (20 + 14 * k) := nI_add 20 (14 * k)
  simp only [r268_0, r268_2, r268_4, r268_5, r268_6, r268_7, mx_isr_ref, mx_isr_null, mx_wt_nil, mx_wt_1, mx_wt_2, mx_wt_3, Option.bind_some, Option.toList_some, Option.toList_none, List.cons_append, List.nil_append, mx_nl_int, mx_nl_ref, mx_nl_null, mx_nl_none, mx_nb0, mx_nb1, mx_fb0, mx_fb1, mx_cat_int, mx_cat_ref, if_true, if_false, not_true_eq_false, not_false_eq_true, e1, e2]
theorem rm_truthOf (S : rm_TK h ts) {t : Nat} (ht : t < 2 ^ 30) : mx_G (d + 1) 271 0 [some (.ref 76), some (.int (nI t))] [] h = some (some (.int (nI (pB (some (tb ts t))))), h) := by
  have T := S.1.1
  have sy := rm_says (d := d) S ht w_true_ok.2.2 w_true_ok.1 w_true_ok.2.1
  unfold tb
  cases z : tW ts t w_true with
  | true => rw [z] at sy; simp only [r271_0, r271_1, r271_2, r271_5, r271_8, r271_11, r271_12, r271_15, r271_16, mx_isr_ref, mx_isr_null, mx_wt_nil, mx_wt_1, mx_wt_2, mx_wt_3, Option.bind_some, Option.toList_some, Option.toList_none, List.cons_append, List.nil_append, mx_nl_int, mx_nl_ref, mx_nl_null, mx_nl_none, mx_nb0, mx_nb1, mx_fb0, mx_fb1, mx_cat_int, mx_cat_ref, if_true, if_false, not_true_eq_false, not_false_eq_true, T, sy, show ¬ (1 : Int32) = 0 by decide]; rfl
  | false => rw [z] at sy; simp only [r271_0, r271_1, r271_2, r271_5, r271_8, r271_11, r271_12, r271_15, r271_16, mx_isr_ref, mx_isr_null, mx_wt_nil, mx_wt_1, mx_wt_2, mx_wt_3, Option.bind_some, Option.toList_some, Option.toList_none, List.cons_append, List.nil_append, mx_nl_int, mx_nl_ref, mx_nl_null, mx_nl_none, mx_nb0, mx_nb1, mx_fb0, mx_fb1, mx_cat_int, mx_cat_ref, if_true, if_false, not_true_eq_false, not_false_eq_true, T, sy, Bool.false_eq_true]; rfl
def P79 (a k : Nat) : Bool := (a == 77 && decide (640 ≤ k)) || a == 99
theorem P79_t {k : Nat} (h : 640 ≤ k) : P79 77 k = true := by unfold P79; simp [h]
theorem tk79 : tkP P79 := ⟨rfl, fun _ => ⟨rfl, rfl, rfl, rfl, rfl⟩⟩
/-- which items the operation gave p true -/
def rsd (h : mx_H) (k : Nat) : Int32 := mi h 99 k
theorem rm_setTruth (T : mr_T h) {k : Nat} {p : Nat} (hk : k < 5) (hp : p < 2 ^ 30) : ∃ h', mx_G (d + 1) 272 0 [some (.ref 76), some (.int (nI k)), some (.int (nI p))] [] h = some (none, h') ∧ mf P79 h h' ∧ (∀ i, mi h' 77 i = if i = 640 + 20 + 14 * k + 13 then nI p else mi h 77 i) ∧ ∀ i, mi h' 99 i = if i = k then (if p = 1 then 1 else 0) else mi h 99 i := by
  have im := rm_item (d := d) (h := h) (k := k)
  have e2 : nI (20 + 14 * k) + 13 = nI (20 + 14 * k + 13) := nI_add (20 + 14 * k) 13
  have st := rm_set (d := d) T (s := 8) (o := 20 + 14 * k + 13) (v := nI p) (by omega)
  rw [show nI 8 = 8 from rfl] at st
  have m1 : mf P79 h (mx_up h 77 (80 * 8 + (20 + 14 * k + 13)) (.int (nI p))) := mf_up (mf_rfl T) (by decide) (P79_t (by omega))
  have T1 := m1.1
  have t1 : (nI k).toNatClampNeg = k := nI_clamp (by omega)
  have t2 : (0 : Int32) ≤ nI k := nI_pos' (by omega)
  have l99 : mx_ln (mx_up h 77 (80 * 8 + (20 + 14 * k + 13)) (.int (nI p))) 99 = 5 := by rw [mr_ln T1 mr_ty_99]; rfl
  refine ⟨mx_up (mx_up h 77 (80 * 8 + (20 + 14 * k + 13)) (.int (nI p))) 99 k (.int (if p = 1 then 1 else 0)), ?_, mf_up m1 (by decide) rfl, fun i => ?_, fun i => ?_⟩
  · by_cases e : p = 1
    · have e' : nI p = 1 := by rw [e]; rfl
      simp only [r272_0, r272_1, r272_3, r272_4, r272_5, r272_8, r272_10, r272_11, r272_12, r272_15, r272_16, r272_19, r272_20, r272_21, r272_22, r272_25, r272_26, r272_29, r272_30, r272_31, mx_isr_ref, mx_isr_null, mx_wt_nil, mx_wt_1, mx_wt_2, mx_wt_3, Option.bind_some, Option.toList_some, Option.toList_none, List.cons_append, List.nil_append, mx_nl_int, mx_nl_ref, mx_nl_null, mx_nl_none, mx_nb0, mx_nb1, mx_fb0, mx_fb1, mx_cat_int, mx_cat_ref, if_true, if_false, not_true_eq_false, not_false_eq_true, T, im, e2, st, T1, mr_ty_77, mr_n_77, mr_isI_77, mr_ty_78, mr_n_78, mr_isI_78, mr_ty_79, mr_n_79, mr_isI_79, mr_ty_80, mr_n_80, mr_isI_80, mr_ty_81, mr_n_81, mr_isI_81, mr_ty_82, mr_n_82, mr_isJ_82, mr_ty_83, mr_n_83, mr_isI_83, mr_ty_84, mr_n_84, mr_isI_84, mr_ty_85, mr_n_85, mr_isI_85, mr_ty_86, mr_n_86, mr_isI_86, mr_ty_87, mr_n_87, mr_isI_87, mr_ty_88, mr_n_88, mr_isI_88, mr_ty_89, mr_n_89, mr_isJ_89, mr_ty_90, mr_n_90, mr_isI_90, mr_ty_91, mr_n_91, mr_isI_91, mr_ty_92, mr_n_92, mr_isI_92, mr_ty_93, mr_n_93, mr_isI_93, mr_ty_94, mr_n_94, mr_isI_94, mr_ty_95, mr_n_95, mr_isI_95, mr_ty_96, mr_n_96, mr_isI_96, mr_ty_97, mr_n_97, mr_isI_97, mr_ty_98, mr_n_98, mr_isI_98, mr_ty_99, mr_n_99, mr_isI_99, mr_ty_100, mr_n_100, mr_isI_100, mr_ty_101, mr_n_101, mr_isI_101, mr_isF_1, mr_isF_3, mr_isF_4, mr_isF_10, mr_isF_12, mr_isF_18, mr_isF_19, mr_isF_21, mr_isF_22, mr_isF_23, mr_isF_26, mr_isF_34, mr_isF_37, mr_isF_38, mr_isF_39, mr_T_up, mr_T_upJ, mr_T_f, t1, t2, hk, eq_true e']
      rw [if_pos e]
    · have e' : ¬ nI p = 1 := fun z => e ((nI_eq (b := 1) (by omega) (by decide)).mp z)
      simp only [r272_0, r272_1, r272_3, r272_4, r272_5, r272_8, r272_10, r272_11, r272_12, r272_15, r272_16, r272_19, r272_20, r272_21, r272_22, r272_25, r272_26, r272_29, r272_30, r272_31, mx_isr_ref, mx_isr_null, mx_wt_nil, mx_wt_1, mx_wt_2, mx_wt_3, Option.bind_some, Option.toList_some, Option.toList_none, List.cons_append, List.nil_append, mx_nl_int, mx_nl_ref, mx_nl_null, mx_nl_none, mx_nb0, mx_nb1, mx_fb0, mx_fb1, mx_cat_int, mx_cat_ref, if_true, if_false, not_true_eq_false, not_false_eq_true, T, im, e2, st, T1, mr_ty_77, mr_n_77, mr_isI_77, mr_ty_78, mr_n_78, mr_isI_78, mr_ty_79, mr_n_79, mr_isI_79, mr_ty_80, mr_n_80, mr_isI_80, mr_ty_81, mr_n_81, mr_isI_81, mr_ty_82, mr_n_82, mr_isJ_82, mr_ty_83, mr_n_83, mr_isI_83, mr_ty_84, mr_n_84, mr_isI_84, mr_ty_85, mr_n_85, mr_isI_85, mr_ty_86, mr_n_86, mr_isI_86, mr_ty_87, mr_n_87, mr_isI_87, mr_ty_88, mr_n_88, mr_isI_88, mr_ty_89, mr_n_89, mr_isJ_89, mr_ty_90, mr_n_90, mr_isI_90, mr_ty_91, mr_n_91, mr_isI_91, mr_ty_92, mr_n_92, mr_isI_92, mr_ty_93, mr_n_93, mr_isI_93, mr_ty_94, mr_n_94, mr_isI_94, mr_ty_95, mr_n_95, mr_isI_95, mr_ty_96, mr_n_96, mr_isI_96, mr_ty_97, mr_n_97, mr_isI_97, mr_ty_98, mr_n_98, mr_isI_98, mr_ty_99, mr_n_99, mr_isI_99, mr_ty_100, mr_n_100, mr_isI_100, mr_ty_101, mr_n_101, mr_isI_101, mr_isF_1, mr_isF_3, mr_isF_4, mr_isF_10, mr_isF_12, mr_isF_18, mr_isF_19, mr_isF_21, mr_isF_22, mr_isF_23, mr_isF_26, mr_isF_34, mr_isF_37, mr_isF_38, mr_isF_39, mr_T_up, mr_T_upJ, mr_T_f, t1, t2, hk, e']
      rw [if_neg e]
  · rw [mi_up, if_neg (by omega), mi_r T (by omega)]
    rw [show 80 * 8 + (20 + 14 * k + 13) = 640 + 20 + 14 * k + 13 by omega]
  · rw [mi_up, l99]
    by_cases e : i = k
    · rw [if_pos ⟨rfl, e, hk⟩, if_pos e]
    · rw [if_neg (fun z => e z.2.1), if_neg e, mi_up, if_neg (by omega)]
/-- the place of the value of the member of this name -/
def mbi (ts : List tk) (l : List Nat) (w : List Nat) : Int32 := match fnd ts l w with | some m => nI (m + 2) | none => -1
theorem rm_memL (S : rm_TK h ts) {t : Nat} {w : List Nat} (hw : ∀ c ∈ w, 97 ≤ c ∧ c ≤ 122) (h9 : w.length ≤ 9) : ∀ l, chn ts 3 true l → mx_G (d + 3) 267 7 [some (.ref 76), some (.int (nI t)), some (.long (lN (enc w))), none, some (.int (nx l))] [] h = some (some (.int (mbi ts l w)), h) := by
  have T := S.1.1
  have hl := S.1.2.1
  intro l
  induction l with
  | nil =>
    intro _
    rw [r267_7, r267_9, if_pos nx_n]
    simp only [r267_40, r267_41, mx_isr_ref, mx_isr_null, mx_wt_nil, mx_wt_1, mx_wt_2, mx_wt_3, Option.bind_some, Option.toList_some, Option.toList_none, List.cons_append, List.nil_append, mx_nl_int, mx_nl_ref, mx_nl_null, mx_nl_none, mx_nb0, mx_nb1, mx_fb0, mx_fb1, mx_cat_int, mx_cat_ref, if_true, if_false, not_true_eq_false, not_false_eq_true]
    rfl
  | cons m l ih =>
    intro hc
    have hm := (isMem_1 (hc.1 rfl)).1
    have ml := tA3_lt hm
    have n1 : ¬ nx (m :: l) < 0 := nx_nn (by omega) l
    have af : mx_G (d + 2) 257 0 [some (.ref 76), some (.int (nI m)), some (.int 1), none] [] h = some (some (.int (nx l)), h) := rm_after S.1 hc
    have nm := rm_nameOf (d := d) S hm
    rw [r267_7, r267_9, if_neg n1]
    rw [show nx (m :: l) = nI m from rfl]
    have e2 : nI m + 2 = nI (m + 2) := nI_add m 2
    by_cases en : nmf ts m = w
    · have e3 : mbi ts (m :: l) w = nI (m + 2) := by
        unfold mbi fnd
        rw [List.find?_cons_of_pos (by simp [en])]
      rw [e3]
      simp only [r267_12, r267_13, r267_15, r267_18, r267_19, r267_20, r267_23, r267_25, r267_26, r267_27, mx_isr_ref, mx_isr_null, mx_wt_nil, mx_wt_1, mx_wt_2, mx_wt_3, Option.bind_some, Option.toList_some, Option.toList_none, List.cons_append, List.nil_append, mx_nl_int, mx_nl_ref, mx_nl_null, mx_nl_none, mx_nb0, mx_nb1, mx_fb0, mx_fb1, mx_cat_int, mx_cat_ref, if_true, if_false, not_true_eq_false, not_false_eq_true, T, nm, lg_cmp0, nmV_eq hw h9, eq_true en, e2]
    · have e3 : mbi ts (m :: l) w = mbi ts l w := by
        unfold mbi fnd
        rw [List.find?_cons_of_neg (by simp [en])]
      rw [e3, ← ih hc.2.2]
      simp only [r267_12, r267_13, r267_15, r267_18, r267_19, r267_20, r267_23, r267_25, r267_26, r267_27, r267_28, r267_29, r267_31, r267_32, r267_35, r267_37, mx_isr_ref, mx_isr_null, mx_wt_nil, mx_wt_1, mx_wt_2, mx_wt_3, Option.bind_some, Option.toList_some, Option.toList_none, List.cons_append, List.nil_append, mx_nl_int, mx_nl_ref, mx_nl_null, mx_nl_none, mx_nb0, mx_nb1, mx_fb0, mx_fb1, mx_cat_int, mx_cat_ref, if_true, if_false, not_true_eq_false, not_false_eq_true, T, nm, lg_cmp0, nmV_eq hw h9, eq_false en, af]
theorem rm_member (S : rm_TK h ts) {t : Nat} (hv : vOk ts t) (ho : tI ts t 123 = true) {w : List Nat} {u : Int64} (hu : u = lN (enc w)) (hw : ∀ c ∈ w, 97 ≤ c ∧ c ≤ 122) (h9 : w.length ≤ 9) : mx_G (d + 3) 267 0 [some (.ref 76), some (.int (nI t)), some (.long u), none, none] [] h = some (some (.int (mbi ts (kd ts t) w)), h) := by
  have T := S.1.1
  obtain ⟨e, hE, -⟩ := hv
  subst hu
  have fi := rm_first (d := d + 1) S.1 (by omega) hE (Or.inl ho)
  have L := rm_memL (d := d) S (t := t) hw h9 _ (kd_chn.1 ho)
  simp only [r267_0, r267_1, r267_2, r267_5, mx_isr_ref, mx_isr_null, mx_wt_nil, mx_wt_1, mx_wt_2, mx_wt_3, Option.bind_some, Option.toList_some, Option.toList_none, List.cons_append, List.nil_append, mx_nl_int, mx_nl_ref, mx_nl_null, mx_nl_none, mx_nb0, mx_nb1, mx_fb0, mx_fb1, mx_cat_int, mx_cat_ref, if_true, if_false, not_true_eq_false, not_false_eq_true, T, fi]
  exact L
theorem rm_stxL (S : rm_TK h ts) {t o : Nat} (ht : (tA ts t).1 = 3) (ho : o + 13 ≤ 80) : ∀ n k h1, k + n = 12 → mf P77 h h1 → ∃ h', mx_G (d + 1) 270 15 [some (.ref 76), some (.int (nI o)), some (.int (nI t)), some (.int (nI k))] [] h1 = some (none, h') ∧ mf P77 h h' ∧ ∀ i, mi h' 77 i = if 640 + o + 1 + k ≤ i ∧ i < 640 + o + 13 then nI ((tx ts t).getD (i - (640 + o + 1)) 0) else mi h1 77 i := by
  have hl := S.1.2.1
  have tl := tA3_lt ht
  have t1 : (nI t).toNatClampNeg = t := nI_clamp (by omega)
  have t2 : (0 : Int32) ≤ nI t := nI_pos' (by omega)
  have t3 : t < 130 := by omega
  intro n
  induction n with
  | zero =>
    intro k h1 hk m
    have e1 : (12 : Int32) ≤ nI k := nI_le (a := 12) (by omega) (by omega)
    refine ⟨h1, ?_, m, fun i => ?_⟩
    · simp only [r270_15, r270_16, r270_18, r270_65, mx_isr_ref, mx_isr_null, mx_wt_nil, mx_wt_1, mx_wt_2, mx_wt_3, Option.bind_some, Option.toList_some, Option.toList_none, List.cons_append, List.nil_append, mx_nl_int, mx_nl_ref, mx_nl_null, mx_nl_none, mx_nb0, mx_nb1, mx_fb0, mx_fb1, mx_cat_int, mx_cat_ref, if_true, if_false, not_true_eq_false, not_false_eq_true, e1]
    · rw [if_neg (by omega)]
  | succ n ih =>
    intro k h1 hk m
    have T1 := m.1
    obtain ⟨f, fa, f1, f2, f3⟩ := rm_str (TS_mf S.1 m tk77) ht
    have e1 : ¬ (12 : Int32) ≤ nI k := nI_ge (b := 12) (by omega) (by decide)
    have e2 : nI o + 1 + nI k = nI (o + 1 + k) := by rw [nI_1, nI_add]
    have hx : 80 * 8 + (o + 1 + k) < 800 := by omega
    have st : ∀ v, mx_G d 260 0 [some (.ref 76), some (.int 8), some (.int (nI (o + 1 + k))), some (.int v)] [] h1 = some (none, mx_up h1 77 (80 * 8 + (o + 1 + k)) (.int v)) := fun v => rm_set (s := 8) T1 hx
    have m2 : ∀ v, mf P77 h (mx_up h1 77 (80 * 8 + (o + 1 + k)) (.int v)) := fun v => mf_up m (by decide) (P77_t (by omega))
    obtain ⟨h', r, m', g⟩ := ih (k + 1) (mx_up h1 77 (80 * 8 + (o + 1 + k)) (.int (nI ((tx ts t).getD k 0)))) (by omega) (m2 _)
    refine ⟨h', ?_, m', fun i => ?_⟩
    · rw [← r, r270_15]
      by_cases c : k < (tx ts t).length
      · have e3 : ¬ nI (tx ts t).length ≤ nI k := nI_ge c (by omega)
        have k1 : (nI (f + k)).toNatClampNeg = f + k := nI_clamp (by omega)
        have k2 : (0 : Int32) ≤ nI (f + k) := nI_pos' (by omega)
        have k3 : f + k < 130 := by omega
        have f4 := f3 k c
        simp only [r270_16, r270_18, r270_21, r270_22, r270_24, r270_25, r270_26, r270_27, r270_28, r270_29, r270_30, r270_31, r270_34, r270_35, r270_36, r270_39, r270_40, r270_43, r270_44, r270_47, r270_48, r270_49, r270_50, r270_51, r270_52, r270_55, r270_56, r270_59, r270_62, mx_isr_ref, mx_isr_null, mx_wt_nil, mx_wt_1, mx_wt_2, mx_wt_3, Option.bind_some, Option.toList_some, Option.toList_none, List.cons_append, List.nil_append, mx_nl_int, mx_nl_ref, mx_nl_null, mx_nl_none, mx_nb0, mx_nb1, mx_fb0, mx_fb1, mx_cat_int, mx_cat_ref, if_true, if_false, not_true_eq_false, not_false_eq_true, T1, mr_ty_77, mr_n_77, mr_isI_77, mr_ty_78, mr_n_78, mr_isI_78, mr_ty_79, mr_n_79, mr_isI_79, mr_ty_80, mr_n_80, mr_isI_80, mr_ty_81, mr_n_81, mr_isI_81, mr_ty_82, mr_n_82, mr_isJ_82, mr_ty_83, mr_n_83, mr_isI_83, mr_ty_84, mr_n_84, mr_isI_84, mr_ty_85, mr_n_85, mr_isI_85, mr_ty_86, mr_n_86, mr_isI_86, mr_ty_87, mr_n_87, mr_isI_87, mr_ty_88, mr_n_88, mr_isI_88, mr_ty_89, mr_n_89, mr_isJ_89, mr_ty_90, mr_n_90, mr_isI_90, mr_ty_91, mr_n_91, mr_isI_91, mr_ty_92, mr_n_92, mr_isI_92, mr_ty_93, mr_n_93, mr_isI_93, mr_ty_94, mr_n_94, mr_isI_94, mr_ty_95, mr_n_95, mr_isI_95, mr_ty_96, mr_n_96, mr_isI_96, mr_ty_97, mr_n_97, mr_isI_97, mr_ty_98, mr_n_98, mr_isI_98, mr_ty_99, mr_n_99, mr_isI_99, mr_ty_100, mr_n_100, mr_isI_100, mr_ty_101, mr_n_101, mr_isI_101, mr_isF_1, mr_isF_3, mr_isF_4, mr_isF_10, mr_isF_12, mr_isF_18, mr_isF_19, mr_isF_21, mr_isF_22, mr_isF_23, mr_isF_26, mr_isF_34, mr_isF_37, mr_isF_38, mr_isF_39, mr_T_up, mr_T_upJ, mr_T_f, e1, e2, t1, t2, t3, f1, f2, e3, nI_add, k1, k2, k3, f4, st, nI_1]
      · have e3 : nI (tx ts t).length ≤ nI k := nI_le (by omega) (by omega)
        have e4 : (tx ts t).getD k 0 = 0 := by rw [List.getD_eq_getElem?_getD, List.getElem?_eq_none (by omega)]; rfl
        rw [e4]
        simp only [r270_16, r270_18, r270_21, r270_22, r270_24, r270_25, r270_26, r270_27, r270_28, r270_29, r270_30, r270_31, r270_34, r270_35, r270_36, r270_39, r270_40, r270_43, r270_44, r270_47, r270_48, r270_49, r270_50, r270_51, r270_52, r270_55, r270_56, r270_59, r270_62, mx_isr_ref, mx_isr_null, mx_wt_nil, mx_wt_1, mx_wt_2, mx_wt_3, Option.bind_some, Option.toList_some, Option.toList_none, List.cons_append, List.nil_append, mx_nl_int, mx_nl_ref, mx_nl_null, mx_nl_none, mx_nb0, mx_nb1, mx_fb0, mx_fb1, mx_cat_int, mx_cat_ref, if_true, if_false, not_true_eq_false, not_false_eq_true, T1, mr_ty_77, mr_n_77, mr_isI_77, mr_ty_78, mr_n_78, mr_isI_78, mr_ty_79, mr_n_79, mr_isI_79, mr_ty_80, mr_n_80, mr_isI_80, mr_ty_81, mr_n_81, mr_isI_81, mr_ty_82, mr_n_82, mr_isJ_82, mr_ty_83, mr_n_83, mr_isI_83, mr_ty_84, mr_n_84, mr_isI_84, mr_ty_85, mr_n_85, mr_isI_85, mr_ty_86, mr_n_86, mr_isI_86, mr_ty_87, mr_n_87, mr_isI_87, mr_ty_88, mr_n_88, mr_isI_88, mr_ty_89, mr_n_89, mr_isJ_89, mr_ty_90, mr_n_90, mr_isI_90, mr_ty_91, mr_n_91, mr_isI_91, mr_ty_92, mr_n_92, mr_isI_92, mr_ty_93, mr_n_93, mr_isI_93, mr_ty_94, mr_n_94, mr_isI_94, mr_ty_95, mr_n_95, mr_isI_95, mr_ty_96, mr_n_96, mr_isI_96, mr_ty_97, mr_n_97, mr_isI_97, mr_ty_98, mr_n_98, mr_isI_98, mr_ty_99, mr_n_99, mr_isI_99, mr_ty_100, mr_n_100, mr_isI_100, mr_ty_101, mr_n_101, mr_isI_101, mr_isF_1, mr_isF_3, mr_isF_4, mr_isF_10, mr_isF_12, mr_isF_18, mr_isF_19, mr_isF_21, mr_isF_22, mr_isF_23, mr_isF_26, mr_isF_34, mr_isF_37, mr_isF_38, mr_isF_39, mr_T_up, mr_T_upJ, mr_T_f, e1, e2, t1, t2, t3, f2, e3, nI_1, nI_add, st]
        rfl
    · rw [g, mi_r T1 hx]
      by_cases c : 640 + o + 1 + k ≤ i ∧ i < 640 + o + 13
      · rw [if_pos c]
        by_cases c2 : i = 80 * 8 + (o + 1 + k)
        · rw [if_neg (by omega), if_pos c2]
          congr 2
          omega
        · rw [if_pos (by omega)]
      · rw [if_neg c, if_neg (by omega), if_neg (by omega)]
theorem rm_setText (S : rm_TK h ts) {t o : Nat} (ht : (tA ts t).1 = 3) (ho : o + 13 ≤ 80) : ∃ h', mx_G (d + 1) 270 0 [some (.ref 76), some (.int (nI o)), some (.int (nI t)), none] [] h = some (none, h') ∧ mf P77 h h' ∧ ∀ i, mi h' 77 i = if 640 + o ≤ i ∧ i < 640 + o + 13 then te (tx ts t) (i - (640 + o)) else mi h 77 i := by
  have T := S.1.1
  have hl := S.1.2.1
  have tl := tA3_lt ht
  obtain ⟨f, fa, f1, f2, f3⟩ := rm_str S.1 ht
  have t1 : (nI t).toNatClampNeg = t := nI_clamp (by omega)
  have t2 : (0 : Int32) ≤ nI t := nI_pos' (by omega)
  have t3 : t < 130 := by omega
  have st : ∀ v, mx_G d 260 0 [some (.ref 76), some (.int 8), some (.int (nI o)), some (.int v)] [] h = some (none, mx_up h 77 (80 * 8 + o) (.int v)) := fun v => rm_set (s := 8) T (by omega)
  have m2 : mf P77 h (mx_up h 77 (80 * 8 + o) (.int (nI (tx ts t).length))) := mf_up (mf_rfl T) (by decide) (P77_t (by omega))
  obtain ⟨h', r, m', g⟩ := rm_stxL (d := d) S ht ho 12 0 _ rfl m2
  refine ⟨h', ?_, m', fun i => ?_⟩
  · rw [← r]
    simp only [r270_0, r270_1, r270_3, r270_4, r270_5, r270_8, r270_9, r270_10, r270_13, r270_14, mx_isr_ref, mx_isr_null, mx_wt_nil, mx_wt_1, mx_wt_2, mx_wt_3, Option.bind_some, Option.toList_some, Option.toList_none, List.cons_append, List.nil_append, mx_nl_int, mx_nl_ref, mx_nl_null, mx_nl_none, mx_nb0, mx_nb1, mx_fb0, mx_fb1, mx_cat_int, mx_cat_ref, if_true, if_false, not_true_eq_false, not_false_eq_true, T, mr_ty_77, mr_n_77, mr_isI_77, mr_ty_78, mr_n_78, mr_isI_78, mr_ty_79, mr_n_79, mr_isI_79, mr_ty_80, mr_n_80, mr_isI_80, mr_ty_81, mr_n_81, mr_isI_81, mr_ty_82, mr_n_82, mr_isJ_82, mr_ty_83, mr_n_83, mr_isI_83, mr_ty_84, mr_n_84, mr_isI_84, mr_ty_85, mr_n_85, mr_isI_85, mr_ty_86, mr_n_86, mr_isI_86, mr_ty_87, mr_n_87, mr_isI_87, mr_ty_88, mr_n_88, mr_isI_88, mr_ty_89, mr_n_89, mr_isJ_89, mr_ty_90, mr_n_90, mr_isI_90, mr_ty_91, mr_n_91, mr_isI_91, mr_ty_92, mr_n_92, mr_isI_92, mr_ty_93, mr_n_93, mr_isI_93, mr_ty_94, mr_n_94, mr_isI_94, mr_ty_95, mr_n_95, mr_isI_95, mr_ty_96, mr_n_96, mr_isI_96, mr_ty_97, mr_n_97, mr_isI_97, mr_ty_98, mr_n_98, mr_isI_98, mr_ty_99, mr_n_99, mr_isI_99, mr_ty_100, mr_n_100, mr_isI_100, mr_ty_101, mr_n_101, mr_isI_101, mr_isF_1, mr_isF_3, mr_isF_4, mr_isF_10, mr_isF_12, mr_isF_18, mr_isF_19, mr_isF_21, mr_isF_22, mr_isF_23, mr_isF_26, mr_isF_34, mr_isF_37, mr_isF_38, mr_isF_39, mr_T_up, mr_T_upJ, mr_T_f, t1, t2, t3, f2, st]
    rfl
  · rw [g, mi_r T (by omega)]
    unfold te
    by_cases c : 640 + o ≤ i ∧ i < 640 + o + 13
    · rw [if_pos c]
      by_cases c2 : i = 80 * 8 + o
      · rw [if_neg (by omega), if_pos c2, if_pos (by omega)]
      · rw [if_pos (by omega), if_neg (by omega)]
        congr 2
    · rw [if_neg c, if_neg (by omega), if_neg (by omega)]
end
