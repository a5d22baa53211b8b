/-! StringBuilder: append of a number. -/
def dOn : List Nat := (List.range 100).map fun r => 48 + r % 10
def dTe : List Nat := (List.range 100).map fun r => 48 + r / 10
def KD (h : mx_H) : Prop := h[5]? = some (.inr .byte, nvs dOn) ∧ h[6]? = some (.inr .byte, nvs dTe)
theorem KD.fr {F : List Nat} {h h' : mx_H} (K : KD h) (f : Fr F h h') (hF : ∀ a ∈ F, 63 ≤ a) : KD h' := ⟨f.at K.1 (fun z => by have := hF _ z; omega), f.at K.2 (fun z => by have := hF _ z; omega)⟩
theorem KD_f {h : mx_H} (K : KD h) {r : Nat} (hr : r < 100) : mx_tag h 5 = some (.inr .byte) ∧ mx_ln h 5 = 100 ∧ mx_el h 5 r = .int (nI (48 + r % 10)) ∧ mx_tag h 6 = some (.inr .byte) ∧ mx_ln h 6 = 100 ∧ mx_el h 6 r = .int (nI (48 + r / 10)) := by
  refine ⟨ce_t K.1, by rw [ce_n K.1]; rfl, ?_, ce_t K.2, by rw [ce_n K.2]; rfl, ?_⟩
  · rw [ce_e K.1, bs_get _ _ (show r < 100 from hr)]
    simp [dOn, List.getD_eq_getElem?_getD, hr]
  · rw [ce_e K.2, bs_get _ _ (show r < 100 from hr)]
    simp [dTe, List.getD_eq_getElem?_getD, hr]
theorem neg_I (a : Nat) : - nI a = Int32.ofInt (-(a : Int)) := by rw [Int32.ofInt_neg, oI_nat]
theorem neg_toInt {a : Nat} (h : a < 2 ^ 31) : (- nI a).toInt = -(a : Int) := by
  rw [neg_I, Int32.toInt_ofInt_of_le (by omega) (by omega)]
theorem neg_le {a b : Nat} (ha : a < 2 ^ 31) (hb : b < 2 ^ 31) : (- nI a ≤ - nI b) = (b ≤ a) := by
  rw [Int32.le_iff_toInt_le, neg_toInt ha, neg_toInt hb]
  apply propext
  omega
theorem neg_lt {a b : Nat} (ha : a < 2 ^ 31) (hb : b < 2 ^ 31) : (- nI a < - nI b) = (b < a) := by
  rw [Int32.lt_iff_toInt_lt, neg_toInt ha, neg_toInt hb]
  apply propext
  omega
theorem neg_neg' (a : Nat) : - (- nI a) = nI a := Int32.neg_neg
theorem neg_div {m : Nat} (h : m < 2 ^ 31) : (- nI m) / 100 = - nI (m / 100) := by
  apply Int32.toInt_inj.mp
  rw [Int32.toInt_div, neg_toInt h, neg_toInt (by omega), show (100 : Int32).toInt = 100 from rfl]
  have e : (-(m : Int)).tdiv 100 = -((m / 100 : Nat) : Int) := by
    rw [Int.neg_tdiv]
    congr 1
  rw [e]
  apply Int.bmod_eq_of_le <;> omega
theorem neg_rem {m : Nat} (h : m < 2 ^ 31) : - nI (m / 100) * 100 - - nI m = nI (m % 100) := by
  have e1 : - nI (m / 100) * 100 = - nI (m / 100 * 100) := by rw [show (100 : Int32) = nI 100 from rfl, Int32.neg_mul, nI_mul]
  rw [e1, Int32.sub_eq_add_neg, Int32.neg_neg, Int32.add_comm, ← Int32.sub_eq_add_neg, nI_sub (by omega)]
  congr 1
  omega
/-- digits -/
theorem dgs_fuel : ∀ (f g m : Nat), m < 10 ^ (f + 1) → m < 10 ^ (g + 1) → dgs f m = dgs g m := by
  intro f
  induction f with
  | zero =>
    intro g m h1 h2
    have : m < 10 := by simpa using h1
    cases g with
    | zero => rfl
    | succ g => rw [dgs, dgs, if_pos this, Nat.mod_eq_of_lt this]
  | succ f ih =>
    intro g m h1 h2
    by_cases c : m < 10
    · rw [dgs, if_pos c]
      cases g with
      | zero => rw [dgs, Nat.mod_eq_of_lt c]
      | succ g => rw [dgs, if_pos c]
    · rw [dgs, if_neg c]
      cases g with
      | zero => simp at h2; omega
      | succ g =>
        rw [dgs, if_neg c, ih g (m / 10) (by rw [Nat.div_lt_iff_lt_mul (by decide)]; rw [Nat.pow_succ] at h1; omega) (by rw [Nat.div_lt_iff_lt_mul (by decide)]; rw [Nat.pow_succ] at h2; omega)]
def dg (m : Nat) : List Nat := dgs 10 m
theorem dg_lo {m : Nat} (h : m < 10) : dg m = [48 + m] := by unfold dg; rw [dgs, if_pos h]
theorem dg_mid {m : Nat} (h1 : 10 ≤ m) (h2 : m < 100) : dg m = [48 + m / 10, 48 + m % 10] := by
  unfold dg
  rw [dgs, if_neg (by omega), dgs, if_pos (by omega)]
  rfl
theorem dg_hi {m : Nat} (h1 : 100 ≤ m) (h2 : m < 2 ^ 31) : dg m = dg (m / 100) ++ [48 + m / 10 % 10, 48 + m % 10] := by
  unfold dg
  rw [dgs, if_neg (by omega), dgs, if_neg (by omega), Nat.div_div_eq_div_mul, dgs_fuel 8 10 (m / (10 * 10)) (by have : (10 : Nat) ^ (8 + 1) = 1000000000 := (by decide); omega) (by have : (10 : Nat) ^ (10 + 1) = 100000000000 := (by decide); omega)]
  simp
theorem dg_len {m : Nat} : ∀ j f, 1 ≤ j → j ≤ f + 1 → (j = 1 ∨ 10 ^ (j - 1) ≤ m) → m < 10 ^ j → (dgs f m).length = j := by
  intro j
  induction j generalizing m with
  | zero => intro f h; omega
  | succ j ih =>
    intro f h1 h2 h3 h4
    by_cases c : m < 10
    · have hj : j = 0 := by
        rcases h3 with z | z
        · omega
        · by_cases hj : j = 0
          · exact hj
          · rw [show j + 1 - 1 = (j - 1) + 1 by omega, Nat.pow_succ] at z
            have : 0 < 10 ^ (j - 1) := Nat.pow_pos (by decide)
            omega
      subst hj
      cases f with
      | zero => rfl
      | succ f => rw [dgs, if_pos c]; rfl
    · have hj : 1 ≤ j := by
        by_cases hj : j = 0
        · subst hj; simp at h4; omega
        · omega
      cases f with
      | zero => omega
      | succ f =>
        rw [dgs, if_neg c, List.length_append, List.length_singleton]
        rw [ih f hj (by omega) ?_ ?_]
        · by_cases hj1 : j = 1
          · exact Or.inl hj1
          · rcases h3 with z | z
            · omega
            · refine Or.inr ?_
              rw [show j + 1 - 1 = (j - 1) + 1 by omega, Nat.pow_succ] at z
              rw [Nat.le_div_iff_mul_le (by decide)]
              exact z
        · rw [Nat.div_lt_iff_lt_mul (by decide)]
          rw [Nat.pow_succ] at h4
          exact h4
theorem dg_lt {m : Nat} : ∀ f, ∀ c ∈ dgs f m, c < 128 := by
  intro f
  induction f generalizing m with
  | zero => intro c hc; rw [dgs, List.mem_singleton] at hc; omega
  | succ f ih =>
    intro c hc
    rw [dgs] at hc
    split at hc
    · rw [List.mem_singleton] at hc; omega
    · rcases List.mem_append.mp hc with z | z
      · exact ih c z
      · rw [List.mem_singleton] at z; omega
section
variable {d : Nat}
theorem ja_sizeL {h : mx_H} {m : Nat} (hm : m < 1000000000) {dd : Nat} (hd : dd ≤ 1) : ∀ k i, k + i = 9 → 1 ≤ i → (i = 1 ∨ 10 ^ (i - 1) ≤ m) → mx_G d 226 16 [some (.int (- nI m)), some (.int (nI dd)), some (.int (- nI (10 ^ i))), some (.int (nI i))] [] h = some (some (.int (nI ((dg m).length + dd))), h) := by
  intro k
  induction k with
  | zero =>
    intro i hi h1 h2
    have : i = 9 := by omega
    subst this
    have hl := dg_len (m := m) 9 10 (by decide) (by decide) h2 (by have : (10 : Nat) ^ 9 = 1000000000 := (by decide); omega)
    have q : ¬ 10 ^ 9 ≤ m := by have : (10 : Nat) ^ 9 = 1000000000 := (by decide); omega
    have e9 : (10 : Nat) ^ 9 < 2 ^ 31 := by decide
    simp only [g226_16, g226_17, g226_19, g226_22, g226_23, g226_24, g226_27, g226_28, g226_29, g226_30, mx_isr_ref, mx_isr_null, mx_wt_nil, mx_wt_1, mx_wt_2, mx_wt_3, Option.bind_some, Option.toList_some, Option.toList_none, List.cons_append, List.nil_append, mx_nl_int, mx_nl_ref, mx_nl_null, mx_nl_none, mx_nb0, mx_nb1, mx_fb0, mx_fb1, mx_cat_int, mx_cat_ref, if_true, if_false, not_true_eq_false, not_false_eq_true, mx_wt_4, mx_w4_0, mx_w9_0, mx_w9_1, mx_kn_int, mx_kn_ref, mx_kn_null, Nat.reduceLT, ofn, n10, show ¬ (10 : Int32) ≤ nI 9 by decide, neg_le (show m < 2 ^ 31 by omega) e9, q, nI_add]
    unfold dg
    rw [hl]
  | succ k ih =>
    intro i hi h1 h2
    have hi9 : i ≤ 8 := by omega
    have p9 : (10 : Nat) ^ i ≤ 10 ^ 8 := Nat.pow_le_pow_right (by decide) hi9
    have e8 : (10 : Nat) ^ 8 = 100000000 := by decide
    have q10 : ¬ (10 : Int32) ≤ nI i := nI_ge (b := 10) (by omega) (by decide)
    rw [g226_16]
    by_cases c : 10 ^ i ≤ m
    · have e10 : (10 : Int32) * - nI (10 ^ i) = - nI (10 ^ (i + 1)) := by
        rw [show (10 : Int32) = nI 10 from rfl, Int32.mul_neg, nI_mul, Nat.pow_succ, Nat.mul_comm]
      simp only [g226_17, g226_19, g226_22, g226_23, g226_24, g226_27, g226_28, g226_29, g226_30, g226_31, g226_33, g226_34, g226_35, g226_36, g226_39, mx_isr_ref, mx_isr_null, mx_wt_nil, mx_wt_1, mx_wt_2, mx_wt_3, Option.bind_some, Option.toList_some, Option.toList_none, List.cons_append, List.nil_append, mx_nl_int, mx_nl_ref, mx_nl_null, mx_nl_none, mx_nb0, mx_nb1, mx_fb0, mx_fb1, mx_cat_int, mx_cat_ref, if_true, if_false, not_true_eq_false, not_false_eq_true, mx_wt_4, mx_w4_0, mx_w9_0, mx_w9_1, mx_kn_int, mx_kn_ref, mx_kn_null, Nat.reduceLT, ofn, n10, q10, neg_le (show m < 2 ^ 31 by omega) (show 10 ^ i < 2 ^ 31 by omega), c, e10, nI_1]
      exact ih (i + 1) (by omega) (by omega) (Or.inr (by rw [Nat.add_sub_cancel]; exact c))
    · have hl := dg_len (m := m) i 10 h1 (by omega) h2 (by omega)
      simp only [g226_17, g226_19, g226_22, g226_23, g226_24, g226_27, g226_28, g226_29, g226_30, mx_isr_ref, mx_isr_null, mx_wt_nil, mx_wt_1, mx_wt_2, mx_wt_3, Option.bind_some, Option.toList_some, Option.toList_none, List.cons_append, List.nil_append, mx_nl_int, mx_nl_ref, mx_nl_null, mx_nl_none, mx_nb0, mx_nb1, mx_fb0, mx_fb1, mx_cat_int, mx_cat_ref, if_true, if_false, not_true_eq_false, not_false_eq_true, mx_wt_4, mx_w4_0, mx_w9_0, mx_w9_1, mx_kn_int, mx_kn_ref, mx_kn_null, Nat.reduceLT, ofn, n10, q10, neg_le (show m < 2 ^ 31 by omega) (show 10 ^ i < 2 ^ 31 by omega), c, nI_add]
      unfold dg
      rw [Nat.add_comm, hl]
      rw [Nat.add_comm]
theorem wI_dg (v : Int) : wI v = if v < 0 then 45 :: dg (-v).toNat else dg v.toNat := rfl
theorem ja_size {h : mx_H} {v : Int} (hv : nb v) : mx_G d 226 0 [some (.int (Int32.ofInt v)), none, none, none] [] h = some (some (.int (nI (wI v).length)), h) := by
  have e1 := i32_toInt hv
  rw [wI_dg]
  obtain ⟨v1, v2⟩ := hv
  by_cases c : v < 0
  · obtain ⟨m, hm⟩ : ∃ m : Nat, v = -(m : Int) := ⟨(-v).toNat, by omega⟩
    have L := ja_sizeL (d := d) (h := h) (m := m) (by omega) (dd := 1) (by decide) 8 1 (by decide) (by decide) (Or.inl rfl)
    have q : Int32.ofInt v < 0 := by rw [Int32.lt_iff_toInt_lt, e1]; exact c
    rw [if_pos c, List.length_cons, show (-v).toNat = m by omega]
    rw [hm] at q ⊢
    rw [← neg_I] at q ⊢
    simp only [g226_0, g226_1, g226_2, g226_3, g226_6, g226_7, g226_8, g226_9, g226_10, g226_11, g226_13, g226_14, g226_15, mx_isr_ref, mx_isr_null, mx_wt_nil, mx_wt_1, mx_wt_2, mx_wt_3, Option.bind_some, Option.toList_some, Option.toList_none, List.cons_append, List.nil_append, mx_nl_int, mx_nl_ref, mx_nl_null, mx_nl_none, mx_nb0, mx_nb1, mx_fb0, mx_fb1, mx_cat_int, mx_cat_ref, if_true, if_false, not_true_eq_false, not_false_eq_true, mx_wt_4, mx_w4_0, mx_w9_0, mx_w9_1, mx_kn_int, mx_kn_ref, mx_kn_null, Nat.reduceLT, ofn, n10, q]
    exact L
  · obtain ⟨m, hm⟩ : ∃ m : Nat, v = (m : Int) := ⟨v.toNat, by omega⟩
    have L := ja_sizeL (d := d) (h := h) (m := m) (by omega) (dd := 0) (by decide) 8 1 (by decide) (by decide) (Or.inl rfl)
    have q : ¬ Int32.ofInt v < 0 := by
      rw [Int32.lt_iff_toInt_lt, e1]
      exact c
    rw [if_neg c, show v.toNat = m by omega]
    rw [hm] at q ⊢
    rw [oI_nat] at q ⊢
    simp only [g226_0, g226_1, g226_2, g226_3, g226_6, g226_7, g226_8, g226_9, g226_10, g226_11, g226_13, g226_14, g226_15, mx_isr_ref, mx_isr_null, mx_wt_nil, mx_wt_1, mx_wt_2, mx_wt_3, Option.bind_some, Option.toList_some, Option.toList_none, List.cons_append, List.nil_append, mx_nl_int, mx_nl_ref, mx_nl_null, mx_nl_none, mx_nb0, mx_nb1, mx_fb0, mx_fb1, mx_cat_int, mx_cat_ref, if_true, if_false, not_true_eq_false, not_false_eq_true, mx_wt_4, mx_w4_0, mx_w9_0, mx_w9_1, mx_kn_int, mx_kn_ref, mx_kn_null, Nat.reduceLT, ofn, n10, q]
    exact L
/-- the row with the digits laid in, ending at e -/
def wrP (us us' l : List Nat) (e : Nat) : Prop := us'.length = us.length ∧ (∀ c ∈ us', c < 128) ∧ ∀ k, us'.getD k 0 = if e - l.length ≤ k ∧ k < e then l.getD (k - (e - l.length)) 0 else us.getD k 0
theorem set_lt {us : List Nat} {i c : Nat} (hu : ∀ c ∈ us, c < 128) (hc : c < 128) : ∀ y ∈ us.set i c, y < 128 := by
  intro y hy
  rcases List.mem_or_eq_of_mem_set hy with z | z
  · exact hu y z
  · omega
theorem gd_set {us : List Nat} {i c k : Nat} (hi : i < us.length) : (us.set i c).getD k 0 = if k = i then c else us.getD k 0 := by
  by_cases e : k = i
  · subst e
    rw [if_pos rfl, gd_set_eq hi]
  · rw [if_neg e, gd_set_ne (Ne.symm e)]
theorem ja_charsL {x : Nat} {ix ng : Int32} (hx : 63 ≤ x) : ∀ (N m : Nat), m ≤ N → m < 1000000000 → ∀ (e : Nat) (h : mx_H) (us : List Nat) (l3 l4 : Option Value), mx_nl l3 = true → mx_nl l4 = true → KD h → h[x]? = some (.inr .byte, nvs us) → (∀ c ∈ us, c < 128) → (dg m).length ≤ e → e ≤ us.length → us.length ≤ 1000 →
    ∃ (h' : mx_H) (us' : List Nat) (i' : Int32) (l3' l4' : Option Value), mx_G d 227 22 [some (.int (- nI m)), some (.int ix), some (.ref x), l3, l4, some (.int (nI e)), some (.int ng)] [] h = mx_G d 227 104 [some (.int i'), some (.int ix), some (.ref x), l3', l4', some (.int (nI (e - (dg m).length))), some (.int ng)] [] h' ∧ mx_nl l4' = true ∧ h'[x]? = some (.inr .byte, nvs us') ∧ wrP us us' (dg m) e ∧ Fr [x] h h' ∧ mw h' = mw h := by
  have hnx : mt_nO ≤ x := by rw [show mt_nO = 63 by decide]; exact hx
  intro N
  induction N with
  | zero =>
    intro m hm hm9 e h us l3 l4 n3 n4 K ex hu hle heu h1000
    have : m = 0 := by omega
    subst this
    have hl : (dg 0).length = 1 := rfl
    rw [hl] at hle ⊢
    obtain ⟨e', rfl⟩ : ∃ e', e = e' + 1 := ⟨e - 1, by omega⟩
    obtain ⟨k1, k2, k3, k4, k5, k6⟩ := KD_f K (r := 0) (by decide)
    refine ⟨mx_up h x e' (.int (nI 48)), us.set e' 48, - nI 0, l3, l4, ?_, n4, by rw [c_up ex, bs_set], ⟨by rw [List.length_set], set_lt hu (by decide), fun k => ?_⟩, Fr.up (by simp), mw_up _ _ _ _⟩
    · simp only [g227_22, g227_23, g227_25, g227_72, g227_73, g227_76, g227_78, g227_81, g227_82, g227_83, g227_83z, g227_84, g227_84z, g227_85, g227_86, g227_88, mx_isr_ref, mx_isr_null, mx_wt_nil, mx_wt_1, mx_wt_2, mx_wt_3, Option.bind_some, Option.toList_some, Option.toList_none, List.cons_append, List.nil_append, mx_nl_int, mx_nl_ref, mx_nl_null, mx_nl_none, mx_nb0, mx_nb1, mx_fb0, mx_fb1, mx_cat_int, mx_cat_ref, if_true, if_false, not_true_eq_false, not_false_eq_true, mx_wt_4, mx_w4_0, mx_w9_0, mx_w9_1, mx_kn_int, mx_kn_ref, mx_kn_null, Nat.reduceLT, ofn, n10, show (-100 : Int32) < - nI 0 by decide, nI_prd2, neg_neg', k1, k2, show (0 : Int32) ≤ nI 0 by decide, show (nI 0).toNatClampNeg = 0 by decide, show (0 : Nat) < 100 by decide, k3, n4, ce_t ex, ce_n ex, bs_len, hnx, nI_pos' (show e' < 2 ^ 31 by omega), nI_clamp (show e' < 2 ^ 31 by omega), show e' < us.length by omega, (nI_c (show 48 + 0 % 10 < 128 by decide)).2.2.2.1, show (-9 : Int32) ≤ - nI 0 by decide, Nat.add_sub_cancel]
    · rw [gd_set (by omega), hl]
      by_cases c : k = e'
      · subst c
        rw [if_pos rfl, if_pos (by omega)]
        simp [dg_lo]
      · rw [if_neg c, if_neg (by omega)]
  | succ N ih =>
    intro m hm hm9 e h us l3 l4 n3 n4 K ex hu hle heu h1000
    by_cases c100 : 100 ≤ m
    · -- two digits, and on
      have hD := dg_hi c100 (by omega)
      have hlen : (dg m).length = (dg (m / 100)).length + 2 := by rw [hD]; simp
      obtain ⟨e', rfl⟩ : ∃ e', e = e' + 1 + 1 := ⟨e - 2, by omega⟩
      obtain ⟨k1, k2, k3, k4, k5, k6⟩ := KD_f K (r := m % 100) (by omega)
      have q100 : ¬ (-100 : Int32) < - nI m := by
        rw [show (-100 : Int32) = - nI 100 from rfl, neg_lt (by decide) (by omega)]
        omega
      have r1 : 48 + m % 100 % 10 = 48 + m % 10 := by omega
      have r2 : 48 + m % 100 / 10 = 48 + m / 10 % 10 := by omega
      rw [r1] at k3
      rw [r2] at k6
      have c1 : 48 + m % 10 < 128 := by omega
      have c2 : 48 + m / 10 % 10 < 128 := by omega
      have ex1 : (mx_up h x (e' + 1) (.int (nI (48 + m % 10))))[x]? = some (.inr .byte, nvs (us.set (e' + 1) (48 + m % 10))) := by rw [c_up ex, bs_set]
      have ex2 : (mx_up (mx_up h x (e' + 1) (.int (nI (48 + m % 10)))) x e' (.int (nI (48 + m / 10 % 10))))[x]? = some (.inr .byte, nvs ((us.set (e' + 1) (48 + m % 10)).set e' (48 + m / 10 % 10))) := by rw [c_up ex1, bs_set]
      have F2 : Fr [x] h (mx_up (mx_up h x (e' + 1) (.int (nI (48 + m % 10)))) x e' (.int (nI (48 + m / 10 % 10)))) := (Fr.up (by simp)).trans (Fr.up (F := [x]) (by simp)) (fun a ha => Or.inl ha)
      have K1 : KD (mx_up h x (e' + 1) (.int (nI (48 + m % 10)))) := K.fr (Fr.up (F := [x]) (by simp)) (by simpa using hx)
      obtain ⟨-, -, -, k4', k5', k6'⟩ := KD_f K1 (r := m % 100) (by omega)
      rw [r2] at k6'
      obtain ⟨h', us', i', l3', l4', i1, i2, i3, i4, i5, i6⟩ := ih (m / 100) (by omega) (by omega) e' _ _ (some (.int (- nI (m / 100)))) (some (.int (nI (m % 100)))) rfl rfl (K.fr F2 (by simpa using hx)) ex2 (set_lt (set_lt hu c1) c2) (by omega) (by simp; omega) (by simp; omega)
      refine ⟨h', us', i', l3', l4', ?_, i2, i3, ?_, F2.trans i5 (fun a ha => Or.inl ha), by rw [i6, mw_up, mw_up]⟩
      · rw [g227_22]
        simp only [g227_23, g227_25, g227_28, g227_29, g227_31, g227_32, g227_33, g227_34, g227_36, g227_37, g227_38, g227_39, g227_41, g227_42, g227_43, g227_44, g227_47, g227_49, g227_52, g227_54, g227_54z, g227_55, g227_55z, g227_56, g227_57, g227_60, g227_62, g227_65, g227_67, g227_67z, g227_68, g227_68z, g227_69, mx_isr_ref, mx_isr_null, mx_wt_nil, mx_wt_1, mx_wt_2, mx_wt_3, Option.bind_some, Option.toList_some, Option.toList_none, List.cons_append, List.nil_append, mx_nl_int, mx_nl_ref, mx_nl_null, mx_nl_none, mx_nb0, mx_nb1, mx_fb0, mx_fb1, mx_cat_int, mx_cat_ref, if_true, if_false, not_true_eq_false, not_false_eq_true, mx_wt_4, mx_w4_0, mx_w9_0, mx_w9_1, mx_kn_int, mx_kn_ref, mx_kn_null, Nat.reduceLT, ofn, n10, q100, neg_div (show m < 2 ^ 31 by omega), show ¬ (100 : Int32) = 0 by decide, neg_rem (show m < 2 ^ 31 by omega), nI_prd2, k1, k2, nI_pos' (show m % 100 < 2 ^ 31 by omega), nI_clamp (show m % 100 < 2 ^ 31 by omega), show m % 100 < 100 by omega, k3, ce_t ex, ce_n ex, bs_len, hnx, nI_pos' (show e' + 1 < 2 ^ 31 by omega), nI_clamp (show e' + 1 < 2 ^ 31 by omega), show e' + 1 < us.length by omega, (nI_c c1).2.2.2.1, k4', k5', k6', mx_tag_up, mx_ln_up, nI_pos' (show e' < 2 ^ 31 by omega), nI_clamp (show e' < 2 ^ 31 by omega), show e' < us.length by omega, (nI_c c2).2.2.2.1]
        rw [i1, hlen, show e' + 1 + 1 - ((dg (m / 100)).length + 2) = e' - (dg (m / 100)).length by omega]
      · obtain ⟨w1, w2, w3⟩ := i4
        refine ⟨by rw [w1]; simp, w2, fun k => ?_⟩
        rw [w3 k, gd_set (by simp; omega), gd_set (by omega), hlen]
        generalize hL : (dg (m / 100)).length = L at *
        by_cases a1 : e' - L ≤ k ∧ k < e'
        · rw [if_pos a1, if_pos (by omega), hD, List.getD_eq_getElem?_getD, List.getD_eq_getElem?_getD, List.getElem?_append_left (by omega), show e' + 1 + 1 - (L + 2) = e' - L by omega]
        · rw [if_neg a1]
          by_cases a2 : k = e'
          · subst a2
            rw [if_pos rfl, if_pos (by omega), hD, List.getD_eq_getElem?_getD, List.getElem?_append_right (by omega), hL, show k - (k + 1 + 1 - (L + 2)) - L = 0 by omega]
            rfl
          · rw [if_neg a2]
            by_cases a3 : k = e' + 1
            · subst a3
              rw [if_pos rfl, if_pos (by omega), hD, List.getD_eq_getElem?_getD, List.getElem?_append_right (by omega), hL, show e' + 1 - (e' + 1 + 1 - (L + 2)) - L = 1 by omega]
              rfl
            · rw [if_neg a3, if_neg (by omega)]
    · have q100 : (-100 : Int32) < - nI m := by
        rw [show (-100 : Int32) = - nI 100 from rfl, neg_lt (by decide) (by omega)]
        omega
      obtain ⟨k1, k2, k3, k4, k5, k6⟩ := KD_f K (r := m) (by omega)
      have c1 : 48 + m % 10 < 128 := by omega
      by_cases c10 : m < 10
      · have hD := dg_lo c10
        have hl : (dg m).length = 1 := by rw [hD]; rfl
        rw [hl] at hle ⊢
        obtain ⟨e', rfl⟩ : ∃ e', e = e' + 1 := ⟨e - 1, by omega⟩
        have q9 : (-9 : Int32) ≤ - nI m := by
          rw [show (-9 : Int32) = - nI 9 from rfl, neg_le (by decide) (by omega)]
          omega
        refine ⟨mx_up h x e' (.int (nI (48 + m % 10))), us.set e' (48 + m % 10), - nI m, l3, l4, ?_, n4, by rw [c_up ex, bs_set], ⟨by rw [List.length_set], set_lt hu c1, fun k => ?_⟩, Fr.up (by simp), mw_up _ _ _ _⟩
        · simp only [g227_22, g227_23, g227_25, g227_72, g227_73, g227_76, g227_78, g227_81, g227_82, g227_83, g227_83z, g227_84, g227_84z, g227_85, g227_86, g227_88, mx_isr_ref, mx_isr_null, mx_wt_nil, mx_wt_1, mx_wt_2, mx_wt_3, Option.bind_some, Option.toList_some, Option.toList_none, List.cons_append, List.nil_append, mx_nl_int, mx_nl_ref, mx_nl_null, mx_nl_none, mx_nb0, mx_nb1, mx_fb0, mx_fb1, mx_cat_int, mx_cat_ref, if_true, if_false, not_true_eq_false, not_false_eq_true, mx_wt_4, mx_w4_0, mx_w9_0, mx_w9_1, mx_kn_int, mx_kn_ref, mx_kn_null, Nat.reduceLT, ofn, n10, q100, nI_prd2, neg_neg', k1, k2, nI_pos' (show m < 2 ^ 31 by omega), nI_clamp (show m < 2 ^ 31 by omega), show m < 100 by omega, k3, n4, ce_t ex, ce_n ex, bs_len, hnx, nI_pos' (show e' < 2 ^ 31 by omega), nI_clamp (show e' < 2 ^ 31 by omega), show e' < us.length by omega, (nI_c c1).2.2.2.1, q9, Nat.add_sub_cancel]
        · rw [gd_set (by omega), hl]
          by_cases c : k = e'
          · subst c
            rw [if_pos rfl, if_pos (by omega), hD]
            simp
            omega
          · rw [if_neg c, if_neg (by omega)]
      · have hD := dg_mid (by omega) (show m < 100 by omega)
        have hl : (dg m).length = 2 := by rw [hD]; rfl
        rw [hl] at hle ⊢
        obtain ⟨e', rfl⟩ : ∃ e', e = e' + 1 + 1 := ⟨e - 2, by omega⟩
        have q9 : ¬ (-9 : Int32) ≤ - nI m := by
          rw [show (-9 : Int32) = - nI 9 from rfl, neg_le (by decide) (by omega)]
          omega
        have c2 : 48 + m / 10 < 128 := by omega
        have ex1 : (mx_up h x (e' + 1) (.int (nI (48 + m % 10))))[x]? = some (.inr .byte, nvs (us.set (e' + 1) (48 + m % 10))) := by rw [c_up ex, bs_set]
        have K1 : KD (mx_up h x (e' + 1) (.int (nI (48 + m % 10)))) := K.fr (Fr.up (F := [x]) (by simp)) (by simpa using hx)
        obtain ⟨-, -, -, k4', k5', k6'⟩ := KD_f K1 (r := m) (by omega)
        refine ⟨mx_up (mx_up h x (e' + 1) (.int (nI (48 + m % 10)))) x e' (.int (nI (48 + m / 10))), (us.set (e' + 1) (48 + m % 10)).set e' (48 + m / 10), - nI m, l3, l4, ?_, n4, by rw [c_up ex1, bs_set], ⟨by simp, set_lt (set_lt hu c1) c2, fun k => ?_⟩, (Fr.up (by simp)).trans (Fr.up (F := [x]) (by simp)) (fun a ha => Or.inl ha), by rw [mw_up, mw_up]⟩
        · simp only [g227_22, g227_23, g227_25, g227_72, g227_73, g227_76, g227_78, g227_81, g227_82, g227_83, g227_83z, g227_84, g227_84z, g227_85, g227_86, g227_88, g227_91, g227_92, g227_95, g227_97, g227_100, g227_101, g227_102, g227_102z, g227_103, g227_103z, mx_isr_ref, mx_isr_null, mx_wt_nil, mx_wt_1, mx_wt_2, mx_wt_3, Option.bind_some, Option.toList_some, Option.toList_none, List.cons_append, List.nil_append, mx_nl_int, mx_nl_ref, mx_nl_null, mx_nl_none, mx_nb0, mx_nb1, mx_fb0, mx_fb1, mx_cat_int, mx_cat_ref, if_true, if_false, not_true_eq_false, not_false_eq_true, mx_wt_4, mx_w4_0, mx_w9_0, mx_w9_1, mx_kn_int, mx_kn_ref, mx_kn_null, Nat.reduceLT, ofn, n10, q100, nI_prd2, neg_neg', k1, k2, nI_pos' (show m < 2 ^ 31 by omega), nI_clamp (show m < 2 ^ 31 by omega), show m < 100 by omega, k3, n4, ce_t ex, ce_n ex, bs_len, hnx, nI_pos' (show e' + 1 < 2 ^ 31 by omega), nI_clamp (show e' + 1 < 2 ^ 31 by omega), show e' + 1 < us.length by omega, (nI_c c1).2.2.2.1, q9, k4', k5', k6', mx_tag_up, mx_ln_up, nI_pos' (show e' < 2 ^ 31 by omega), nI_clamp (show e' < 2 ^ 31 by omega), show e' < us.length by omega, (nI_c c2).2.2.2.1]
          rfl
        · rw [gd_set (by simp; omega), gd_set (by omega), hl, hD]
          by_cases a2 : k = e'
          · subst a2
            rw [if_pos rfl, if_pos (by omega), show k - (k + 1 + 1 - 2) = 0 by omega]
            rfl
          · rw [if_neg a2]
            by_cases a3 : k = e' + 1
            · subst a3
              rw [if_pos rfl, if_pos (by omega), show e' + 1 - (e' + 1 + 1 - 2) = 1 by omega]
              rfl
            · rw [if_neg a3, if_neg (by omega)]
theorem ja_chars {x : Nat} {h : mx_H} {us : List Nat} {v : Int} {e : Nat} (hv : nb v) (hx : 63 ≤ x) (K : KD h) (ex : h[x]? = some (.inr .byte, nvs us)) (hu : ∀ c ∈ us, c < 128) (he : (wI v).length ≤ e) (heu : e ≤ us.length) (h1000 : us.length ≤ 1000) :
    ∃ (h' : mx_H) (us' : List Nat), mx_G d 227 0 [some (.int (Int32.ofInt v)), some (.int (nI e)), some (.ref x), none, none, none, none] [] h = some (some (.int (nI (e - (wI v).length))), h') ∧ h'[x]? = some (.inr .byte, nvs us') ∧ wrP us us' (wI v) e ∧ Fr [x] h h' ∧ mw h' = mw h := by
  have hnx : mt_nO ≤ x := by rw [show mt_nO = 63 by decide]; exact hx
  have e1 := i32_toInt hv
  rw [wI_dg] at he ⊢
  obtain ⟨v1, v2⟩ := hv
  by_cases c : v < 0
  · obtain ⟨m, hm⟩ : ∃ m : Nat, v = -(m : Int) := ⟨(-v).toNat, by omega⟩
    have q : ¬ 0 ≤ Int32.ofInt v := by
      rw [Int32.le_iff_toInt_le, e1]
      show ¬ (0 : Int) ≤ v
      omega
    rw [if_pos c, show (-v).toNat = m by omega] at he ⊢
    rw [List.length_cons] at he ⊢
    obtain ⟨h1, u1, i1, l3, l4, g1, n4, x1, w1, F1, W1⟩ := ja_charsL (d := d) (x := x) (ix := nI e) (ng := 1) hx m m (Nat.le_refl _) (by omega) e h us none none rfl rfl K ex hu (by omega) heu h1000
    rw [hm] at q ⊢
    rw [← neg_I] at q ⊢
    have hG : mx_G d 227 0 [some (.int (- nI m)), some (.int (nI e)), some (.ref x), none, none, none, none] [] h = mx_G d 227 22 [some (.int (- nI m)), some (.int (nI e)), some (.ref x), none, none, some (.int (nI e)), some (.int 1)] [] h := by
      simp only [g227_0, g227_1, g227_3, g227_4, g227_7, g227_8, g227_11, g227_12, g227_14, g227_16, g227_19, g227_20, g227_21, mx_isr_ref, mx_isr_null, mx_wt_nil, mx_wt_1, mx_wt_2, mx_wt_3, Option.bind_some, Option.toList_some, Option.toList_none, List.cons_append, List.nil_append, mx_nl_int, mx_nl_ref, mx_nl_null, mx_nl_none, mx_nb0, mx_nb1, mx_fb0, mx_fb1, mx_cat_int, mx_cat_ref, if_true, if_false, not_true_eq_false, not_false_eq_true, mx_wt_4, mx_w4_0, mx_w9_0, mx_w9_1, mx_kn_int, mx_kn_ref, mx_kn_null, Nat.reduceLT, ofn, n10, q]
    obtain ⟨w2, w3, w4⟩ := w1
    obtain ⟨e', he'⟩ : ∃ e', e - (dg m).length = e' + 1 := ⟨e - (dg m).length - 1, by omega⟩
    refine ⟨mx_up h1 x e' (.int (nI 45)), u1.set e' 45, ?_, by rw [c_up x1, bs_set], ⟨by rw [List.length_set, w2], set_lt w3 (by decide), fun k => ?_⟩, F1.trans (Fr.up (F := [x]) (by simp)) (fun a ha => Or.inl ha), by rw [mw_up, W1]⟩
    · rw [hG, g1, he']
      simp only [g227_104, g227_106, g227_109, g227_110, g227_113, g227_115, g227_117, g227_117z, g227_118, g227_120, mx_isr_ref, mx_isr_null, mx_wt_nil, mx_wt_1, mx_wt_2, mx_wt_3, Option.bind_some, Option.toList_some, Option.toList_none, List.cons_append, List.nil_append, mx_nl_int, mx_nl_ref, mx_nl_null, mx_nl_none, mx_nb0, mx_nb1, mx_fb0, mx_fb1, mx_cat_int, mx_cat_ref, if_true, if_false, not_true_eq_false, not_false_eq_true, mx_wt_4, mx_w4_0, mx_w9_0, mx_w9_1, mx_kn_int, mx_kn_ref, mx_kn_null, Nat.reduceLT, ofn, n10, nI_prd2, n4, ce_t x1, ce_n x1, bs_len, w2, hnx, nI_pos' (show e' < 2 ^ 31 by omega), nI_clamp (show e' < 2 ^ 31 by omega), show e' < us.length by omega, show narrow .byte (.int 45) = .int (nI 45) by decide]
      rw [show e - ((dg m).length + 1) = e' by omega]
    · rw [gd_set (by omega), w4 k, List.length_cons]
      by_cases a1 : k = e'
      · subst a1
        rw [if_pos rfl, if_pos (by omega), show k - (e - ((dg m).length + 1)) = 0 by omega]
        rfl
      · rw [if_neg a1]
        by_cases a2 : e - (dg m).length ≤ k ∧ k < e
        · rw [if_pos a2, if_pos (by omega), show k - (e - ((dg m).length + 1)) = (k - (e - (dg m).length)) + 1 by omega]
          rfl
        · rw [if_neg a2, if_neg (by omega)]
  · obtain ⟨m, hm⟩ : ∃ m : Nat, v = (m : Int) := ⟨v.toNat, by omega⟩
    have q : 0 ≤ Int32.ofInt v := by
      rw [Int32.le_iff_toInt_le, e1]
      show (0 : Int) ≤ v
      omega
    rw [if_neg c, show v.toNat = m by omega] at he ⊢
    obtain ⟨h1, u1, i1, l3, l4, g1, n4, x1, w1, F1, W1⟩ := ja_charsL (d := d) (x := x) (ix := nI e) (ng := 0) hx m m (Nat.le_refl _) (by omega) e h us none none rfl rfl K ex hu (by omega) heu h1000
    rw [hm] at q ⊢
    rw [oI_nat] at q ⊢
    have hG : mx_G d 227 0 [some (.int (nI m)), some (.int (nI e)), some (.ref x), none, none, none, none] [] h = mx_G d 227 22 [some (.int (- nI m)), some (.int (nI e)), some (.ref x), none, none, some (.int (nI e)), some (.int 0)] [] h := by
      simp only [g227_0, g227_1, g227_3, g227_4, g227_7, g227_8, g227_11, g227_12, g227_14, g227_16, g227_19, g227_20, g227_21, mx_isr_ref, mx_isr_null, mx_wt_nil, mx_wt_1, mx_wt_2, mx_wt_3, Option.bind_some, Option.toList_some, Option.toList_none, List.cons_append, List.nil_append, mx_nl_int, mx_nl_ref, mx_nl_null, mx_nl_none, mx_nb0, mx_nb1, mx_fb0, mx_fb1, mx_cat_int, mx_cat_ref, if_true, if_false, not_true_eq_false, not_false_eq_true, mx_wt_4, mx_w4_0, mx_w9_0, mx_w9_1, mx_kn_int, mx_kn_ref, mx_kn_null, Nat.reduceLT, ofn, n10, q]
    refine ⟨h1, u1, ?_, x1, w1, F1, W1⟩
    rw [hG, g1]
    simp only [g227_104, g227_106, g227_109, g227_110, g227_113, g227_115, g227_117, g227_117z, g227_118, g227_120, mx_isr_ref, mx_isr_null, mx_wt_nil, mx_wt_1, mx_wt_2, mx_wt_3, Option.bind_some, Option.toList_some, Option.toList_none, List.cons_append, List.nil_append, mx_nl_int, mx_nl_ref, mx_nl_null, mx_nl_none, mx_nb0, mx_nb1, mx_fb0, mx_fb1, mx_cat_int, mx_cat_ref, if_true, if_false, not_true_eq_false, not_false_eq_true, mx_wt_4, mx_w4_0, mx_w9_0, mx_w9_1, mx_kn_int, mx_kn_ref, mx_kn_null, Nat.reduceLT, ofn, n10]
/-- append of a number -/
theorem jb_appI {h : mx_H} {p x n : Nat} {us : List Nat} {v : Int} (K : KD h) (hv : nb v) (S : SB h p x n us) (hn : n + (wI v).length ≤ 450) :
    ∃ (h' : mx_H) (x' : Nat) (us' : List Nat), mx_G (d + 5) 224 0 [some (.ref p), some (.int (Int32.ofInt v))] [] h = some (some (.ref p), h') ∧ SB h' p x' (n + (wI v).length) us' ∧ us'.take (n + (wI v).length) = us.take n ++ wI v ∧ SBx h p x us h' x' us' := by
  have Z := ja_size (d := d + 3) (h := h) hv
  obtain ⟨h1, x1, u1, g1, S1, t1, l1, X1⟩ := jb_ens (d := d) S (k := n + (wI v).length) hn
  obtain ⟨f1, f2, f3, f4, f5, f6, f7, f8, f9, f10⟩ := SB_f S
  obtain ⟨k1, k2, k3, k4, k5, k6, k7, k8, k9, k10⟩ := SB_f S1
  have S1' := S1
  obtain ⟨⟨m, ep⟩, ex, hu, hn1, h1000, hx63, hp63⟩ := S1
  have K1 : KD h1 := K.fr X1.1 (fun a ha => by
    simp only [List.mem_cons, List.not_mem_nil, or_false] at ha
    have := S.2.2.2.2.2
    omega)
  obtain ⟨h2, u2, g2, x2, w2, F2, W2⟩ := ja_chars (d := d + 3) (e := n + (wI v).length) hv hx63 K1 ex hu (by omega) l1 h1000
  have ep2 := F2.at ep (by rw [List.mem_singleton]; exact Ne.symm k10)
  obtain ⟨w3, w4, w5⟩ := w2
  refine ⟨mx_up h2 p 3 (.int (nI (n + (wI v).length))), x1, u2, ?_, ⟨⟨m, by rw [c_up ep2]; rfl⟩, by rw [c_upn k10]; exact x2, w4, by omega, by omega, hx63, hp63.1, by omega⟩, ?_, ?_⟩
  · have k225 : mx_G (d + 4) 225 0 [some (.ref p), some (.int (Int32.ofInt v)), none, none] [] h = some (some (.ref p), mx_up h2 p 3 (.int (nI (n + (wI v).length)))) := by
      simp only [g225_0, g225_1, g225_4, g225_5, g225_6, g225_7, g225_10, g225_11, g225_12, g225_13, g225_14, g225_17, g225_18, g225_21, g225_24, g225_25, g225_26, g225_27, g225_30, g225_33, g225_34, g225_37, g225_38, g225_39, g225_40, g225_41, g225_44, g225_47, g225_48, g225_49, g225_50, g225_53, g225_54, mx_isr_ref, mx_isr_null, mx_wt_nil, mx_wt_1, mx_wt_2, mx_wt_3, Option.bind_some, Option.toList_some, Option.toList_none, List.cons_append, List.nil_append, mx_nl_int, mx_nl_ref, mx_nl_null, mx_nl_none, mx_nb0, mx_nb1, mx_fb0, mx_fb1, mx_cat_int, mx_cat_ref, if_true, if_false, not_true_eq_false, not_false_eq_true, mx_wt_4, mx_w4_0, mx_w9_0, mx_w9_1, mx_kn_int, mx_kn_ref, mx_kn_null, Nat.reduceLT, ofn, n10, f1, f2, f5, Z, nI_add, g1, k1, k2, k3, jb_latin S1', g2, ce_t ep2, k9]
    simp only [g224_0, g224_1, g224_2, g224_5, g224_6, g224_7, mx_isr_ref, mx_isr_null, mx_wt_nil, mx_wt_1, mx_wt_2, mx_wt_3, Option.bind_some, Option.toList_some, Option.toList_none, List.cons_append, List.nil_append, mx_nl_int, mx_nl_ref, mx_nl_null, mx_nl_none, mx_nb0, mx_nb1, mx_fb0, mx_fb1, mx_cat_int, mx_cat_ref, if_true, if_false, not_true_eq_false, not_false_eq_true, mx_wt_4, mx_w4_0, mx_w9_0, mx_w9_1, mx_kn_int, mx_kn_ref, mx_kn_null, Nat.reduceLT, ofn, n10, f1, k225]
  · rw [← t1]
    apply List.ext_getElem?
    intro k
    by_cases hk : k < n + (wI v).length
    · rw [List.getElem?_take, if_pos hk, gd_get (by omega), w5 k]
      by_cases hkn : k < n
      · rw [if_neg (by omega), List.getElem?_append_left (by simp; omega), List.getElem?_take, if_pos hkn, gd_get (by omega)]
      · rw [if_pos (by omega), List.getElem?_append_right (by simp; omega), List.length_take, show min n u1.length = n by omega, gd_get (by omega), show n + (wI v).length - (wI v).length = n by omega]
    · rw [List.getElem?_eq_none (by rw [List.length_take]; omega), List.getElem?_eq_none (by simp; omega)]
  · refine X1.trans ⟨(F2.mono (by simp)).trans (Fr.up (F := [p, x1]) (by simp)) (fun a ha => Or.inl ha), Or.inl rfl, ?_⟩
    rw [mw_up, W2, w3]
    exact Nat.le_refl _
end
