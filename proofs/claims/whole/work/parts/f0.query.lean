/-! query of the class. -/
theorem insR_mem (lt : prs → prs → Bool) (x y : prs) : ∀ l, y ∈ insR lt x l ↔ y = x ∨ y ∈ l := by
  intro l
  induction l with
  | nil => simp [insR]
  | cons z l ih =>
    rw [insR]
    split
    · rw [List.mem_cons, ih, List.mem_cons]
      constructor
      · rintro (a | a | a)
        · exact Or.inr (Or.inl a)
        · exact Or.inl a
        · exact Or.inr (Or.inr a)
      · rintro (a | a | a)
        · exact Or.inr (Or.inl a)
        · exact Or.inl a
        · exact Or.inr (Or.inr a)
    · rw [List.mem_cons]
theorem insR_len (lt : prs → prs → Bool) (x : prs) : ∀ l, (insR lt x l).length = l.length + 1 := by
  intro l
  induction l with
  | nil => rfl
  | cons z l ih =>
    rw [insR]
    split
    · rw [List.length_cons, ih, List.length_cons]
    · rw [List.length_cons]
theorem srt_mem {k : Nat} {dn : Bool} {l : List prs} {y : prs} (h : y ∈ srt k dn l) : y ∈ l := by
  have key : ∀ (l acc : List prs), y ∈ l.foldl (fun acc x => insR (bef k dn) x acc) acc → y ∈ l ∨ y ∈ acc := by
    intro l
    induction l with
    | nil => intro acc h; exact Or.inr h
    | cons x l ih =>
      intro acc h
      rcases ih _ h with z | z
      · exact Or.inl (List.mem_cons_of_mem _ z)
      · rcases (insR_mem _ _ _ _).mp z with z | z
        · exact Or.inl (by rw [z]; exact List.mem_cons_self)
        · exact Or.inr z
  unfold srt at h
  rcases key l [] (List.mem_reverse.mp h) with z | z
  · exact z
  · cases z
theorem srt_len (k : Nat) (dn : Bool) (l : List prs) : (srt k dn l).length = l.length := by
  have key : ∀ (l acc : List prs), (l.foldl (fun acc x => insR (bef k dn) x acc) acc).length = l.length + acc.length := by
    intro l
    induction l with
    | nil => intro acc; simp
    | cons x l ih => intro acc; rw [List.foldl_cons, ih, insR_len, List.length_cons]; omega
  unfold srt
  rw [List.length_reverse, key]
  rfl
theorem srt_app (k : Nat) (dn : Bool) (l : List prs) (x : prs) : srt k dn (l ++ [x]) = (srt k dn l).insertIdx (inK (bef k dn) x (srt k dn l) (srt k dn l).length) x := by
  have e := ins_srt (bef k dn) x (srt k dn l)
  have e2 : srt k dn (l ++ [x]) = (insR (bef k dn) x (srt k dn l).reverse).reverse := by
    unfold srt
    rw [List.foldl_append, List.reverse_reverse]
    rfl
  rw [e2, e, List.reverse_reverse]
theorem take_pAt {ps : List prs} {i : Nat} (h : i < ps.length) : ps.take (i + 1) = ps.take i ++ [pAt' ps i] := by
  rw [List.take_add_one]
  unfold pAt'
  simp [List.getD_eq_getElem?_getD, h]
theorem up_lt {ps : List prs} (hup : (ids ps).Pairwise (· < ·)) {i : Nat} (hi : i < ps.length) {y : prs} (hy : y ∈ ps.take i) : y.1 < (pAt' ps i).1 := by
  have e : ids ps = ids (ps.take i) ++ ids (ps.drop i) := by
    unfold ids
    rw [← List.map_append, List.take_append_drop]
  rw [e, List.pairwise_append] at hup
  refine hup.2.2 y.1 (List.mem_map.mpr ⟨y, hy, rfl⟩) _ ?_
  rw [drop_pAt hi]
  exact List.mem_map.mpr ⟨_, List.mem_cons_self, rfl⟩
/-- no person lies among the old places -/
def oT7 (h : mx_H) : Prop := ∀ a, a < 63 → mx_tag h a ≠ some (.inl 7)
theorem oT7.fr {F : List Nat} {h h' : mx_H} (o : oT7 h) (f : Fr F h h') (hF : ∀ a ∈ F, 63 ≤ a) (hl : 102 ≤ h.length) : oT7 h' := by
  intro a ha
  have := f.2 a (by omega) (fun z => by have := hF a z; omega)
  unfold mx_tag
  rw [this]
  exact o a ha
theorem oT7.ge {M : List Nat} {h : mx_H} {p : Nat} (o : oT7 h) (t : mx_tag h p = some (.inl 7)) (f : fz M p) : 102 ≤ p := by
  by_cases z : p < 63
  · exact absurd t (o p z)
  · have := f.1; omega
/-- the filter, or none -/
def FV (M : List Nat) (h : mx_H) (fv : Value) (g : prs → Option Nat → Bool) : Prop := (fv = .null ∧ ∀ p, g p none = true) ∨ ∃ (f : Nat) (cs : List Value), fv = .ref f ∧ h[f]? = some (.inl 10, cs ++ [.null]) ∧ fz M f ∧ Mt 27 false M h f cs g
theorem FV.ex {M M' : List Nat} {h h' : mx_H} {fv : Value} {g : prs → Option Nat → Bool} (F : FV M h fv g) (x : Ex M h M' h') : FV M' h' fv g := by
  rcases F with z | ⟨f, cs, e1, e2, e3, e4⟩
  · exact Or.inl z
  · exact Or.inr ⟨f, cs, e1, (x.at e2 e3).1, (x.at e2 e3).2, e4.ex x⟩
theorem FV.isr {M : List Nat} {h : mx_H} {fv : Value} {g : prs → Option Nat → Bool} (F : FV M h fv g) : mx_isr fv = true := by
  rcases F with ⟨rfl, -⟩ | ⟨f, cs, rfl, -⟩ <;> rfl
section
variable {d : Nat} {h : mx_H} {x x2 A3 A4 : Nat} {bt : List Nat} {s : sto}
theorem cSt_fd {h' : mx_H} {A4' : Nat} (C : cSt h x x2 A3 A4 bt s) (f : Fr (fA 72 A4) h h') (hA : A4' = A4 ∨ h.length ≤ A4') (hA2 : A4' = 2 ∨ 102 ≤ A4') (hd : fdS h' A4') : cSt h' x x2 A3 A4' bt s ∧ Ex (x :: mR x2 A3 A4) h (x :: mR x2 A3 A4') h' ∧ h'[71]? = h[71]? ∧ h'[63]? = h[63]? := by
  obtain ⟨K, hl, hp, hb, hpl, hf, hpg, hw, hm⟩ := C
  obtain ⟨cp4, es4, L4, -⟩ := hf
  have fm : ∀ a ∈ fA 72 A4, a = 72 ∨ (a = A4 ∧ A4 ≠ 2) := fun a ha => fA_mem ha
  have tA4 := ce_t L4.2.1
  have l4 := ce_l L4.2.1
  have hm3 := hm.2.1
  have hm4 := hm.2.2.1
  obtain ⟨ls, ks, ss, es, t, c, n, us, BB, r1, S, rn, rA, rx⟩ := id hb
  have xA : A4 ≠ x := by rintro rfl; rw [ce_t S.2.1] at tA4; cases tA4
  obtain ⟨n2, us2, S2, hx2⟩ := hw
  have x2A : A4 ≠ x2 := by rintro rfl; rw [ce_t S2.2.1] at tA4; cases tA4
  obtain ⟨cp3, es3, L3, -⟩ := id hpl
  obtain ⟨pl, g1, g2⟩ := hpg
  have F63 : ∀ a ∈ fA 72 A4, 63 ≤ a := fun a ha => by rcases fm a ha with z | z <;> omega
  have E : Ex (x :: mR x2 A3 A4) h (x :: mR x2 A3 A4') h' := f.ex (fun a ha z => by
    rcases fm a ha with y | y
    · rw [y] at z; exact z.1 (by omega)
    · refine z.2 ?_
      rw [y.1]
      unfold mR fA0
      rw [if_neg y.2]
      simp) (fun a ha => by
    unfold mR at ha ⊢
    simp only [List.mem_cons, List.mem_append] at ha ⊢
    rcases ha with z | z | z | z
    · exact Or.inl (Or.inl z)
    · exact Or.inl (Or.inr (Or.inl z))
    · exact Or.inl (Or.inr (Or.inr (Or.inl z)))
    · rcases hA with w | w
      · rw [w] at z; exact Or.inl (Or.inr (Or.inr (Or.inr z)))
      · exact Or.inr (by rw [(fA0_mem z).1]; exact w))
  have k71 : h'[71]? = h[71]? := f.2 71 (by omega) (fun z => by rcases fm _ z with y | y <;> omega)
  have k63 : h'[63]? = h[63]? := f.2 63 (by omega) (fun z => by rcases fm _ z with y | y <;> omega)
  have kA3 : h'[A3]? = h[A3]? := f.2 A3 (ce_l L3.2.1) (fun z => by
    rcases fm _ z with y | y
    · omega
    · exact y.2 (by rw [← y.1]; exact hm.2.2.2 y.1))
  refine ⟨⟨K.fr f F63, Nat.le_trans hl f.1, by unfold pS; rw [k63]; exact hp, bufS_fr hb f (fun a ha => ?_), hpl.ex E k71 kA3, hd, ⟨pl, f.at g1 (fun z => ?_), g2⟩, ⟨n2, us2, SB_fr S2 f (fun z => ?_) (fun z => ?_), hx2⟩, hm.1, hm.2.1, hA2, fun z => ?_⟩, E, k71, k63⟩
  · rcases fm a ha with z | z
    · omega
    · rw [z.1]; exact ⟨by omega, xA⟩
  · rcases fm _ z with y | y <;> omega
  · rcases fm _ z with y | y <;> omega
  · rcases fm _ z with y | y
    · omega
    · exact x2A y.1.symm
  · rcases hA with w | w
    · rw [w] at z; exact hm.2.2.2 z
    · have := ce_l L3.2.1
      omega
theorem js_max1 (y : Int32) : mx_G d 27 0 [some (.int y), some (.int 1)] [] h = some (some (.int (nI ((y.toInt - 1).toNat + 1))), h) := by
  by_cases c : y < 1
  · have : y.toInt < 1 := by rw [Int32.lt_iff_toInt_lt] at c; exact c
    rw [show (y.toInt - 1).toNat = 0 by omega]
    simp only [g27_0, g27_1, g27_2, g27_5, g27_6, g27_9, g27_10, mx_isr_ref, mx_isr_null, mx_wt_nil, mx_wt_1, mx_wt_2, mx_wt_3, Option.bind_some, Option.toList_some, Option.toList_none, List.cons_append, List.nil_append, mx_nl_int, mx_nl_ref, mx_nl_null, mx_nl_none, mx_nb0, mx_nb1, mx_fb0, mx_fb1, mx_cat_int, mx_cat_ref, if_true, if_false, not_true_eq_false, not_false_eq_true, mx_wt_4, mx_w4_0, mx_w9_0, mx_w9_1, mx_kn_int, mx_kn_ref, mx_kn_null, Nat.reduceLT, ofn, n10, c]
    rfl
  · obtain ⟨j, hj, rfl⟩ := nI_of (x := y) (fun z => c (by rw [Int32.lt_iff_toInt_lt] at z ⊢; have : (1 : Int32).toInt = 1 := rfl; have : (0 : Int32).toInt = 0 := rfl; omega))
    have h1 : 1 ≤ j := by
      rw [Int32.lt_iff_toInt_lt, nI_toInt hj] at c
      have : (1 : Int32).toInt = 1 := rfl
      omega
    rw [nI_toInt hj, show ((j : Int) - 1).toNat + 1 = j by omega]
    simp only [g27_0, g27_1, g27_2, g27_5, g27_6, g27_9, g27_10, mx_isr_ref, mx_isr_null, mx_wt_nil, mx_wt_1, mx_wt_2, mx_wt_3, Option.bind_some, Option.toList_some, Option.toList_none, List.cons_append, List.nil_append, mx_nl_int, mx_nl_ref, mx_nl_null, mx_nl_none, mx_nb0, mx_nb1, mx_fb0, mx_fb1, mx_cat_int, mx_cat_ref, if_true, if_false, not_true_eq_false, not_false_eq_true, mx_wt_4, mx_w4_0, mx_w9_0, mx_w9_1, mx_kn_int, mx_kn_ref, mx_kn_null, Nat.reduceLT, ofn, n10, c]
theorem jq_turn {M : List Nat} {A4 cp : Nat} {fs : List Nat} {R : List prs} (F : FS M h A4 cp fs R) (hR8 : R.length ≤ 8) (hb : ∀ k, k < R.length → (pAt' R k).1 < 2 ^ 20) (hA4 : A4 = 2 ∨ 102 ≤ A4) (hp : pS h s) (hg : pgS h s.2.2) (st cn : Int32) :
    ∃ h', mx_G (d + 3) 208 0 [some (.ref 63), some (.int st), some (.int cn), none] [] h = some (none, h') ∧ pS h' (s.1, s.2.1, ((R.drop (st.toInt - 1).toNat).take cn.toInt.toNat).map fun p => p.1) ∧ pgS h' (((R.drop (st.toInt - 1).toNat).take cn.toInt.toNat).map fun p => p.1) ∧ Fr [63, 73] h h' ∧ mw h' = mw h := by
  obtain ⟨l, g1, g2, g3, g4⟩ := hg
  obtain ⟨s1, s2, s3, s4, s5, s6, s7, s8, s9⟩ := pS_f hp
  generalize hg0 : mx_up h 63 5 (.int 0) = g
  have Fg : Fr [63, 73] h g := by rw [← hg0]; exact Fr.up (by simp)
  have Eg : Ex M h M g := Fg.ex (fun a ha z => by
    simp only [List.mem_cons, List.not_mem_nil, or_false] at ha
    exact z.1 (by omega)) (fun a ha => Or.inl ha)
  have e63 : g[63]? = some (.inl 0, [.ref 64, .ref 71, .ref 72, .ref 73, .ref 74, .int (nI 0), .int (nI s.2.1)]) := by
    rw [← hg0, c_up hp]
    rfl
  have e73 : g[73]? = some (.inr .int, nvs l) := by rw [← hg0, c_upn (by decide)]; exact g1
  have hst : (st.toInt - 1).toNat < 2 ^ 31 - 1 := by have := Int32.toInt_lt st; omega
  obtain ⟨h', l', a1, a2, a3, a4, a5, a6, a7⟩ := jq_turnL (d := d) (x1 := st) (last := s.2.1) hR8 hst hb (cn := cn) rfl hA4 _ 0 g l rfl (F.ex Eg (Fg.2 72 (by have := ce_l g1; omega) (by simp)) (Fg.2 A4 (ce_l F.1.2.1) (by simp; omega))) e63 e73 g2 rfl
  have mx := js_max1 (d := d + 2) (h := g) st
  refine ⟨h', ?_, a2, ⟨l', a3, a4, a5, ?_⟩, Fg.trans a6 (fun a ha => Or.inl ha), by rw [a7, ← hg0, mw_up]⟩
  · rw [Nat.add_zero] at a1
    simp only [g208_0, g208_1, g208_2, g208_5, g208_6, g208_7, g208_10, g208_11, g208_12, mx_isr_ref, mx_isr_null, mx_wt_nil, mx_wt_1, mx_wt_2, mx_wt_3, Option.bind_some, Option.toList_some, Option.toList_none, List.cons_append, List.nil_append, mx_nl_int, mx_nl_ref, mx_nl_null, mx_nl_none, mx_nb0, mx_nb1, mx_fb0, mx_fb1, mx_cat_int, mx_cat_ref, if_true, if_false, not_true_eq_false, not_false_eq_true, mx_wt_4, mx_w4_0, mx_w9_0, mx_w9_1, mx_kn_int, mx_kn_ref, mx_kn_null, Nat.reduceLT, ofn, n10, s1, show mt_nO ≤ 63 by decide, hg0, mx, nI_pred]
    exact a1
  · rw [List.length_map, List.length_take, List.length_drop]
    omega
/-- the loop over the people -/
theorem jq_findL (hok : ∀ p ∈ s.1, oks p) (hup : (ids s.1).Pairwise (· < ·)) {ky : Nat} (hky : ky < 5) (dn : Bool) {g : prs → Option Nat → Bool} {fv : Value} {st cn a5 a7 : Int32} : ∀ n i (h : mx_H) (A4 cp : Nat) (fs : List Nat) (l9 : Option Value), n + i = s.1.length → cSt h x x2 A3 A4 [] s → FS (x :: mR x2 A3 A4) h A4 cp fs (srt ky dn ((s.1.take i).filter fun p => g p none)) → FV (x :: mR x2 A3 A4) h fv g → oT7 h →
    ∃ (h' : mx_H) (A4' cp' : Nat) (fs' : List Nat) (l9' : Option Value), mx_G (d + 31) 201 99 [some (.ref 63), some (.int (nI ky)), some (.int (if dn = true then 1 else 0)), some (.int st), some (.int cn), some (.int a5), some fv, some (.int a7), some (.int (nI i)), l9] [] h = mx_G (d + 31) 201 159 [some (.ref 63), some (.int (nI ky)), some (.int (if dn = true then 1 else 0)), some (.int st), some (.int cn), some (.int a5), some fv, some (.int a7), some (.int (nI s.1.length)), l9'] [] h' ∧ cSt h' x x2 A3 A4' [] s ∧ FS (x :: mR x2 A3 A4') h' A4' cp' fs' (srt ky dn (s.1.filter fun p => g p none)) ∧ mdl h h' ∧ mw h' + 6 * cp ≤ mw h + 6 * cp' := by
  intro n
  induction n with
  | zero =>
    intro i h A4 cp fs l9 hi C F V O
    have : i = s.1.length := by omega
    subst this
    rw [List.take_length] at F
    refine ⟨h, A4, cp, fs, l9, ?_, C, F, mdl.rfl h, Nat.le_refl _⟩
    obtain ⟨s1, s2, s3, s4, -⟩ := pS_f C.2.2.1
    obtain ⟨cp3, es, L, hle, h8, P⟩ := C.2.2.2.2.1
    have sz := jl_size (d := d + 30) L
    rw [hle] at sz
    simp only [g201_99, g201_101, g201_102, g201_105, g201_108, mx_isr_ref, mx_isr_null, mx_wt_nil, mx_wt_1, mx_wt_2, mx_wt_3, Option.bind_some, Option.toList_some, Option.toList_none, List.cons_append, List.nil_append, mx_nl_int, mx_nl_ref, mx_nl_null, mx_nl_none, mx_nb0, mx_nb1, mx_fb0, mx_fb1, mx_cat_int, mx_cat_ref, if_true, if_false, not_true_eq_false, not_false_eq_true, mx_wt_4, mx_w4_0, mx_w9_0, mx_w9_1, mx_kn_int, mx_kn_ref, mx_kn_null, Nat.reduceLT, ofn, n10, s1, s2, s4, (AL_f L).1, sz, show nI s.1.length ≤ nI s.1.length from nI_le (Nat.le_refl _) (by omega)]
  | succ n ih =>
    intro i h A4 cp fs l9 hi C F V O
    have hil : i < s.1.length := by omega
    obtain ⟨s1, s2, s3, s4, s5, -⟩ := pS_f C.2.2.1
    obtain ⟨cp3, es, L, hle, h8, P⟩ := C.2.2.2.2.1
    have sz := jl_size (d := d + 30) L
    rw [hle] at sz
    have G := jl_get (d := d + 28) L (show i < es.length by omega)
    obtain ⟨Q, fq⟩ := P i hil
    have tq := Q.tag
    have q102 := O.ge tq fq
    have hoq := hok _ (pAt_mem hil)
    have c1 : ¬ nI s.1.length ≤ nI i := nI_ge hil (by omega)
    have et := take_pAt hil
    obtain ⟨-, -, k3, k4⟩ := id C.1
    have t4 := ce_t k4
    have l4 : mx_ln h 4 = 5 := by rw [ce_n k4]; rfl
    have e4 : mx_el h 4 ky = .int (nI (kyA ky)) := by
      rw [ce_e k4]
      have : ky = 0 ∨ ky = 1 ∨ ky = 2 ∨ ky = 3 ∨ ky = 4 := by omega
      rcases this with rfl | rfl | rfl | rfl | rfl <;> rfl
    have hRl : (srt ky dn ((s.1.take i).filter fun p => g p none)).length ≤ 7 := by
      rw [srt_len]
      have h1 := List.length_filter_le (fun p => g p none) (s.1.take i)
      rw [List.length_take] at h1
      omega
    have hRm : ∀ k, k < (srt ky dn ((s.1.take i).filter fun p => g p none)).length → oks (pAt' (srt ky dn ((s.1.take i).filter fun p => g p none)) k) ∧ (pAt' (srt ky dn ((s.1.take i).filter fun p => g p none)) k).1 < (pAt' s.1 i).1 := by
      intro k hk
      have h1 := (List.mem_filter.mp (srt_mem (pAt_mem hk))).1
      exact ⟨hok _ (List.mem_of_mem_take h1), up_lt hup hil h1⟩
    -- what the filter says
    have stepM : ∀ (B : Bool), g (pAt' s.1 i) none = B → mx_G (d + 31) 201 99 [some (.ref 63), some (.int (nI ky)), some (.int (if dn = true then 1 else 0)), some (.int st), some (.int cn), some (.int a5), some fv, some (.int a7), some (.int (nI i)), l9] [] h = mx_G (d + 31) 201 (if B = true then 141 else 153) [some (.ref 63), some (.int (nI ky)), some (.int (if dn = true then 1 else 0)), some (.int st), some (.int cn), some (.int a5), some fv, some (.int a7), some (.int (nI i)), some (.ref (es.getD i 0))] [] h := by
      intro B hB
      rw [g201_99]
      rcases V with ⟨rfl, hg⟩ | ⟨f, cs, rfl, ef, ff, mt⟩
      · have : B = true := by rw [← hB]; exact hg _
        subst this
        simp only [g201_101, g201_102, g201_105, g201_108, g201_111, g201_112, g201_115, g201_117, g201_120n, g201_120, g201_123, g201_125, g201_127, g201_127n, g201_127n, mx_isr_ref, mx_isr_null, mx_wt_nil, mx_wt_1, mx_wt_2, mx_wt_3, Option.bind_some, Option.toList_some, Option.toList_none, List.cons_append, List.nil_append, mx_nl_int, mx_nl_ref, mx_nl_null, mx_nl_none, mx_nb0, mx_nb1, mx_fb0, mx_fb1, mx_cat_int, mx_cat_ref, if_true, if_false, not_true_eq_false, not_false_eq_true, mx_wt_4, mx_w4_0, mx_w9_0, mx_w9_1, mx_kn_int, mx_kn_ref, mx_kn_null, Nat.reduceLT, ofn, n10, s1, s2, s4, (AL_f L).1, sz, c1, G, tq]
      · obtain ⟨l, A, c', es', m1⟩ := Q.mp hoq
        have H := mt (d + 3) _ h .null (es.getD i 0) l A c' es' _ _ _ (Ex.rfl _ _) ef rfl m1 (by simp)
        rw [show d + 3 + 27 = d + 30 by omega, hB] at H
        have tf := ce_t ef
        cases B
        · simp only [Bool.false_eq_true, if_false] at H
          simp only [g201_101, g201_102, g201_105, g201_108, g201_111, g201_112, g201_115, g201_117, g201_120n, g201_120, g201_123, g201_125, g201_127, g201_127n, g201_130, g201_132, g201_134, g201_135, g201_138, mx_isr_ref, mx_isr_null, mx_wt_nil, mx_wt_1, mx_wt_2, mx_wt_3, Option.bind_some, Option.toList_some, Option.toList_none, List.cons_append, List.nil_append, mx_nl_int, mx_nl_ref, mx_nl_null, mx_nl_none, mx_nb0, mx_nb1, mx_fb0, mx_fb1, mx_cat_int, mx_cat_ref, if_true, if_false, not_true_eq_false, not_false_eq_true, mx_wt_4, mx_w4_0, mx_w9_0, mx_w9_1, mx_kn_int, mx_kn_ref, mx_kn_null, Nat.reduceLT, ofn, n10, s1, s2, s4, (AL_f L).1, sz, c1, G, tq, tf, H, Bool.false_eq_true]
        · simp only [if_true] at H
          simp only [g201_101, g201_102, g201_105, g201_108, g201_111, g201_112, g201_115, g201_117, g201_120n, g201_120, g201_123, g201_125, g201_127, g201_127n, g201_130, g201_132, g201_134, g201_135, g201_138, mx_isr_ref, mx_isr_null, mx_wt_nil, mx_wt_1, mx_wt_2, mx_wt_3, Option.bind_some, Option.toList_some, Option.toList_none, List.cons_append, List.nil_append, mx_nl_int, mx_nl_ref, mx_nl_null, mx_nl_none, mx_nb0, mx_nb1, mx_fb0, mx_fb1, mx_cat_int, mx_cat_ref, if_true, if_false, not_true_eq_false, not_false_eq_true, mx_wt_4, mx_w4_0, mx_w9_0, mx_w9_1, mx_kn_int, mx_kn_ref, mx_kn_null, Nat.reduceLT, ofn, n10, s1, s2, s4, (AL_f L).1, sz, c1, G, tq, tf, H, show ¬ (1 : Int32) = 0 by decide]
    by_cases hB : g (pAt' s.1 i) none = true
    · have S := stepM true hB
      rw [if_pos rfl] at S
      have I := jq_ins (d := d + 23) s1 s2 s5 F (by omega) Q hoq hRm hky dn
      rw [show d + 23 + 7 = d + 30 by omega] at I
      obtain ⟨h1, A', cp', b1, b2, b3, b4, b5, b6⟩ := I
      have ef : (s.1.take (i + 1)).filter (fun p => g p none) = (s.1.take i).filter (fun p => g p none) ++ [pAt' s.1 i] := by
        rw [et, List.filter_append]
        simp [hB]
      generalize hR : srt ky dn ((s.1.take i).filter fun p => g p none) = R at *
      have eR : srt ky dn ((s.1.take (i + 1)).filter fun p => g p none) = R.insertIdx (inK (bef ky dn) (pAt' s.1 i) R R.length) (pAt' s.1 i) := by rw [ef, srt_app, hR]
      have hkk := inK_le (bef ky dn) (pAt' s.1 i) R R.length
      generalize inK (bef ky dn) (pAt' s.1 i) R R.length = kk at *
      have hm := C.2.2.2.2.2.2.2.2
      have A102 : A' = 2 ∨ 102 ≤ A' := by
        rcases b4 with z | z
        · rw [z]; exact hm.2.2.1
        · have := C.2.1; omega
      -- the frame alone first
      have fm : ∀ a ∈ fA 72 A4, a = 72 ∨ (a = A4 ∧ A4 ≠ 2) := fun a ha => fA_mem ha
      have fdd : fdS h1 A' := by
        refine ⟨cp', _, b2, fun e he => ?_, ?_⟩
        · have he' : e = es.getD i 0 ∨ e ∈ fs := by
            rw [List.mem_insertIdx (by rw [F.2.1]; exact hkk)] at he
            exact he
          have hx1 : elt h e ∧ 102 ≤ e := by
            rcases he' with z | z
            · rw [z]; exact ⟨Or.inl tq, q102⟩
            · obtain ⟨j, hj, ej⟩ := gd_mem z
              obtain ⟨p1, p2, p3⟩ := F.2.2 j (by rw [← F.2.1]; exact hj)
              rw [ej] at p1 p3
              exact ⟨Or.inl p1.tag, p3⟩
          refine ⟨elt_fr hx1.1 b3 (fun z => ?_), hx1.2⟩
          rcases fm _ z with y | y
          · omega
          · exact elt_ne hx1.1 F.1.2.1 y.1
        · rw [List.length_insertIdx, if_pos (by rw [F.2.1]; exact hkk), F.2.1]
          omega
      obtain ⟨C1, E1, -, -⟩ := cSt_fd C b3 b4 A102 fdd
      have F1 : FS (x :: mR x2 A3 A') h1 A' cp' (fs.insertIdx kk (es.getD i 0)) (R.insertIdx kk (pAt' s.1 i)) := by
        refine ⟨b2, ?_, fun k hk => ?_⟩
        · rw [List.length_insertIdx, List.length_insertIdx, if_pos hkk, if_pos (by rw [F.2.1]; exact hkk), F.2.1]
        · rw [List.length_insertIdx, if_pos hkk] at hk
          rw [gd_insert (by rw [F.2.1]; exact hkk), pAt_ins hkk]
          have conv : ∀ k, k < R.length → PP (x :: mR x2 A3 A') h1 (fs.getD k 0) (pAt' R k) ∧ fz (x :: mR x2 A3 A') (fs.getD k 0) ∧ 102 ≤ fs.getD k 0 := by
            intro k hk
            obtain ⟨p1, p2, p3⟩ := F.2.2 k hk
            exact ⟨p1.ex E1 (E1.2 _ p1.lt p2).1, (E1.2 _ p1.lt p2).2, p3⟩
          by_cases k1 : k < kk
          · rw [if_pos k1, if_pos k1]; exact conv k (by omega)
          · rw [if_neg k1, if_neg k1]
            by_cases k2 : k = kk
            · rw [if_pos k2, if_pos k2]
              exact ⟨Q.ex E1 (E1.2 _ Q.lt fq).1, (E1.2 _ Q.lt fq).2, q102⟩
            · rw [if_neg k2, if_neg k2]; exact conv (k - 1) (by omega)
      rw [← eR] at F1
      have F63 : ∀ a ∈ fA 72 A4, 63 ≤ a := fun a ha => by rcases fm a ha with z | z <;> (have := hm.2.2.1; omega)
      obtain ⟨h', A4', cp2, fs', l9', i1, i2, i3, i4, i5⟩ := ih (i + 1) h1 A' cp' _ (some (.ref (es.getD i 0))) (by omega) C1 F1 (V.ex E1) (O.fr b3 F63 C.2.1)
      refine ⟨h', A4', cp2, fs', l9', ?_, i2, i3, (b3.mdl C.2.1 (fun a ha => ?_)).trans i4, by omega⟩
      · rw [S]
        have hnk : (nI ky).toNatClampNeg = ky := nI_clamp (by omega)
        simp only [g201_141, g201_142, g201_144, g201_147, g201_148, g201_149, g201_150, g201_153, g201_156, mx_isr_ref, mx_isr_null, mx_wt_nil, mx_wt_1, mx_wt_2, mx_wt_3, Option.bind_some, Option.toList_some, Option.toList_none, List.cons_append, List.nil_append, mx_nl_int, mx_nl_ref, mx_nl_null, mx_nl_none, mx_nb0, mx_nb1, mx_fb0, mx_fb1, mx_cat_int, mx_cat_ref, if_true, if_false, not_true_eq_false, not_false_eq_true, mx_wt_4, mx_w4_0, mx_w9_0, mx_w9_1, mx_kn_int, mx_kn_ref, mx_kn_null, Nat.reduceLT, ofn, n10, s1, t4, l4, nI_pos' (show ky < 2 ^ 31 by omega), hnk, hky, e4, b1, nI_1]
        exact i1
      · rcases fm a ha with z | z <;> (have := hm.2.2.1; omega)
    · have S := stepM false (by simpa using hB)
      simp only [Bool.false_eq_true, if_false] at S
      have ef : (s.1.take (i + 1)).filter (fun p => g p none) = (s.1.take i).filter (fun p => g p none) := by
        rw [et, List.filter_append]
        simp [hB]
      rw [← ef] at F
      obtain ⟨h', A4', cp2, fs', l9', i1, i2⟩ := ih (i + 1) h A4 cp fs (some (.ref (es.getD i 0))) (by omega) C F V O
      refine ⟨h', A4', cp2, fs', l9', ?_, i2⟩
      rw [S]
      simp only [g201_153, g201_156, mx_isr_ref, mx_isr_null, mx_wt_nil, mx_wt_1, mx_wt_2, mx_wt_3, Option.bind_some, Option.toList_some, Option.toList_none, List.cons_append, List.nil_append, mx_nl_int, mx_nl_ref, mx_nl_null, mx_nl_none, mx_nb0, mx_nb1, mx_fb0, mx_fb1, mx_cat_int, mx_cat_ref, if_true, if_false, not_true_eq_false, not_false_eq_true, mx_wt_4, mx_w4_0, mx_w9_0, mx_w9_1, mx_kn_int, mx_kn_ref, mx_kn_null, Nat.reduceLT, ofn, n10, nI_1]
      exact i1
end
