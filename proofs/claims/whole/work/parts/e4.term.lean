/-! Filter.readTerm. -/
def okB (ts : List tk) (way c : Nat) : Bool := decide (way ≠ 0 ∧ (opw ts c = w_pr ∨ (vld (opw ts c) (tyO way) = true ∧ sc ts (c + 1) = tyO way)))
theorem okB_iff {ts : List tk} {way c : Nat} : okB ts way c = true ↔ okC ts way c := by unfold okB okC; rw [decide_eq_true_eq]
theorem Rs.ret {K k s : Nat} {w : Bool} {ts : List tk} {R : List Nat} {h : mx_H} {x cp c : Nat} {G G' : Option (Option Value × mx_H)} {o : Option (cdP × Nat)} (b : Rs K k s w ts R h x cp c G' o) (e : ∀ (v : Value) (h' : mx_H), mx_isr v = true → G' = some (some v, h') → G = some (some v, h')) : Rs K k s w ts R h x cp c G o := by
  cases o with
  | none =>
    obtain ⟨h', x', cp', c', b1, b2⟩ := b
    exact ⟨h', x', cp', c', e _ _ rfl b1, b2⟩
  | some q =>
    obtain ⟨h', x', cp', f, b1, b2⟩ := b
    exact ⟨h', x', cp', f, e _ _ rfl b1, b2⟩
theorem tW_opw {ts : List tk} {t : Nat} {u : List Nat} (hu : u ≠ []) : tW ts t u = true ↔ opw ts t = u := by
  unfold tW opw
  by_cases e : (tA ts t).1 = 1
  · rw [if_pos e]
    constructor
    · intro z; rw [beq_iff_eq] at z; rw [z]
    · intro z; rw [beq_iff_eq, ← e, ← z]
  · rw [if_neg e]
    constructor
    · intro z; rw [beq_iff_eq] at z; rw [z] at e; exact absurd rfl e
    · intro z; exact absurd z.symm hu
theorem pAt_I (ts : List tk) (t : Nat) : aIi (opw ts t) = aW (pAt ts true t) := by
  unfold aIi pAt
  rw [if_pos rfl]
  by_cases e : opw ts t = w_v
  · rw [if_pos e, if_pos ((tW_opw (by decide)).mpr e)]; rfl
  · rw [if_neg e, if_neg (fun z => e ((tW_opw (by decide)).mp z))]
    by_cases e2 : opw ts t = w_p
    · rw [if_pos e2, if_pos ((tW_opw (by decide)).mpr e2)]; rfl
    · rw [if_neg e2, if_neg (fun z => e2 ((tW_opw (by decide)).mp z))]; rfl
theorem pAt_P (ts : List tk) (t : Nat) (hm : ¬ tW ts t w_mail = true) : aPi (opw ts t) = aW (pAt ts false t) := by
  have hm' : ¬ opw ts t = w_mail := fun z => hm ((tW_opw (by decide)).mpr z)
  unfold aPi aPn pAt
  rw [if_neg (show ¬ false = true by decide), if_neg hm]
  by_cases e : opw ts t = w_id
  · rw [if_pos e, if_pos ((tW_opw (by decide)).mpr e)]; rfl
  rw [if_neg e, if_neg (fun z => e ((tW_opw (by decide)).mp z))]
  by_cases e : opw ts t = w_version
  · rw [if_pos e, if_pos ((tW_opw (by decide)).mpr e)]; rfl
  rw [if_neg e, if_neg (fun z => e ((tW_opw (by decide)).mp z))]
  by_cases e : opw ts t = w_name
  · rw [if_pos e, if_pos ((tW_opw (by decide)).mpr e)]; rfl
  rw [if_neg e, if_neg (fun z => e ((tW_opw (by decide)).mp z))]
  by_cases e : opw ts t = w_age
  · rw [if_pos e, if_pos ((tW_opw (by decide)).mpr e)]; rfl
  rw [if_neg e, if_neg (fun z => e ((tW_opw (by decide)).mp z))]
  by_cases e : opw ts t = w_on
  · rw [if_pos e, if_pos ((tW_opw (by decide)).mpr e)]; rfl
  rw [if_neg e, if_neg (fun z => e ((tW_opw (by decide)).mp z)), if_neg hm']
  rfl
theorem pAt_k {ts : List tk} {w : Bool} {t : Nat} (h : pAt ts w t ≠ 0) : (tA ts t).1 = 1 := by
  have W : ∀ u, tW ts t u = true → (tA ts t).1 = 1 := by
    intro u z
    unfold tW at z
    rw [beq_iff_eq] at z
    rw [z]
  apply Classical.byContradiction
  intro n
  apply h
  unfold pAt
  simp only [show ∀ u, ¬ tW ts t u = true from fun u z => n (W u z), Bool.false_eq_true, if_false, ite_self]
theorem aW_5 {n : Nat} (h : n ≤ 7) : ¬ aW n = 5 := by
  have : n = 0 ∨ n = 1 ∨ n = 2 ∨ n = 3 ∨ n = 4 ∨ n = 5 ∨ n = 6 ∨ n = 7 := by omega
  rcases this with rfl | rfl | rfl | rfl | rfl | rfl | rfl | rfl <;> decide
theorem pAt_6 {ts : List tk} {t : Nat} : pAt ts true t = 0 ∨ 6 ≤ pAt ts true t := by
  unfold pAt
  rw [if_pos rfl]
  split
  · exact Or.inr (by decide)
  · split
    · exact Or.inr (by decide)
    · exact Or.inl rfl
theorem cC_ok (ts : List tk) (w : Bool) (k : Nat) : cC ts w k = if okB ts (pAt ts w k) (oAt ts w k) = true ∧ ¬ (k + 1 < oAt ts w k ∧ tW ts k w_mail = false) then some ((0, pAt ts w k, opw ts (oAt ts w k), oAt ts w k + 1), nxC ts (oAt ts w k)) else none := by
  unfold cC nxC
  by_cases a : pAt ts w k = 0
  · rw [if_pos (Or.inl a), if_neg (fun z => (okB_iff.mp z.1).1 a)]
  · by_cases b : k + 1 < oAt ts w k ∧ tW ts k w_mail = false
    · rw [if_pos (Or.inr (Or.inl b)), if_neg (fun z => z.2 b)]
    · by_cases e : opw ts (oAt ts w k) = w_pr ∨ (vld (opw ts (oAt ts w k)) (tyO (pAt ts w k)) = true ∧ sc ts (oAt ts w k + 1) = tyO (pAt ts w k))
      · have f : okB ts (pAt ts w k) (oAt ts w k) = true ∧ ¬ (k + 1 < oAt ts w k ∧ tW ts k w_mail = false) := ⟨okB_iff.mpr ⟨a, e⟩, b⟩
        rw [if_neg (fun z => z.elim a (fun y => y.elim b (fun u => u e))), if_pos f]
      · rw [if_pos (Or.inr (Or.inr e)), if_neg (fun z => e (okB_iff.mp z.1).2)]
theorem not_none {ts : List tk} {w : Bool} {k : Nat} (h : tW ts k w_not = true) : cC ts w k = none := by
  have e := (tW_opw (by decide)).mp h
  have n : ∀ u, u ≠ [] → u ≠ w_not → ¬ tW ts k u = true := fun u h0 h1 z => h1 (((tW_opw h0).mp z).symm.trans e)
  rw [cC_ok, if_neg]
  intro z
  apply (okB_iff.mp z.1).1
  unfold pAt
  simp only [n w_v (by decide) (by decide), n w_p (by decide) (by decide), n w_mail (by decide) (by decide), n w_id (by decide) (by decide), n w_version (by decide) (by decide), n w_name (by decide) (by decide), n w_age (by decide) (by decide), n w_on (by decide) (by decide), Bool.false_eq_true, if_false, ite_self]
section
variable {d : Nat} {h : mx_H} {x cp c : Nat} {ts : List tk} {R : List Nat}
def oneC (ts : List tk) (way c : Nat) : Option (cdP × Nat) := if okB ts way c = true then some (cd_one (hd ts) (0, way, opw ts c, c + 1), nxC ts c) else none
theorem jg_cmpR (T : BT h x cp ts c) (r : RB R h) (K : KK h) (N : NB ts) {way : Nat} (h7 : way ≤ 7) {w : Bool} (hw : w = true → way = 0 ∨ 6 ≤ way) : Rs 7 20 0 w ts R h x cp c (mx_G (d + 10) 168 0 [some (.ref 64), some (.int (aW way)), none, none, none, none, none] [] h) (oneC ts way c) := by
  obtain ⟨a1, a2⟩ := jg_cmp (d := d) T r K N h7 hw
  unfold oneC
  by_cases e : okC ts way c
  · rw [if_pos (okB_iff.mpr e)]
    exact a1 e
  · rw [if_neg (fun z => e (okB_iff.mp z))]
    obtain ⟨h', x', cp', c', b1, b2, b3⟩ := a2 e
    exact ⟨h', x', cp', c', b1, b2, b3.d 0⟩
theorem oneC_0 (ts : List tk) (c : Nat) : oneC ts 0 c = none := if_neg (fun z => (okB_iff.mp z).1 rfl)
/-- the attribute's word, then the comparison -/
theorem jg_wordR {h1 : mx_H} {x1 cp1 : Nat} (r : RB R h) (P1 : PX ts h x cp c h1 x1 cp1 (cw ts c) (if (tA ts c).1 = 1 then 72 else 0)) (T1 : BT h1 x1 cp1 ts (cw ts c)) (K1 : KK h1) (N : NB ts) {way : Nat} (h7 : way ≤ 7) {w : Bool} (hw : w = true → way = 0 ∨ 6 ≤ way) (hk : way ≠ 0 → (tA ts c).1 = 1) : Rs 7 92 0 w ts R h x cp c (mx_G (d + 10) 168 0 [some (.ref 64), some (.int (aW way)), none, none, none, none, none] [] h1) (oneC ts way (c + 1)) := by
  have C := jg_cmpR (d := d) (R := R) T1 (r.le P1.1.1) K1 N h7 hw
  by_cases e : way = 0
  · subst e
    rw [oneC_0] at C ⊢
    obtain ⟨h', x', cp', c', b1, b2, b3⟩ := C
    exact ⟨h', x', cp', c', b1, b2, ((P1.mono (Nat.zero_le _)).trans b3.px).d 0⟩
  · have e1 : cw ts c = c + 1 := if_pos (hk e)
    rw [if_pos (hk e)] at P1
    have := Rs.pre P1 C
    rw [e1] at this
    exact this.mono (Nat.le_refl _) (by omega) (by omega)
theorem tI_W {ts : List tk} {t k : Nat} {u : List Nat} (h : tW ts t u = true) (hk : k ≠ 1) : ¬ tI ts t k = true := by
  intro z
  rw [tI_eq] at z
  unfold tW at h
  rw [beq_iff_eq] at h
  rw [h] at z
  exact hk z.symm
variable {rO : Bool → Nat → Option (cdP × Nat)} {w : Bool}
theorem cT_not (h : tW ts c w_not = true) (o : tI ts (c + 1) 40 = true) : cT (hd ts) itn ts rO w c = (cls ts 41 (rO w (c + 2))).map fun q => (cd_not q.1, q.2) := by
  unfold cT cls
  rw [if_pos (by rw [h, o]; rfl)]
  cases rO w (c + 2) with
  | none => rfl
  | some q =>
    rw [Option.bind_some, Option.bind_some]
    split <;> rfl
theorem cT_else (h : ¬ tW ts c w_not = true) (o : ¬ tI ts c 40 = true) : cT (hd ts) itn ts rO w c = if (!w && (tW ts c w_mail && tI ts (c + 1) 91)) = true then (rO true (c + 2)).bind fun q => if tI ts q.2 93 = true then some (cd_itm itn q.1, q.2 + 1) else none
  else (cC ts w c).map fun q => (cd_one (hd ts) q.1, q.2) := by
  unfold cT
  rw [if_neg (fun z => h (by rw [Bool.and_eq_true] at z; exact z.1)), if_neg o]
theorem cT_not0 (h : tW ts c w_not = true) (o : ¬ tI ts (c + 1) 40 = true) : cT (hd ts) itn ts rO w c = none := by
  unfold cT
  rw [if_neg (fun z => o (by rw [Bool.and_eq_true] at z; exact z.2)), if_neg (tI_W h (by decide)), if_neg, not_none h]
  · rfl
  · intro z
    rw [Bool.and_eq_true, Bool.and_eq_true] at z
    have := ((tW_opw (by decide)).mp z.2.1).symm.trans ((tW_opw (by decide)).mp h)
    exact absurd this (by decide)
theorem cT_par (h : ¬ tW ts c w_not = true) (o : tI ts c 40 = true) : cT (hd ts) itn ts rO w c = cls ts 41 (rO w (c + 1)) := by
  unfold cT cls
  rw [if_neg (fun z => h (by rw [Bool.and_eq_true] at z; exact z.1)), if_pos o]
theorem cT_one {way o : Nat} (hp : pAt ts w c = way) (ho : oAt ts w c = o) (hm : ¬ (c + 1 < oAt ts w c ∧ tW ts c w_mail = false)) : (cC ts w c).map (fun q => (cd_one (hd ts) q.1, q.2)) = oneC ts way o := by
  rw [cC_ok]
  subst hp ho
  unfold oneC
  by_cases e : okB ts (pAt ts w c) (oAt ts w c) = true
  · rw [if_pos ⟨e, hm⟩, if_pos e]; rfl
  · rw [if_neg (fun z => e z.1), if_neg e]; rfl
theorem cT_w (h : ¬ tW ts c w_not = true) (o : ¬ tI ts c 40 = true) : cT (hd ts) itn ts rO true c = oneC ts (pAt ts true c) (c + 1) := by
  rw [cT_else h o, if_neg (by simp)]
  exact cT_one rfl rfl (fun z => Nat.lt_irrefl _ z.1)
theorem cT_p (h : ¬ tW ts c w_not = true) (o : ¬ tI ts c 40 = true) (m : ¬ tW ts c w_mail = true) : cT (hd ts) itn ts rO false c = oneC ts (pAt ts false c) (c + 1) := by
  rw [cT_else h o, if_neg (fun z => m (by rw [Bool.and_eq_true, Bool.and_eq_true] at z; exact z.2.1))]
  by_cases e : tI ts (c + 1) 46 = true
  · have eo : oAt ts false c = c + 3 := if_pos (by rw [e]; rfl)
    rw [cC_ok, if_neg (fun z => z.2 ⟨by omega, by simpa using m⟩)]
    unfold oneC
    rw [if_neg]
    · rfl
    · intro z
      have z := (okB_iff.mp z).2
      have ew : opw ts (c + 1) = [] := by
        unfold opw
        rw [tI_eq] at e
        rw [if_neg (by omega)]
      rw [ew] at z
      rcases z with z | z
      · exact absurd z (by decide)
      · obtain ⟨k, hk, e⟩ := vld_in z.1
        exact opsL_ne hk e
  · refine cT_one rfl (if_neg (by simpa using e)) (fun z => ?_)
    have : oAt ts false c = c + 1 := if_neg (by simpa using e)
    omega
theorem cT_itm (m : tW ts c w_mail = true) (b : tI ts (c + 1) 91 = true) : cT (hd ts) itn ts rO false c = (cls ts 93 (rO true (c + 2))).map fun q => (cd_itm itn q.1, q.2) := by
  have h : ¬ tW ts c w_not = true := fun z => absurd (((tW_opw (by decide)).mp z).symm.trans ((tW_opw (by decide)).mp m)) (by decide)
  rw [cT_else h (tI_W m (by decide)), if_pos (by rw [m, b]; rfl)]
  unfold cls
  cases rO true (c + 2) with
  | none => rfl
  | some q =>
    rw [Option.bind_some, Option.bind_some]
    split <;> rfl
theorem cT_m (m : tW ts c w_mail = true) (b : ¬ tI ts (c + 1) 91 = true) : cT (hd ts) itn ts rO false c = if tI ts (c + 1) 46 = true then oneC ts (pAt ts true (c + 2)) (c + 3) else oneC ts 6 (c + 1) := by
  have h : ¬ tW ts c w_not = true := fun z => absurd (((tW_opw (by decide)).mp z).symm.trans ((tW_opw (by decide)).mp m)) (by decide)
  rw [cT_else h (tI_W m (by decide)), if_neg (by rw [m]; simpa using b)]
  by_cases e : tI ts (c + 1) 46 = true
  · rw [if_pos e]
    refine cT_one ?_ (if_pos (by rw [e]; rfl)) (fun z => by rw [m] at z; cases z.2)
    unfold pAt
    rw [if_neg (by decide), if_pos m, if_pos rfl, e]
    simp
  · rw [if_neg e]
    refine cT_one ?_ (if_neg (by simpa using e)) (fun z => by rw [m] at z; cases z.2)
    unfold pAt
    rw [if_neg (by decide), if_pos m, if_pos (Or.inl (by simpa using e))]
theorem mapR {K k : Nat} {w' : Bool} {G : Option (Option Value × mx_H)} {o : Option (cdP × Nat)} {F : cdP → cdP} (b : Rs K k 0 w' ts R h x cp c G o) {K' k' : Nat} {G' : Option (Option Value × mx_H)}
    (e0 : ∀ h', G = some (some .null, h') → G' = some (some .null, h'))
    (e1 : ∀ (q : cdP × Nat) (h1 : mx_H) (x1 cp1 f : Nat), G = some (some (.ref f), h1) → BT h1 x1 cp1 ts q.2 → Pn K w' (x1 :: R) h1 f q.1.2 → h.length ≤ f → h.length ≤ h1.length → PX ts h x cp c h1 x1 cp1 q.2 k → ∃ (h2 : mx_H), G' = some (some (.ref h1.length), h2) ∧ BT h2 x1 cp1 ts q.2 ∧ Pn K' w (x1 :: R) h2 h1.length (F q.1).2 ∧ PX ts h x cp c h2 x1 cp1 q.2 k') : Rs K' k' 0 w ts R h x cp c G' (o.map fun q => (F q.1, q.2)) := by
  cases o with
  | none =>
    obtain ⟨h', x', cp', c', b1, b2, b3⟩ := b
    exact ⟨h', x', cp', c', e0 _ b1, b2, b3⟩
  | some q =>
    obtain ⟨h1, x1, cp1, f, b1, b2, b3, b4, b5⟩ := b
    obtain ⟨h2, y1, y2, y3, y4⟩ := e1 q h1 x1 cp1 f b1 b2 b3 b4 b5.1.1 b5
    exact ⟨h2, x1, cp1, h1.length, y1, y2, y3, b5.1.1, y4⟩
theorem jg_term {n : Nat} (hn : n ≤ 6) (N : NB ts) (w : Bool) (rd : ∀ m, n = m + 1 → ∀ w, RO (d + 9) m w ts) (T : BT h x cp ts c) (r : RB R h) (K : KK h) :
    Rs (7 + 3 * n) 90 0 w ts R h x cp c (mx_G (d + 11) 166 0 [some (.ref 64), some (.int (nI (6 - n))), some (.int (if w = true then 1 else 0)), none, none, none] [] h) (cT (hd ts) itn ts (rOf ts n) w c) := by
  have f1 := T.kind.1
  obtain ⟨xl1, xl2, xl3, xl4, -, -⟩ := T.xlt
  have S13 : sB h 33 34 w_not := K.1 13 (by decide)
  obtain ⟨h1, n1, T1, F1, W1⟩ := jt_word (d := d + 6) T S13
  have K1 : KK h1 := K.fr F1 (by simp)
  have l1 := F1.1
  have r1 : RB R h1 := r.le l1
  have A := jt_isAt (d := d + 10) T1 (k := 40) (by decide)
  rw [show nI 40 = 40 from rfl] at A
  have g1 := T1.kind.1
  by_cases nt : tW ts c w_not = true
  · rw [if_pos nt] at n1 T1 A
    have hlt : c < ts.length := tW_lt nt
    have P1 := px_of64 T F1 W1 (show c ≤ c + 1 by omega)
    rw [Wt_succ hlt] at P1
    have P1 := P1.mono (k' := 100) (by omega)
    by_cases op : tI ts (c + 1) 40 = true
    · rw [cT_not nt op]
      rw [if_pos op] at A
      have G := Rs.pre P1 (jg_group (d := d + 8) hn w (fun m hm => rd m hm w) T1 r1 K1 (tI_ltN (by decide) op) (cl := 41) (by decide) (by decide))
      rw [show nI 41 = 41 from rfl] at G
      refine mapR G (fun h' e => ?_) (fun q h2 x2 cp2 f e b2 b3 b4 l2 b5 => ?_)
      · simp only [g166_0, g166_1, g166_3, g166_6, g166_7, g166_8, g166_10, g166_13, g166_16, g166_17, g166_19, g166_20, g166_21, g166_24, g166_26, g166_28, g166_28n, g166_28n, g166_44, g166_46, mx_isr_ref, mx_isr_null, mx_wt_nil, mx_wt_1, mx_wt_2, mx_wt_3, Option.bind_some, Option.toList_some, Option.toList_none, List.cons_append, List.nil_append, mx_nl_int, mx_nl_ref, mx_nl_null, mx_nl_none, mx_nb0, mx_nb1, mx_fb0, mx_fb1, mx_cat_int, mx_cat_ref, if_true, if_false, not_true_eq_false, not_false_eq_true, mx_wt_4, mx_w4_0, mx_w9_0, mx_w9_1, mx_kn_int, mx_kn_ref, mx_kn_null, Nat.reduceLT, ofn, n10, f1, n1, g1, A, e]
      · obtain ⟨h3, m1, m2, m3, m4, m5⟩ := Rs_around (d := d + 8) (h := h) (kk := 2) (w' := w) (n := 7 + 3 * n) (g' := (cd_not q.1).2) b2 b3 b4 xl4 r l2 (fun M h' f' cs y1 y2 y3 => (Mt_not y1 y2 y3).le (by omega))
        refine ⟨h3, ?_, m2, m3, (b5.al (n := 18) m4 (by simp) (by omega) (by omega)).mono (by omega)⟩
        simp only [g166_0, g166_1, g166_3, g166_6, g166_7, g166_8, g166_10, g166_13, g166_16, g166_17, g166_19, g166_20, g166_21, g166_24, g166_26, g166_28, g166_28n, g166_31, g166_32, g166_35, g166_36, g166_38, g166_41, g166_44, g166_46, mx_isr_ref, mx_isr_null, mx_wt_nil, mx_wt_1, mx_wt_2, mx_wt_3, Option.bind_some, Option.toList_some, Option.toList_none, List.cons_append, List.nil_append, mx_nl_int, mx_nl_ref, mx_nl_null, mx_nl_none, mx_nb0, mx_nb1, mx_fb0, mx_fb1, mx_cat_int, mx_cat_ref, if_true, if_false, not_true_eq_false, not_false_eq_true, mx_wt_4, mx_w4_0, mx_w9_0, mx_w9_1, mx_kn_int, mx_kn_ref, mx_kn_null, Nat.reduceLT, ofn, n10, f1, n1, g1, A, e, m1]
    · rw [cT_not0 nt op]
      rw [if_neg op] at A
      refine ⟨h1, x, cp, c + 1, ?_, T1, P1.d 0⟩
      simp only [g166_0, g166_1, g166_3, g166_6, g166_7, g166_8, g166_10, g166_13, g166_47, g166_48, g166_51, g166_52, mx_isr_ref, mx_isr_null, mx_wt_nil, mx_wt_1, mx_wt_2, mx_wt_3, Option.bind_some, Option.toList_some, Option.toList_none, List.cons_append, List.nil_append, mx_nl_int, mx_nl_ref, mx_nl_null, mx_nl_none, mx_nb0, mx_nb1, mx_fb0, mx_fb1, mx_cat_int, mx_cat_ref, if_true, if_false, not_true_eq_false, not_false_eq_true, mx_wt_4, mx_w4_0, mx_w9_0, mx_w9_1, mx_kn_int, mx_kn_ref, mx_kn_null, Nat.reduceLT, ofn, n10, f1, n1, g1, A]
  · rw [if_neg nt] at n1 T1 A
    have P1 := (px_of64 T F1 W1 (Nat.le_refl c)).mono (k' := 0) (Nat.zero_le _)
    by_cases op : tI ts c 40 = true
    · rw [cT_par nt op]
      rw [if_pos op] at A
      have G := Rs.pre P1 (jg_group (d := d + 8) hn w (fun m hm => rd m hm w) T1 r1 K1 (tI_ltN (by decide) op) (cl := 41) (by decide) (by decide))
      rw [show nI 41 = 41 from rfl] at G
      refine (G.mono (K' := 7 + 3 * n) (k' := 90) (s' := 0) (by omega) (by omega) (by omega)).ret (fun v h' hv e => ?_)
      cases v with
      | null => simp only [g166_0, g166_1, g166_3, g166_6, g166_7, g166_8, g166_10, g166_13, g166_16, g166_17, g166_19, g166_20, g166_21, g166_24, g166_26, g166_28, g166_28n, g166_28n, g166_44, g166_46, mx_isr_ref, mx_isr_null, mx_wt_nil, mx_wt_1, mx_wt_2, mx_wt_3, Option.bind_some, Option.toList_some, Option.toList_none, List.cons_append, List.nil_append, mx_nl_int, mx_nl_ref, mx_nl_null, mx_nl_none, mx_nb0, mx_nb1, mx_fb0, mx_fb1, mx_cat_int, mx_cat_ref, if_true, if_false, not_true_eq_false, not_false_eq_true, mx_wt_4, mx_w4_0, mx_w9_0, mx_w9_1, mx_kn_int, mx_kn_ref, mx_kn_null, Nat.reduceLT, ofn, n10, f1, n1, g1, A, e]
      | ref f => simp only [g166_0, g166_1, g166_3, g166_6, g166_7, g166_8, g166_10, g166_13, g166_16, g166_17, g166_19, g166_20, g166_21, g166_24, g166_26, g166_28, g166_28n, g166_31, g166_32, g166_44, g166_46, mx_isr_ref, mx_isr_null, mx_wt_nil, mx_wt_1, mx_wt_2, mx_wt_3, Option.bind_some, Option.toList_some, Option.toList_none, List.cons_append, List.nil_append, mx_nl_int, mx_nl_ref, mx_nl_null, mx_nl_none, mx_nb0, mx_nb1, mx_fb0, mx_fb1, mx_cat_int, mx_cat_ref, if_true, if_false, not_true_eq_false, not_false_eq_true, mx_wt_4, mx_w4_0, mx_w9_0, mx_w9_1, mx_kn_int, mx_kn_ref, mx_kn_null, Nat.reduceLT, ofn, n10, f1, n1, g1, A, e]
      | _ => cases hv
    · rw [if_neg op] at A
      obtain ⟨h2, x2, cp2, s, b, a1, T2, S2, P2⟩ := jt_anyW (d := d + 1) T1
      have K2 : KK h2 := K1.fr P2.1 (by intro a ha; simp at ha; omega)
      have Q2 := P1.trans P2
      rw [Nat.zero_add] at Q2
      have g2 := T2.kind.1
      cases w with
      | true =>
        rw [cT_w nt op]
        have I := ja_ofI (d := d + 8) K2.1 S2
        rw [pAt_I] at I
        have C := jg_wordR (d := d) r Q2 T2 K2 N (way := pAt ts true c) (by have := pAt_lt (ts := ts) true c; omega) (w := true) (fun _ => pAt_6) (fun z => pAt_k z)
        refine (C.mono (K' := 7 + 3 * n) (k' := 90) (s' := 0) (by omega) (by omega) (by omega)).ret (fun v h' hv e => ?_)
        simp only [g166_0, g166_1, g166_3, g166_6, g166_7, g166_8, g166_10, g166_13, g166_47, g166_48, g166_51, g166_52, g166_53, g166_54, g166_57, g166_58, g166_59, g166_62, g166_65, g166_68, mx_isr_ref, mx_isr_null, mx_wt_nil, mx_wt_1, mx_wt_2, mx_wt_3, Option.bind_some, Option.toList_some, Option.toList_none, List.cons_append, List.nil_append, mx_nl_int, mx_nl_ref, mx_nl_null, mx_nl_none, mx_nb0, mx_nb1, mx_fb0, mx_fb1, mx_cat_int, mx_cat_ref, if_true, if_false, not_true_eq_false, not_false_eq_true, mx_wt_4, mx_w4_0, mx_w9_0, mx_w9_1, mx_kn_int, mx_kn_ref, mx_kn_null, Nat.reduceLT, ofn, n10, f1, n1, g1, A, a1, I, e, hv]
      | false =>
        by_cases m : tW ts c w_mail = true
        · have ew := (tW_opw (by decide)).mp m
          have I := ja_ofP (d := d + 8) K2.1 S2
          rw [ew, show aPi w_mail = 5 by decide] at I
          have k1 : (tA ts c).1 = 1 := opw_k (by rw [ew]; decide)
          have ecw : cw ts c = c + 1 := if_pos k1
          rw [ecw] at T2 Q2
          rw [if_pos k1] at Q2
          have l2 := Q2.1.1
          have r2 : RB R h2 := r.le l2
          have A2 := jt_isAt (d := d + 10) T2 (k := 91) (by decide)
          rw [show nI 91 = 91 from rfl] at A2
          by_cases br : tI ts (c + 1) 91 = true
          · rw [cT_itm m br]
            rw [if_pos br] at A2
            have G := Rs.pre Q2 (jg_group (d := d + 8) hn true (fun m hm => rd m hm true) T2 r2 K2 (tI_ltN (by decide) br) (cl := 93) (by decide) (by decide))
            simp only [if_true, show nI 93 = 93 from rfl] at G
            refine mapR G (fun h' e => ?_) (fun q h3 x3 cp3 f e b2 b3 b4 l3 b5 => ?_)
            · simp only [g166_0, g166_1, g166_3, g166_6, g166_7, g166_8, g166_10, g166_13, g166_47, g166_48, g166_51, g166_52, g166_53, g166_54, g166_69, g166_70, g166_73, g166_76, g166_78, g166_80, g166_81, g166_91, g166_92, g166_94, g166_97, g166_100, g166_101, g166_103, g166_104, g166_105, g166_108, g166_110, g166_112, g166_112n, g166_112n, g166_115, g166_116, g166_119, g166_120, g166_122, g166_125, mx_isr_ref, mx_isr_null, mx_wt_nil, mx_wt_1, mx_wt_2, mx_wt_3, Option.bind_some, Option.toList_some, Option.toList_none, List.cons_append, List.nil_append, mx_nl_int, mx_nl_ref, mx_nl_null, mx_nl_none, mx_nb0, mx_nb1, mx_fb0, mx_fb1, mx_cat_int, mx_cat_ref, if_true, if_false, not_true_eq_false, not_false_eq_true, mx_wt_4, mx_w4_0, mx_w9_0, mx_w9_1, mx_kn_int, mx_kn_ref, mx_kn_null, Nat.reduceLT, ofn, n10, f1, n1, g1, A, a1, I, g2, A2, e, Bool.false_eq_true]
            · obtain ⟨h4, m1, m2, m3, m4, m5⟩ := Rs_around (d := d + 8) (h := h) (kk := 3) (w' := false) (n := 7 + 3 * n) (g' := (cd_itm itn q.1).2) b2 b3 b4 xl4 r l3 (fun M h' f' cs y1 y2 y3 => (Mt_item (K := 2 + 3 * n) y1 y2 (y3.le (by omega))).le (by omega))
              refine ⟨h4, ?_, m2, m3, (b5.al (n := 18) m4 (by simp) (by omega) (by omega)).mono (by omega)⟩
              simp only [g166_0, g166_1, g166_3, g166_6, g166_7, g166_8, g166_10, g166_13, g166_47, g166_48, g166_51, g166_52, g166_53, g166_54, g166_69, g166_70, g166_73, g166_76, g166_78, g166_80, g166_81, g166_91, g166_92, g166_94, g166_97, g166_100, g166_101, g166_103, g166_104, g166_105, g166_108, g166_110, g166_112, g166_112n, g166_115, g166_116, g166_119, g166_120, g166_122, g166_125, mx_isr_ref, mx_isr_null, mx_wt_nil, mx_wt_1, mx_wt_2, mx_wt_3, Option.bind_some, Option.toList_some, Option.toList_none, List.cons_append, List.nil_append, mx_nl_int, mx_nl_ref, mx_nl_null, mx_nl_none, mx_nb0, mx_nb1, mx_fb0, mx_fb1, mx_cat_int, mx_cat_ref, if_true, if_false, not_true_eq_false, not_false_eq_true, mx_wt_4, mx_w4_0, mx_w9_0, mx_w9_1, mx_kn_int, mx_kn_ref, mx_kn_null, Nat.reduceLT, ofn, n10, f1, n1, g1, A, a1, I, g2, A2, e, m1, Bool.false_eq_true]
          · rw [cT_m m br]
            rw [if_neg br] at A2
            obtain ⟨h3, t1, T3, F3, W3⟩ := jt_take (d := d + 9) T2 (k := 46) (by decide) (by decide)
            rw [show nI 46 = 46 from rfl] at t1
            have K3 : KK h3 := K2.fr F3 (by simp)
            have g3 := T3.kind.1
            by_cases dt : tI ts (c + 1) 46 = true
            · rw [if_pos dt] at t1 T3 ⊢
              have P3 := (px_of64 T2 F3 W3 (show c + 1 ≤ c + 2 by omega)).mono (k' := 0) (Nat.zero_le _)
              obtain ⟨h4, x4, cp4, s4, b4, a4, T4, S4, P4⟩ := jt_anyW (d := d + 1) T3
              have x2m : 63 ≤ x2 := T2.xlt.2.1
              have K4 : KK h4 := K3.fr P4.1 (by intro a ha; simp at ha; omega)
              have I4 := ja_ofI (d := d + 8) K4.1 S4
              rw [pAt_I] at I4
              have C := jg_wordR (d := d) (r2.le F3.1) P4 T4 K4 N (way := pAt ts true (c + 2)) (by have := pAt_lt (ts := ts) true (c + 2); omega) (w := false) (fun z => (by cases z)) (fun z => pAt_k z)
              refine ((Rs.pre (Q2.trans P3) C).mono (K' := 7 + 3 * n) (k' := 90) (s' := 0) (by omega) (by omega) (by omega)).ret (fun v h' hv e => ?_)
              simp only [g166_0, g166_1, g166_3, g166_6, g166_7, g166_8, g166_10, g166_13, g166_47, g166_48, g166_51, g166_52, g166_53, g166_54, g166_69, g166_70, g166_73, g166_76, g166_78, g166_80, g166_81, g166_91, g166_92, g166_94, g166_97, g166_126, g166_127, g166_129, g166_132, g166_134, g166_135, g166_137, g166_140, g166_141, g166_144, g166_147, g166_150, g166_152, g166_155, mx_isr_ref, mx_isr_null, mx_wt_nil, mx_wt_1, mx_wt_2, mx_wt_3, Option.bind_some, Option.toList_some, Option.toList_none, List.cons_append, List.nil_append, mx_nl_int, mx_nl_ref, mx_nl_null, mx_nl_none, mx_nb0, mx_nb1, mx_fb0, mx_fb1, mx_cat_int, mx_cat_ref, if_true, if_false, not_true_eq_false, not_false_eq_true, mx_wt_4, mx_w4_0, mx_w9_0, mx_w9_1, mx_kn_int, mx_kn_ref, mx_kn_null, Nat.reduceLT, ofn, n10, f1, n1, g1, A, a1, I, g2, A2, t1, g3, a4, I4, e, hv, Bool.false_eq_true]
            · rw [if_neg dt] at t1 T3 ⊢
              have P3 := (px_of64 T2 F3 W3 (Nat.le_refl (c + 1))).mono (k' := 0) (Nat.zero_le _)
              have C := jg_cmpR (d := d) T3 (r2.le F3.1) K3 N (way := 6) (by decide) (w := false) (fun z => (by cases z))
              rw [show aW 6 = 6 from rfl] at C
              refine ((Rs.pre (Q2.trans P3) C).mono (K' := 7 + 3 * n) (k' := 90) (s' := 0) (by omega) (by omega) (by omega)).ret (fun v h' hv e => ?_)
              simp only [g166_0, g166_1, g166_3, g166_6, g166_7, g166_8, g166_10, g166_13, g166_47, g166_48, g166_51, g166_52, g166_53, g166_54, g166_69, g166_70, g166_73, g166_76, g166_78, g166_80, g166_81, g166_91, g166_92, g166_94, g166_97, g166_126, g166_127, g166_129, g166_132, g166_134, g166_135, g166_137, g166_140, g166_141, g166_144, g166_147, g166_150, g166_152, g166_155, mx_isr_ref, mx_isr_null, mx_wt_nil, mx_wt_1, mx_wt_2, mx_wt_3, Option.bind_some, Option.toList_some, Option.toList_none, List.cons_append, List.nil_append, mx_nl_int, mx_nl_ref, mx_nl_null, mx_nl_none, mx_nb0, mx_nb1, mx_fb0, mx_fb1, mx_cat_int, mx_cat_ref, if_true, if_false, not_true_eq_false, not_false_eq_true, mx_wt_4, mx_w4_0, mx_w9_0, mx_w9_1, mx_kn_int, mx_kn_ref, mx_kn_null, Nat.reduceLT, ofn, n10, f1, n1, g1, A, a1, I, g2, A2, t1, g3, e, hv, Bool.false_eq_true]
        · rw [cT_p nt op m]
          have I := ja_ofP (d := d + 8) K2.1 S2
          rw [pAt_P _ _ m] at I
          have h7 : pAt ts false c ≤ 7 := by have := pAt_lt (ts := ts) false c; omega
          have C := jg_wordR (d := d) r Q2 T2 K2 N h7 (w := false) (fun z => (by cases z)) (fun z => pAt_k z)
          refine (C.mono (K' := 7 + 3 * n) (k' := 90) (s' := 0) (by omega) (by omega) (by omega)).ret (fun v h' hv e => ?_)
          simp only [g166_0, g166_1, g166_3, g166_6, g166_7, g166_8, g166_10, g166_13, g166_47, g166_48, g166_51, g166_52, g166_53, g166_54, g166_69, g166_70, g166_73, g166_76, g166_78, g166_80, g166_81, g166_84, g166_85, g166_87, g166_90, mx_isr_ref, mx_isr_null, mx_wt_nil, mx_wt_1, mx_wt_2, mx_wt_3, Option.bind_some, Option.toList_some, Option.toList_none, List.cons_append, List.nil_append, mx_nl_int, mx_nl_ref, mx_nl_null, mx_nl_none, mx_nb0, mx_nb1, mx_fb0, mx_fb1, mx_cat_int, mx_cat_ref, if_true, if_false, not_true_eq_false, not_false_eq_true, mx_wt_4, mx_w4_0, mx_w9_0, mx_w9_1, mx_kn_int, mx_kn_ref, mx_kn_null, Nat.reduceLT, ofn, n10, f1, n1, g1, A, a1, I, aW_5 h7, e, hv, Bool.false_eq_true]
end
