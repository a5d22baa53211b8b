/-! Value.read. -/
theorem dst_app1 (ts : List tk) (k : Nat) : ∀ l : List Nat, dst ts (l ++ [k]) = (dst ts l && l.all fun u => nmf ts u != nmf ts k) := by
  intro l
  induction l with
  | nil => simp [dst]
  | cons m l ih =>
    rw [List.cons_append, dst, ih, dst, List.all_append, List.all_cons]
    simp only [List.all_cons, List.all_nil, Bool.and_true]
    cases (l.all fun u => nmf ts m != nmf ts u) <;> cases (nmf ts m != nmf ts k) <;> cases dst ts l <;> cases (l.all fun u => nmf ts u != nmf ts k) <;> rfl
theorem dst_pre (ts : List tk) (r : List Nat) : ∀ l : List Nat, dst ts (l ++ r) = true → dst ts l = true := by
  intro l
  induction l with
  | nil => intro _; rfl
  | cons m l ih =>
    intro h
    rw [List.cons_append, dst, Bool.and_eq_true] at h
    rw [dst, ih h.2, Bool.and_true, List.all_eq_true]
    intro u hu
    exact List.all_eq_true.mp h.1 u (List.mem_append.mpr (Or.inl hu))
/-- the parts, no name twice, with those before -/
def pD (rc : Nat → Option Nat) (ts : List tk) (o : Bool) (l0 : List Nat) (f k : Nat) : Option (List Nat × Nat) := (pP rc ts o f k).bind fun q => if o = true ∧ dst ts (l0 ++ q.1) = false then none else some q
theorem pD_0 {rc : Nat → Option Nat} {ts : List tk} {o : Bool} {l0 : List Nat} {k : Nat} : pD rc ts o l0 0 k = none := rfl
theorem pD_S {rc : Nat → Option Nat} {ts : List tk} {o : Bool} {l0 : List Nat} {f k : Nat} (hd : o = true → dst ts l0 = true) : pD rc ts o l0 (f + 1) k =
    if o = true ∧ (isMem ts k = false ∨ l0.all (fun u => nmf ts u != nmf ts k) = false) then none else match rc (mv o k) with
      | none => none
      | some e => if tI ts e (cl o) = true then some ([k], e + 1) else if tI ts e 44 = true then (pD rc ts o (l0 ++ [k]) f (e + 1)).map fun q => (k :: q.1, q.2) else none := by
  unfold pD
  rw [pP]
  by_cases h1 : (o && !isMem ts k) = true
  · rw [if_pos h1, Option.bind_none, if_pos]
    simp only [Bool.and_eq_true, Bool.not_eq_true'] at h1
    exact ⟨h1.1, Or.inl h1.2⟩
  · rw [if_neg h1]
    have hm : o = true → ¬ isMem ts k = false := fun z w => h1 (by rw [z, w]; rfl)
    by_cases h2 : o = true ∧ l0.all (fun u => nmf ts u != nmf ts k) = false
    · rw [if_pos ⟨h2.1, Or.inr h2.2⟩]
      -- a name is there twice
      have key : ∀ r : List Nat, dst ts (l0 ++ k :: r) = false := by
        intro r
        cases hq : dst ts (l0 ++ k :: r) with
        | false => rfl
        | true =>
          have := dst_pre ts r (l0 ++ [k]) (by rw [List.append_assoc]; exact hq)
          rw [dst_app1, Bool.and_eq_true, h2.2] at this
          exact absurd this.2 (by decide)
      cases rc (mv o k) with
      | none => rfl
      | some e =>
        simp only
        split
        · rw [Option.bind_some, if_pos ⟨h2.1, key []⟩]
        · split
          · cases pP rc ts o f (e + 1) with
            | none => rfl
            | some q => rw [Option.map_some, Option.bind_some, if_pos ⟨h2.1, key _⟩]
          · rfl
    · rw [if_neg (fun z => z.2.elim (hm z.1) (fun y => h2 ⟨z.1, y⟩))]
      cases rc (mv o k) with
      | none => rfl
      | some e =>
        simp only
        split
        · rw [Option.bind_some, if_neg]
          rintro ⟨z1, z2⟩
          rw [dst_app1, hd z1, Bool.true_and] at z2
          exact h2 ⟨z1, z2⟩
        · split
          · cases pP rc ts o f (e + 1) with
            | none => rfl
            | some q =>
              rw [Option.map_some, Option.bind_some, Option.bind_some]
              have ea : l0 ++ k :: q.1 = l0 ++ [k] ++ q.1 := by simp
              rw [ea]
              split <;> rfl
          · rfl
/-- the parts so far: the last one waits for its next -/
def chS (ts : List tk) (n : Nat) (o : Bool) (R : List Nat) (h0 : mx_H) (h : mx_H) (x : Nat) (first last : Value) (l0 : List Nat) : Prop :=
  (l0 = [] ∧ first = .null ∧ last = .null) ∨ ∃ (l1 : List Nat) (m p s w : Nat), l0 = l1 ++ [m] ∧ last = .ref p ∧ h0.length ≤ p ∧ h[p]? = some (.inl 6, [.ref s, .ref w, .null]) ∧ Str (x :: p :: R) h s (if o = true then nmf ts m else []) ∧ cVl ts n (x :: p :: R) h w (mv o m) ∧ pG (cVl ts n (x :: p :: R) h) ts o (x :: p :: R) h first l1 (.ref p)
theorem pG_N {V : Nat → Nat → Prop} {ts : List tk} {R' : List Nat} {h h2 : mx_H} {x : Nat} (f2 : Fr [64, 69, x] h h2) : ∀ (l : List Nat) (f g : Value) (r : List Nat), pG V ts true (x :: R') h f l g → pN ts h2 g r → pN ts h2 f (l ++ r) := by
  have hz : ∀ a, fz (x :: R') a → a ∉ [64, 69, x] := by
    intro a ha hm
    simp only [List.mem_cons, List.not_mem_nil, or_false] at hm
    rcases hm with rfl | rfl | rfl
    · exact ha.1 (by omega)
    · exact ha.1 (by omega)
    · exact ha.2 List.mem_cons_self
  intro l
  induction l with
  | nil => intro f g r e1 e2; cases e1; exact e2
  | cons m l ih =>
    rintro f g r ⟨p, s, w, f', e1, e2, e3, ⟨b, s1, s2, ⟨v2, v3, s3⟩, s4, s5⟩, e5, e6⟩ e7
    exact ⟨p, s, b, w, f', e1, f2.at e2 (hz _ e3), ⟨⟨v2, v3, f2.at s3 (hz _ s1)⟩, f2.at s4 (hz _ s2), s5⟩, ih _ _ _ e6 e7⟩
theorem fz_sub {M M' : List Nat} {a : Nat} (h : fz M a) (hs : ∀ b ∈ M', b ∈ M) : fz M' a := ⟨h.1, fun z => h.2 (hs _ z)⟩
section
variable {d : Nat} {ts : List tk}
/-- one part more -/
theorem chS_add {n : Nat} {o : Bool} {R : List Nat} {h0 h h1 h2 : mx_H} {x x1 c s w k : Nat} {cp cp1 e kk : Nat} {first : Value} {l0 : List Nat} (hl0 : 102 ≤ h0.length) (r0 : RB R h0) (hh : h0.length ≤ h.length) (T : BT h x cp ts c) (T1 : BT h1 x1 cp1 ts e)
    (P : PX ts h x cp c h1 x1 cp1 e kk) (F2 : Fr [] h1 h2) (eq : h2[h1.length]? = some (.inl 6, [.ref s, .ref w, .null])) :
    (chS ts n o R h0 h x first .null l0 → l0 = [] → Str (x1 :: R) h1 s (if o = true then nmf ts k else []) → cVl ts n (x1 :: R) h1 w (mv o k) → chS ts n o R h0 h2 x1 (.ref h1.length) (.ref h1.length) [k]) ∧
    (∀ p : Nat, chS ts n o R h0 h x first (.ref p) l0 → Str (x1 :: p :: R) h1 s (if o = true then nmf ts k else []) → cVl ts n (x1 :: p :: R) h1 w (mv o k) → chS ts n o R h0 (mx_up h2 p 2 (.ref h1.length)) x1 first (.ref h1.length) (l0 ++ [k])) := by
  have l1 := P.1.1
  have l2 := F2.1
  have x1l := T1.xlt.1
  constructor
  · intro _ _ hs hv
    have E : Ex (x1 :: R) h1 (x1 :: h1.length :: R) h2 := F2.ex (fun a ha => absurd ha (by simp)) (fun a ha => by
      simp only [List.mem_cons] at ha ⊢
      rcases ha with z | z | z
      · exact Or.inl (Or.inl z)
      · exact Or.inr (by omega)
      · exact Or.inl (Or.inr z))
    exact Or.inr ⟨[], k, h1.length, s, w, rfl, rfl, by omega, eq, hs.ex E, cVl.ex E _ _ _ hv, rfl⟩
  · intro p C hs hv
    rcases C with ⟨-, -, z⟩ | ⟨l1', m, p', s0, w0, c1, c2, c3, c4, c5, c6, c7⟩
    · cases z
    cases c2
    have pl := ce_l c4
    have RB' : RB (p :: R) h := fun a ha => by
      rcases List.mem_cons.mp ha with rfl | z
      · exact ⟨by omega, pl⟩
      · exact (r0.le hh) a z
    have E1 := P.ex RB'
    have pneq : p ≠ h1.length := by omega
    have E2 : Ex (x1 :: p :: R) h1 (x1 :: h1.length :: R) (mx_up h2 p 2 (.ref h1.length)) := by
      refine ((F2.mono (F' := [p]) (by simp)).trans (Fr.up (F := [p]) (by simp)) (fun a ha => Or.inl ha)).ex (fun a ha z => ?_) (fun a ha => ?_)
      · rw [List.mem_singleton] at ha
        exact z.2 (by rw [ha]; simp)
      · simp only [List.mem_cons] at ha ⊢
        rcases ha with z | z | z
        · exact Or.inl (Or.inl z)
        · exact Or.inr (by omega)
        · exact Or.inl (Or.inr (Or.inr z))
    have E := E1.trans E2
    have cellp : h1[p]? = some (.inl 6, [.ref s0, .ref w0, .null]) := P.1.at c4 (by
      simp only [List.mem_cons, List.not_mem_nil, or_false]
      rintro (z | z | z)
      · omega
      · omega
      · exact T.ne c4 (by simp) z)
    have px : p ≠ x1 := T1.ne cellp (by simp)
    have fzp : fz (x1 :: h1.length :: R) p := ⟨by omega, fun z => by
      simp only [List.mem_cons] at z
      rcases z with z | z | z
      · exact px z
      · exact pneq z
      · have := r0 _ z; omega⟩
    refine Or.inr ⟨l0, k, h1.length, s, w, rfl, rfl, by omega, by rw [c_upn (Ne.symm pneq)]; exact eq, hs.ex E2, cVl.ex E2 _ _ _ hv, ?_⟩
    rw [c1]
    refine pG_app _ _ _ _ _ (pG.ex (fun w u => cVl.ex E _ _ _) E _ _ _ c7) ⟨p, s0, w0, .ref h1.length, rfl, ?_, fzp, c5.ex E, cVl.ex E _ _ _ c6, rfl⟩
    rw [c_up (F2.at cellp (by simp))]
    rfl
theorem jv_mkVal {h : mx_H} (hl : 63 ≤ h.length) (k : Int32) {f : Value} (hf : mx_isr f = true) : ∃ h', mx_G (d + 1) 53 0 [some (.ref h.length), some (.int k), some f] [] (h ++ [(.inl 4, [.int 0, .int 0, .null, .null])]) = some (none, h') ∧ h'[h.length]? = some (.inl 4, [.int k, .int 0, .ref 11, f]) ∧ Fr [] h h' ∧ mw h' = mw h + 16 := by
  have e := c_app h ((.inl 4 : Nat ⊕ FieldType), [Value.int 0, .int 0, .null, .null])
  obtain ⟨n1, n2, n3⟩ := jv_new h.length hl e (.int k) (.int 0) (.ref 11) f
  refine ⟨_, jv_53 hl (ce_t e) k hf, n1, (Fr.app [] h _).trans n2 (fun a ha => by rw [List.mem_singleton] at ha; exact Or.inr (by omega)), by rw [n3, mw_app]; rfl⟩
def kdi (o : Bool) : Int32 := if o = true then 3 else 4
theorem jv_partsL {n : Nat} {o : Bool} (rd : RD (d + 10) n ts) {h0 : mx_H} {x0 cp0 c0 : Nat} {R : List Nat} (hl0 : 102 ≤ h0.length) (r0 : RB R h0) : ∀ (f i : Nat) (h : mx_H) (x cp c k0 : Nat) (first last : Value) (l0 : List Nat) (l7 : Option Value), i + f = 120 → BT h x cp ts c → PX ts h0 x0 cp0 c0 h x cp c k0 → chS ts n o R h0 h x first last l0 → (o = true → dst ts l0 = true) →
    (∀ q, pD (pV ts n) ts o l0 f c = some q → ∃ (h' : mx_H) (x' cp' v : Nat) (f' : Value), mx_G (d + 12) 50 59 [some (.ref 64), some (.int (nI (3 - n))), some (.int (kdi o)), some (.int (nI (cl o))), some first, some last, some (.int (nI i)), l7] [] h = some (some (.ref v), h') ∧ BT h' x' cp' ts q.2 ∧ h'[v]? = some (.inl 4, [.int (kdi o), .int 0, .ref 11, f']) ∧ h0.length ≤ v ∧ pG (cVl ts n (x' :: R) h') ts o (x' :: R) h' f' (l0 ++ q.1) .null ∧ PX ts h0 x0 cp0 c0 h' x' cp' q.2 (k0 + 84)) ∧
    (pD (pV ts n) ts o l0 f c = none → ∃ (h' : mx_H) (x' cp' c' : Nat), mx_G (d + 12) 50 59 [some (.ref 64), some (.int (nI (3 - n))), some (.int (kdi o)), some (.int (nI (cl o))), some first, some last, some (.int (nI i)), l7] [] h = some (some .null, h') ∧ BT h' x' cp' ts c' ∧ PX ts h0 x0 cp0 c0 h' x' cp' c' 0) := by
  intro f
  induction f with
  | zero =>
    intro i h x cp c k0 first last l0 l7 hi T P C hd
    have : i = 120 := by omega
    subst this
    refine ⟨fun q hq => (by cases hq), fun _ => ⟨h, x, cp, c, ?_, T, P.mono (Nat.zero_le _)⟩⟩
    simp only [g50_59, g50_61, g50_63, g50_154, g50_155, mx_isr_ref, mx_isr_null, mx_wt_nil, mx_wt_1, mx_wt_2, mx_wt_3, Option.bind_some, Option.toList_some, Option.toList_none, List.cons_append, List.nil_append, mx_nl_int, mx_nl_ref, mx_nl_null, mx_nl_none, mx_nb0, mx_nb1, mx_fb0, mx_fb1, mx_cat_int, mx_cat_ref, if_true, if_false, not_true_eq_false, not_false_eq_true, mx_wt_4, mx_w4_0, mx_w9_0, mx_w9_1, mx_kn_int, mx_kn_ref, mx_kn_null, Nat.reduceLT, ofn, n10, show (120 : Int32) ≤ nI 120 by decide]
  | succ f ih =>
    intro i h x cp c k0 first last l0 l7 hi T P C hd
    have lh := P.1.1
    have hisr : mx_isr first = true ∧ mx_isr last = true ∧ (last = .null ∧ l0 = [] ∨ ∃ p : Nat, last = .ref p) := by
      rcases C with ⟨z0, z1, z2⟩ | ⟨l1', m, p', s0, w0, c1, c2, c3, c4, c5, c6, c7⟩
      · rw [z1, z2]; exact ⟨rfl, rfl, Or.inl ⟨rfl, z0⟩⟩
      · refine ⟨pG_isr c7 rfl, by rw [c2]; rfl, Or.inr ⟨p', c2⟩⟩
    obtain ⟨hf, hl, hcase⟩ := hisr
    have q120 : ¬ (120 : Int32) ≤ nI i := nI_ge (b := 120) (by omega) (by decide)
    have f1 := T.kind.1
    -- what is kept while the next part is read
    obtain ⟨R', hR', hRR⟩ : ∃ R', RB R' h ∧ (last = .null ∧ R' = R ∨ ∃ p : Nat, last = .ref p ∧ R' = p :: R) := by
      rcases C with ⟨z0, z1, z2⟩ | ⟨l1', m, p', s0, w0, c1, c2, c3, c4, c5, c6, c7⟩
      · exact ⟨R, r0.le lh, Or.inl ⟨z2, rfl⟩⟩
      · exact ⟨p' :: R, fun a ha => by
          rcases List.mem_cons.mp ha with rfl | z
          · exact ⟨by omega, ce_l c4⟩
          · exact (r0.le lh) a z, Or.inr ⟨p', c2, rfl⟩⟩
    rw [pD_S hd]
    -- the next part
    have nxt : (∀ e, pV ts n (mv o c) = some e → ¬ (o = true ∧ (isMem ts c = false ∨ l0.all (fun u => nmf ts u != nmf ts c) = false)) → ∃ (h1 h2 : mx_H) (x' cp' s w : Nat), mx_G (d + 12) 50 59 [some (.ref 64), some (.int (nI (3 - n))), some (.int (kdi o)), some (.int (nI (cl o))), some first, some last, some (.int (nI i)), l7] [] h = mx_G (d + 12) 50 95 [some (.ref 64), some (.int (nI (3 - n))), some (.int (kdi o)), some (.int (nI (cl o))), some first, some last, some (.int (nI i)), some (.ref h1.length)] [] h2 ∧ Fr [] h1 h2 ∧ h2[h1.length]? = some (.inl 6, [.ref s, .ref w, .null]) ∧ h2.length = h1.length + 1 ∧ mw h2 = mw h1 + 15 ∧ BT h1 x' cp' ts e ∧ Str (x' :: R') h1 s (if o = true then nmf ts c else []) ∧ cVl ts n (x' :: R') h1 w (mv o c) ∧ PX ts h x cp c h1 x' cp' e 50) ∧
        (pV ts n (mv o c) = none ∨ (o = true ∧ (isMem ts c = false ∨ l0.all (fun u => nmf ts u != nmf ts c) = false)) → ∃ (h' : mx_H) (x' cp' c' : Nat), mx_G (d + 12) 50 59 [some (.ref 64), some (.int (nI (3 - n))), some (.int (kdi o)), some (.int (nI (cl o))), some first, some last, some (.int (nI i)), l7] [] h = some (some .null, h') ∧ BT h' x' cp' ts c' ∧ PX ts h x cp c h' x' cp' c' 0) := by
      cases o with
      | true =>
        have hN : ∀ h2, Fr [64, 69, x] h h2 → pN ts h2 first l0 := by
          intro h2 F
          rcases C with ⟨z0, z1, z2⟩ | ⟨l1', m, p', s0, w0, c1, c2, c3, c4, c5, c6, c7⟩
          · rw [z0, z1]; rfl
          · rw [c1]
            refine pG_N F _ _ _ _ c7 ?_
            obtain ⟨b, s1, s2, ⟨v2, v3, s3⟩, s4, s5⟩ := c5
            have hz : ∀ a, fz (x :: p' :: R) a → a ∉ [64, 69, x] := by
              intro a ha hm
              simp only [List.mem_cons, List.not_mem_nil, or_false] at hm
              rcases hm with rfl | rfl | rfl
              · exact ha.1 (by omega)
              · exact ha.1 (by omega)
              · exact ha.2 List.mem_cons_self
            refine ⟨p', s0, b, w0, .null, rfl, F.at c4 ?_, ⟨⟨v2, v3, F.at s3 (hz _ s1)⟩, F.at s4 (hz _ s2), s5⟩, rfl⟩
            simp only [List.mem_cons, List.not_mem_nil, or_false]
            rintro (z | z | z)
            · omega
            · omega
            · exact T.ne c4 (by simp) z
        obtain ⟨m1, m2⟩ := jv_mem rd T hR' hf hN
        refine ⟨fun e he hno => ?_, fun he => ?_⟩
        · have hM : isMem ts c = true := by
            cases z : isMem ts c
            · exact absurd ⟨rfl, Or.inl z⟩ hno
            · rfl
          have hA : l0.all (fun u => nmf ts u != nmf ts c) = true := by
            cases z : l0.all (fun u => nmf ts u != nmf ts c)
            · exact absurd ⟨rfl, Or.inr z⟩ hno
            · rfl
          obtain ⟨h1, h2, x', cp', s, w, a1, a2, a3, a4, a5, a6, a7, a8, a9⟩ := m1 e hM hA he
          refine ⟨h1, h2, x', cp', s, w, ?_, a2, a3, a4, a5, a6, a7, a8, a9⟩
          simp only [g50_59, g50_61, g50_63, g50_66, g50_67, g50_68, g50_71, g50_72, g50_73, g50_75, g50_78, g50_81, g50_82, g50_83, g50_86, g50_88, g50_90, g50_90n, mx_isr_ref, mx_isr_null, mx_wt_nil, mx_wt_1, mx_wt_2, mx_wt_3, Option.bind_some, Option.toList_some, Option.toList_none, List.cons_append, List.nil_append, mx_nl_int, mx_nl_ref, mx_nl_null, mx_nl_none, mx_nb0, mx_nb1, mx_fb0, mx_fb1, mx_cat_int, mx_cat_ref, if_true, if_false, not_true_eq_false, not_false_eq_true, mx_wt_4, mx_w4_0, mx_w9_0, mx_w9_1, mx_kn_int, mx_kn_ref, mx_kn_null, Nat.reduceLT, ofn, n10, q120, kdi, a1, hf, show ¬ (¬ (3 : Int32) = 3) by decide]
        · have he' : isMem ts c = false ∨ l0.all (fun u => nmf ts u != nmf ts c) = false ∨ pV ts n (c + 2) = none := by
            rcases he with z | ⟨-, z | z⟩
            · exact Or.inr (Or.inr z)
            · exact Or.inl z
            · exact Or.inr (Or.inl z)
          obtain ⟨h', x', cp', c', a1, a2, a3⟩ := m2 he'
          refine ⟨h', x', cp', c', ?_, a2, a3⟩
          simp only [g50_59, g50_61, g50_63, g50_66, g50_67, g50_68, g50_71, g50_72, g50_73, g50_75, g50_78, g50_81, g50_82, g50_83, g50_86, g50_88, g50_90, g50_90n, g50_93, g50_94, mx_isr_ref, mx_isr_null, mx_wt_nil, mx_wt_1, mx_wt_2, mx_wt_3, Option.bind_some, Option.toList_some, Option.toList_none, List.cons_append, List.nil_append, mx_nl_int, mx_nl_ref, mx_nl_null, mx_nl_none, mx_nb0, mx_nb1, mx_fb0, mx_fb1, mx_cat_int, mx_cat_ref, if_true, if_false, not_true_eq_false, not_false_eq_true, mx_wt_4, mx_w4_0, mx_w9_0, mx_w9_1, mx_kn_int, mx_kn_ref, mx_kn_null, Nat.reduceLT, ofn, n10, q120, kdi, a1, hf, show ¬ (¬ (3 : Int32) = 3) by decide]
      | false =>
        obtain ⟨m1, m2⟩ := jv_elem rd T hR'
        refine ⟨fun e he hno => ?_, fun he => ?_⟩
        · obtain ⟨h1, h2, x', cp', s, w, a1, a2, a3, a4, a5, a6, a7, a8, a9⟩ := m1 e he
          refine ⟨h1, h2, x', cp', s, w, ?_, a2, a3, a4, a5, a6, a7, a8, a9⟩
          simp only [g50_59, g50_61, g50_63, g50_66, g50_67, g50_68, g50_71, g50_72, g50_73, g50_75, g50_78, g50_81, g50_82, g50_83, g50_86, g50_88, g50_90, g50_90n, mx_isr_ref, mx_isr_null, mx_wt_nil, mx_wt_1, mx_wt_2, mx_wt_3, Option.bind_some, Option.toList_some, Option.toList_none, List.cons_append, List.nil_append, mx_nl_int, mx_nl_ref, mx_nl_null, mx_nl_none, mx_nb0, mx_nb1, mx_fb0, mx_fb1, mx_cat_int, mx_cat_ref, if_true, if_false, not_true_eq_false, not_false_eq_true, mx_wt_4, mx_w4_0, mx_w9_0, mx_w9_1, mx_kn_int, mx_kn_ref, mx_kn_null, Nat.reduceLT, ofn, n10, q120, kdi, a1, Bool.false_eq_true, show ¬ (4 : Int32) = 3 by decide]
        · have he' : pV ts n c = none := by
            rcases he with z | ⟨z, -⟩
            · exact z
            · cases z
          obtain ⟨h', x', cp', c', a1, a2, a3⟩ := m2 he'
          refine ⟨h', x', cp', c', ?_, a2, a3⟩
          simp only [g50_59, g50_61, g50_63, g50_66, g50_67, g50_68, g50_71, g50_72, g50_73, g50_75, g50_78, g50_81, g50_82, g50_83, g50_86, g50_88, g50_90, g50_90n, g50_93, g50_94, mx_isr_ref, mx_isr_null, mx_wt_nil, mx_wt_1, mx_wt_2, mx_wt_3, Option.bind_some, Option.toList_some, Option.toList_none, List.cons_append, List.nil_append, mx_nl_int, mx_nl_ref, mx_nl_null, mx_nl_none, mx_nb0, mx_nb1, mx_fb0, mx_fb1, mx_cat_int, mx_cat_ref, if_true, if_false, not_true_eq_false, not_false_eq_true, mx_wt_4, mx_w4_0, mx_w9_0, mx_w9_1, mx_kn_int, mx_kn_ref, mx_kn_null, Nat.reduceLT, ofn, n10, q120, kdi, a1, Bool.false_eq_true, show ¬ (4 : Int32) = 3 by decide]
    obtain ⟨nx1, nx2⟩ := nxt
    by_cases hbad : o = true ∧ (isMem ts c = false ∨ l0.all (fun u => nmf ts u != nmf ts c) = false)
    · rw [if_pos hbad]
      refine ⟨fun q hq => (by cases hq), fun _ => ?_⟩
      obtain ⟨h', x', cp', c', a1, a2, a3⟩ := nx2 (Or.inr hbad)
      exact ⟨h', x', cp', c', a1, a2, (P.trans a3).mono (Nat.zero_le _)⟩
    · rw [if_neg hbad]
      cases hv : pV ts n (mv o c) with
      | none =>
        refine ⟨fun q hq => (by cases hq), fun _ => ?_⟩
        obtain ⟨h', x', cp', c', a1, a2, a3⟩ := nx2 (Or.inl hv)
        exact ⟨h', x', cp', c', a1, a2, (P.trans a3).mono (Nat.zero_le _)⟩
      | some e =>
        obtain ⟨h1, h2, x1, cp1, s, w, g1, F2, eq2, len2, mw2, T1, S1, V1, P1⟩ := nx1 e hv hbad
        have lh1 := P1.1.1
        -- the part is hung on
        obtain ⟨h3, first', hG3, C3, T3, P3, F3⟩ : ∃ (h3 : mx_H) (first' : Value), mx_G (d + 12) 50 95 [some (.ref 64), some (.int (nI (3 - n))), some (.int (kdi o)), some (.int (nI (cl o))), some first, some last, some (.int (nI i)), some (.ref h1.length)] [] h2 = mx_G (d + 12) 50 118 [some (.ref 64), some (.int (nI (3 - n))), some (.int (kdi o)), some (.int (nI (cl o))), some first', some (.ref h1.length), some (.int (nI i)), some (.ref h1.length)] [] h3 ∧ chS ts n o R h0 h3 x1 first' (.ref h1.length) (l0 ++ [c]) ∧ BT h3 x1 cp1 ts e ∧ PX ts h0 x0 cp0 c0 h3 x1 cp1 e (k0 + 35) ∧ h3.length = h2.length := by
          have PA := (P.trans P1).al (n := 15) F2 (by simp) (by omega) (by omega)
          have T2 := T1.fr F2 (by simp)
          obtain ⟨ad1, ad2⟩ := chS_add (n := n) (o := o) (k := c) hl0 r0 lh T T1 P1 F2 eq2 (first := first) (l0 := l0)
          rcases hRR with ⟨z1, z2⟩ | ⟨p, z1, z2⟩
          · rw [z1] at C ⊢
            rw [z2] at S1 V1
            have hl0' : l0 = [] := by
              rcases C with ⟨y, -, -⟩ | ⟨_, _, _, _, _, _, y, _⟩
              · exact y
              · cases y
            have C3 := ad1 C hl0' S1 V1
            refine ⟨h2, .ref h1.length, ?_, by rw [hl0']; exact C3, T2, PA.mono (by omega), rfl⟩
            simp only [g50_95, g50_97, g50_97n, g50_100, g50_102, g50_104, g50_107, g50_109, g50_111, g50_114, g50_116, mx_isr_ref, mx_isr_null, mx_wt_nil, mx_wt_1, mx_wt_2, mx_wt_3, Option.bind_some, Option.toList_some, Option.toList_none, List.cons_append, List.nil_append, mx_nl_int, mx_nl_ref, mx_nl_null, mx_nl_none, mx_nb0, mx_nb1, mx_fb0, mx_fb1, mx_cat_int, mx_cat_ref, if_true, if_false, not_true_eq_false, not_false_eq_true, mx_wt_4, mx_w4_0, mx_w9_0, mx_w9_1, mx_kn_int, mx_kn_ref, mx_kn_null, Nat.reduceLT, ofn, n10]
          · rw [z1] at C ⊢
            rw [z2] at S1 V1
            have C3 := ad2 p C S1 V1
            have hp : h0.length ≤ p ∧ h2[p]? ≠ none ∧ p ≠ x1 ∧ mx_tag h2 p = some (.inl 6) := by
              rcases C with ⟨-, -, y⟩ | ⟨l1', m, p', s0, w0, c1, c2, c3, c4, c5, c6, c7⟩
              · cases y
              · cases c2
                have cp1 : h1[p]? = some (.inl 6, [.ref s0, .ref w0, .null]) := P1.1.at c4 (by
                  simp only [List.mem_cons, List.not_mem_nil, or_false]
                  rintro (z | z | z)
                  · omega
                  · omega
                  · exact T.ne c4 (by simp) z)
                have cp2 := F2.at cp1 (by simp)
                exact ⟨c3, by rw [cp2]; simp, T1.ne cp1 (by simp), ce_t cp2⟩
            refine ⟨mx_up h2 p 2 (.ref h1.length), first, ?_, C3, T2.fr (Fr.up (F := [p]) (by simp)) (fun a ha => by rw [List.mem_singleton] at ha; rw [ha]; exact ⟨by omega, hp.2.2.1⟩), (PA.al (n := 0) (Fr.up (F := [p]) (by simp)) (fun a ha => by rw [List.mem_singleton] at ha; rw [ha]; exact hp.1) (by rw [mw_up]; exact Nat.le_refl _) (Nat.zero_le _)).mono (by omega), mx_len_up _ _ _ _⟩
            simp only [g50_95, g50_97, g50_97n, g50_100, g50_102, g50_104, g50_107, g50_109, g50_111, g50_114, g50_116, mx_isr_ref, mx_isr_null, mx_wt_nil, mx_wt_1, mx_wt_2, mx_wt_3, Option.bind_some, Option.toList_some, Option.toList_none, List.cons_append, List.nil_append, mx_nl_int, mx_nl_ref, mx_nl_null, mx_nl_none, mx_nb0, mx_nb1, mx_fb0, mx_fb1, mx_cat_int, mx_cat_ref, if_true, if_false, not_true_eq_false, not_false_eq_true, mx_wt_4, mx_w4_0, mx_w9_0, mx_w9_1, mx_kn_int, mx_kn_ref, mx_kn_null, Nat.reduceLT, ofn, n10, hp.2.2.2, hf, nl_isr hf, show mt_nO ≤ p by rw [show mt_nO = 63 by decide]; omega]
        rw [g1, hG3]
        have hf' : mx_isr first' = true := by
          rcases C3 with ⟨_, _, z⟩ | ⟨l1', m, p', s0, w0, c1, c2, c3, c4, c5, c6, c7⟩
          · cases z
          · exact pG_isr c7 rfl
        have f3 := T3.kind.1
        have l03 := P3.1.1
        obtain ⟨h4, k1, T4, F4, W4⟩ := jt_take (d := d + 10) T3 (k := cl o) (by cases o <;> decide) (by cases o <;> decide)
        simp only
        by_cases hc : tI ts e (cl o) = true
        · rw [if_pos hc]
          rw [if_pos hc] at k1 T4
          have hlt : e < ts.length := tI_ltN (by cases o <;> decide) hc
          refine ⟨fun q hq => ?_, fun z => (by cases z)⟩
          cases hq
          obtain ⟨h5, v1, v2, v3, v4⟩ := jv_mkVal (d := d + 10) (h := h4) (by have := T4.xlt.2.2.2.1; omega) (kdi o) hf'
          have l34 := F4.1
          have F35 : Fr [64] h3 h5 := F4.trans v3 (fun a ha => absurd ha (by simp))
          have T5 := T4.fr v3 (by simp)
          have E : Ex (x1 :: h1.length :: R) h3 (x1 :: R) h5 := F35.ex (fun a ha z => by rw [List.mem_singleton] at ha; rw [ha] at z; exact z.1 (by omega)) (fun a ha => by
            simp only [List.mem_cons] at ha ⊢
            rcases ha with z | z
            · exact Or.inl (Or.inl z)
            · exact Or.inl (Or.inr (Or.inr z)))
          refine ⟨h5, x1, cp1, h4.length, first', ?_, T5, v2, by omega, ?_, ?_⟩
          · have tt : mx_tag (h4 ++ [((.inl 4 : Nat ⊕ FieldType), [Value.int 0, .int 0, .null, .null])]) h4.length = some (.inl 4) := by rw [mx_tag_app, if_pos rfl]
            simp only [g50_118, g50_119, g50_120, g50_123, g50_126, g50_129, g50_130, g50_131, g50_133, g50_136, mx_isr_ref, mx_isr_null, mx_wt_nil, mx_wt_1, mx_wt_2, mx_wt_3, Option.bind_some, Option.toList_some, Option.toList_none, List.cons_append, List.nil_append, mx_nl_int, mx_nl_ref, mx_nl_null, mx_nl_none, mx_nb0, mx_nb1, mx_fb0, mx_fb1, mx_cat_int, mx_cat_ref, if_true, if_false, not_true_eq_false, not_false_eq_true, mx_wt_4, mx_w4_0, mx_w9_0, mx_w9_1, mx_kn_int, mx_kn_ref, mx_kn_null, Nat.reduceLT, ofn, n10, f3, k1, tt, hf', v1]
          · rcases C3 with ⟨_, _, z⟩ | ⟨l1', m, p', s0, w0, c1, c2, c3, c4, c5, c6, c7⟩
            · cases z
            · cases c2
              show pG _ ts o _ h5 first' (l0 ++ [c]) .null
              rw [c1]
              refine pG_app _ _ _ _ _ (pG.ex (fun w u => cVl.ex E _ _ _) E _ _ _ c7) ⟨h1.length, s0, w0, .null, rfl, F35.at c4 (by simp; omega), ⟨by omega, fun z => ?_⟩, c5.ex E, cVl.ex E _ _ _ c6, rfl⟩
              rcases List.mem_cons.mp z with z | z
              · exact T3.ne c4 (by simp) z
              · have := r0 _ z; omega
          · have P5 := (P3.trans (px_of64 T3 F4 W4 (Nat.le_succ e))).al (n := 16) v3 (by simp) (by omega) (by rw [Wt_succ hlt]; omega)
            exact P5.mono (by rw [Wt_succ hlt]; omega)
        · rw [if_neg hc]
          rw [if_neg hc] at k1 T4
          have P4 := P3.trans (px_of64 T3 F4 W4 (Nat.le_refl e))
          obtain ⟨h5, m1, T5, F5, W5⟩ := jt_take (d := d + 10) T4 (k := 44) (by decide) (by decide)
          rw [show nI 44 = 44 from rfl] at m1
          have f4 := T4.kind.1
          by_cases h44 : tI ts e 44 = true
          · rw [if_pos h44]
            rw [if_pos h44] at m1 T5
            have hlt : e < ts.length := tI_ltN (by decide) h44
            have P5 := P4.trans (px_of64 T4 F5 W5 (Nat.le_succ e))
            have F35 : Fr [64] h3 h5 := F4.trans F5 (fun a ha => Or.inl ha)
            have l35 := F35.1
            have C5 : chS ts n o R h0 h5 x1 first' (.ref h1.length) (l0 ++ [c]) := by
              rcases C3 with ⟨_, _, z⟩ | ⟨l1', m, p', s0, w0, c1, c2, c3, c4, c5, c6, c7⟩
              · cases z
              · cases c2
                have E : Ex (x1 :: h1.length :: R) h3 (x1 :: h1.length :: R) h5 := F35.ex (fun a ha z => by rw [List.mem_singleton] at ha; rw [ha] at z; exact z.1 (by omega)) (fun a ha => Or.inl ha)
                exact Or.inr ⟨l1', m, h1.length, s0, w0, c1, rfl, c3, F35.at c4 (by simp; omega), c5.ex E, cVl.ex E _ _ _ c6, pG.ex (fun w u => cVl.ex E _ _ _) E _ _ _ c7⟩
            have hd' : o = true → dst ts (l0 ++ [c]) = true := by
              intro ho
              rw [dst_app1, hd ho, Bool.true_and]
              cases z : l0.all (fun u => nmf ts u != nmf ts c)
              · exact absurd ⟨ho, Or.inr z⟩ hbad
              · rfl
            obtain ⟨j1, j2⟩ := ih (i + 1) h5 x1 cp1 (e + 1) _ first' (.ref h1.length) (l0 ++ [c]) (some (.ref h1.length)) (by omega) T5 P5 C5 hd'
            have hG : mx_G (d + 12) 50 118 [some (.ref 64), some (.int (nI (3 - n))), some (.int (kdi o)), some (.int (nI (cl o))), some first', some (.ref h1.length), some (.int (nI i)), some (.ref h1.length)] [] h3 = mx_G (d + 12) 50 59 [some (.ref 64), some (.int (nI (3 - n))), some (.int (kdi o)), some (.int (nI (cl o))), some first', some (.ref h1.length), some (.int (nI (i + 1))), some (.ref h1.length)] [] h5 := by
              simp only [g50_118, g50_119, g50_120, g50_123, g50_126, g50_129, g50_130, g50_131, g50_133, g50_136, g50_137, g50_138, g50_140, g50_143, g50_146, g50_147, g50_148, g50_151, mx_isr_ref, mx_isr_null, mx_wt_nil, mx_wt_1, mx_wt_2, mx_wt_3, Option.bind_some, Option.toList_some, Option.toList_none, List.cons_append, List.nil_append, mx_nl_int, mx_nl_ref, mx_nl_null, mx_nl_none, mx_nb0, mx_nb1, mx_fb0, mx_fb1, mx_cat_int, mx_cat_ref, if_true, if_false, not_true_eq_false, not_false_eq_true, mx_wt_4, mx_w4_0, mx_w9_0, mx_w9_1, mx_kn_int, mx_kn_ref, mx_kn_null, Nat.reduceLT, ofn, n10, f3, k1, f4, m1, nI_1]
            rw [hG]
            refine ⟨fun q hq => ?_, fun hq => ?_⟩
            · obtain ⟨q', hq', hqe⟩ := Option.map_eq_some_iff.mp hq
              obtain ⟨h', x', cp', v, f', b1, b2, b3, b4, b5, b6⟩ := j1 q' hq'
              cases hqe
              exact ⟨h', x', cp', v, f', b1, b2, b3, b4, by rw [List.append_assoc] at b5; exact b5, b6.mono (by omega)⟩
            · exact j2 (Option.map_eq_none_iff.mp hq)
          · rw [if_neg h44]
            rw [if_neg h44] at m1 T5
            refine ⟨fun q hq => (by cases hq), fun _ => ⟨h5, x1, cp1, e, ?_, T5, ?_⟩⟩
            · simp only [g50_118, g50_119, g50_120, g50_123, g50_126, g50_129, g50_130, g50_131, g50_133, g50_136, g50_137, g50_138, g50_140, g50_143, g50_146, g50_147, mx_isr_ref, mx_isr_null, mx_wt_nil, mx_wt_1, mx_wt_2, mx_wt_3, Option.bind_some, Option.toList_some, Option.toList_none, List.cons_append, List.nil_append, mx_nl_int, mx_nl_ref, mx_nl_null, mx_nl_none, mx_nb0, mx_nb1, mx_fb0, mx_fb1, mx_cat_int, mx_cat_ref, if_true, if_false, not_true_eq_false, not_false_eq_true, mx_wt_4, mx_w4_0, mx_w9_0, mx_w9_1, mx_kn_int, mx_kn_ref, mx_kn_null, Nat.reduceLT, ofn, n10, f3, k1, f4, m1]
            · exact (P4.trans (px_of64 T4 F5 W5 (Nat.le_refl e))).mono (Nat.zero_le _)
end
