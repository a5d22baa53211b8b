/-! What tokens and people are like. -/
def numOk (l : List Nat) : Prop := ∃ m : List Nat, 1 ≤ m.length ∧ m.length ≤ 9 ∧ (∀ c ∈ m, isDig c = true) ∧ (l = m ∨ l = 45 :: m)
theorem lx_num_ok {l : List Nat} (h : isDig (l.getD 0 0) = true) : 1 ≤ (lx_num l).length ∧ (lx_num l).length ≤ 9 ∧ ∀ c ∈ lx_num l, isDig c = true := by
  unfold lx_num
  split
  · exact ⟨by decide, by decide, by decide⟩
  · refine ⟨?_, ?_, ?_⟩
    · cases l with
      | nil => exact absurd h (by decide)
      | cons a l =>
        have h : isDig a = true := h
        rw [List.takeWhile_cons, if_pos h]
        simp
    · rw [List.length_take]; omega
    · intro c hc
      have hc := List.mem_of_mem_take hc
      exact List.all_eq_true.1 (List.all_takeWhile (p := isDig) (l := l)) c hc
theorem lx_okN : ∀ (n : Nat) (bs : List Nat), ∀ q ∈ lx n bs, q.1 = 2 → numOk q.2 := by
  intro n
  induction n with
  | zero => intro bs q hq; simp [lx] at hq
  | succ n ih =>
    intro bs q hq h2
    cases bs with
    | nil => simp [lx] at hq
    | cons c r =>
      rw [lx] at hq
      split at hq
      · exact ih r q hq h2
      · rcases List.mem_cons.1 hq with z | z
        · subst z
          unfold lx_one at h2 ⊢
          split at h2
          · cases h2
          · rename_i y1
            rw [if_neg y1]
            split at h2
            · rename_i y2
              rw [if_pos y2]
              have := lx_num_ok (l := c :: r) y2
              exact ⟨_, this.1, this.2.1, this.2.2, Or.inl rfl⟩
            · rename_i y2
              rw [if_neg y2]
              split at h2
              · rename_i y3
                rw [if_pos y3]
                have := lx_num_ok (l := r) y3.2
                exact ⟨_, this.1, this.2.1, this.2.2, Or.inr rfl⟩
              · rename_i y3
                rw [if_neg y3]
                split at h2
                · split at h2
                  · cases h2
                  · cases h2
                · split at h2
                  · rename_i y5 y6
                    have y6 := isSig_ge y6
                    have h2 : c = 2 := h2
                    omega
                  · cases h2
        · exact ih _ q z h2
theorem dvl_lt : ∀ (m : List Nat), (∀ c ∈ m, isDig c = true) → ∀ v, m.foldl (fun v c => 10 * v + (c - 48)) v < 10 ^ m.length * (v + 1) := by
  intro m
  induction m with
  | nil => intro _ v; simp
  | cons c m ih =>
    intro h v
    have hc := h c (List.mem_cons_self ..)
    unfold isDig at hc
    simp at hc
    have := ih (fun c hc => h c (List.mem_cons_of_mem _ hc)) (10 * v + (c - 48))
    simp only [List.foldl_cons, List.length_cons]
    refine Nat.lt_of_lt_of_le this ?_
    rw [Nat.pow_succ, Nat.mul_assoc]
    exact Nat.mul_le_mul_left _ (by omega)
theorem dvl_9 {m : List Nat} (h : ∀ c ∈ m, isDig c = true) (h9 : m.length ≤ 9) : dvl m < 1000000000 := by
  have := dvl_lt m h 0
  have h2 : 10 ^ m.length ≤ 10 ^ 9 := Nat.pow_le_pow_right (by decide) h9
  unfold dvl
  omega
theorem tv_bd {ts : List tk} {t : Nat} (h : numOk (tx ts t)) : -1000000000 < tv ts t ∧ tv ts t < 1000000000 := by
  obtain ⟨m, h1, h9, hd, e⟩ := h
  have b := dvl_9 hd h9
  unfold tv
  rcases e with e | e
  · rw [e, if_neg]
    · omega
    · cases m with
      | nil => simp
      | cons c m =>
        have := hd c (List.mem_cons_self ..)
        unfold isDig at this
        simp at this ⊢
        omega
  · rw [e, if_pos (show (45 :: m).head? = some 45 from rfl)]
    simp only [List.tail_cons]
    omega
def tkOK (ts : List tk) : Prop := ts.length ≤ 120 ∧ ∀ q ∈ ts, tk_ok q ∧ (q.1 = 2 → numOk q.2)
def txOk (l : List Nat) : Prop := 1 ≤ l.length ∧ l.length ≤ 12 ∧ ∀ c ∈ l, c < 128
def wfI (l : List itm) : Prop := l.length ≤ 4 ∧ (∀ x ∈ l, txOk x.1) ∧ twn l = false
def wfP (p : prs) : Prop := txOk (pnm p) ∧ (∀ v, pag p = some v → -1000000000 < v ∧ v < 1000000000) ∧ wfI (pit p)
theorem iG_mem {l : List itm} {k : Nat} (h : k < l.length) : iG l k ∈ l := by
  unfold iG
  rw [List.getD_eq_getElem?_getD, List.getElem?_eq_getElem h]
  exact List.getElem_mem h
theorem twn_iff (l : List itm) : twn l = false ↔ (l.map fun x => x.1).Nodup := by
  unfold twn
  rw [Bool.eq_false_iff, Ne, List.any_eq_true]
  have g : ∀ {k}, (h : k < l.length) → iG l k = l[k] := fun {k} h => by unfold iG; rw [List.getD_eq_getElem?_getD, List.getElem?_eq_getElem h]; rfl
  constructor
  · intro h
    rw [List.nodup_iff_pairwise_ne, List.pairwise_map, List.pairwise_iff_getElem]
    intro i j hi hj hij e
    refine h ⟨j, List.mem_range.2 hj, List.any_eq_true.2 ⟨i, List.mem_range.2 hij, ?_⟩⟩
    rw [g hi, g hj, e]
    exact beq_self_eq_true _
  · rintro h ⟨a, ha, hb⟩
    obtain ⟨b, hb, e⟩ := List.any_eq_true.1 hb
    rw [List.mem_range] at ha hb
    rw [List.nodup_iff_pairwise_ne, List.pairwise_map, List.pairwise_iff_getElem] at h
    rw [g ha, g (by omega)] at e
    exact h b a (by omega) ha hb (beq_iff_eq.1 e).symm
section
variable {ts : List tk}
theorem ftx_ok (K : tkOK ts) {t : Nat} (h : ftx ts t = true) : txOk (tx ts t) := by
  unfold ftx at h
  have h := of_decide_eq_true h
  refine ⟨h.2.1, h.2.2, ?_⟩
  have s2 : 0 < sc ts t := by omega
  have hm : tA ts t ∈ ts := by
    have := sc_lt s2
    unfold tA
    rw [List.getD_eq_getElem?_getD, List.getElem?_eq_getElem this]
    exact List.getElem_mem this
  have h3 : (tA ts t).1 = 3 := by
    have := h.1
    unfold sc at this
    split at this
    · cases this
    · split at this
      · assumption
      · split at this <;> cases this
  rcases (K.2 _ hm).1 with z | z | z | z
  · omega
  · omega
  · exact z.2
  · omega
theorem tv_ok (K : tkOK ts) {t : Nat} (h : sc ts t = 1) : -1000000000 < tv ts t ∧ tv ts t < 1000000000 := by
  have s2 : 0 < sc ts t := by omega
  have hm : tA ts t ∈ ts := by
    have := sc_lt s2
    unfold tA
    rw [List.getD_eq_getElem?_getD, List.getElem?_eq_getElem this]
    exact List.getElem_mem this
  refine tv_bd ((K.2 _ hm).2 ?_)
  unfold sc at h
  split at h
  · assumption
  · split at h
    · cases h
    · split at h <;> cases h
theorem iS_ok (K : tkOK ts) : ∀ l a q, (∀ v, a.1 = some v → txOk v) → iS ts l a = some q → ∀ v, q.1 = some v → txOk v := by
  intro l
  induction l with
  | nil => intro a q ha h; cases h; exact ha
  | cons m l ih =>
    intro a q ha h
    rw [iS] at h
    split at h
    · split at h
      · rename_i y; exact ih _ _ (fun v hv => by cases hv; exact ftx_ok K y) h
      · cases h
    · split at h
      · split at h
        · exact ih (a.1, some (tb ts (m + 2))) _ ha h
        · cases h
      · cases h
theorem iO_ok (K : tkOK ts) {t : Nat} {q : Option (List Nat) × Option Bool} (h : iO ts t = some q) : ∀ v, q.1 = some v → txOk v := by
  unfold iO at h
  split at h
  · exact iS_ok K _ _ _ (fun v hv => by cases hv) h
  · cases h
theorem iW_ok (K : tkOK ts) {t : Nat} {x : itm} (h : iW ts t = some x) : txOk x.1 := by
  unfold iW at h
  cases z : iO ts t with
  | none => rw [z] at h; cases h
  | some q =>
    rw [z] at h
    have h : q.1.map (fun v => (v, q.2)) = some x := h
    cases w : q.1 with
    | none => rw [w] at h; cases h
    | some v => rw [w] at h; cases h; exact iO_ok K z v w
theorem iL_ok (K : tkOK ts) : ∀ l r, iL ts l = some r → ∀ x ∈ r, txOk x.1 := by
  intro l
  induction l with
  | nil => intro r h; cases h; intro x hx; cases hx
  | cons e l ih =>
    intro r h
    rw [iL] at h
    cases z : iW ts e with
    | none => rw [z] at h; cases h
    | some x =>
      rw [z] at h
      have h : (iL ts l).map (fun r => x :: r) = some r := h
      cases w : iL ts l with
      | none => rw [w] at h; cases h
      | some r' =>
        rw [w] at h; cases h
        intro y hy
        rcases List.mem_cons.1 hy with hy | hy
        · rw [hy]; exact iW_ok K z
        · exact ih _ w y hy
theorem iA_ok (K : tkOK ts) {t : Nat} {r : List itm} (h : iA ts t = some r) : ∀ x ∈ r, txOk x.1 := by
  unfold iA at h
  split at h
  · exact iL_ok K _ _ h
  · cases h
theorem iB_ok (K : tkOK ts) {t : Nat} {r : List itm} (h : iB ts t = some r) : ∀ x ∈ r, txOk x.1 := by
  unfold iB at h
  split at h
  · exact iL_ok K _ _ h
  · cases z : iW ts t with
    | none => rw [z] at h; cases h
    | some x =>
      rw [z] at h; cases h
      intro y hy
      rw [List.mem_singleton.1 hy]; exact iW_ok K z
/-- as far as it is made -/
def wfF (p : prs) : Prop := (pnm p = [] ∨ txOk (pnm p)) ∧ (∀ v, pag p = some v → -1000000000 < v ∧ v < 1000000000) ∧ wfI (pit p)
theorem fS_ok (K : tkOK ts) : ∀ l p q, wfF p → fS ts l p = some q → wfF q ∧ q.1 = p.1 ∧ q.2.1 = p.2.1 := by
  intro l
  induction l with
  | nil => intro p q hp h; cases h; exact ⟨hp, rfl, rfl⟩
  | cons m l ih =>
    intro p q hp h
    rw [fS] at h
    split at h
    · exact ih _ _ hp h
    · split at h
      · split at h
        · rename_i y; exact ih (sNm p (tx ts (m + 2))) _ ⟨Or.inr (ftx_ok K y), hp.2.1, hp.2.2⟩ h
        · cases h
      · split at h
        · split at h
          · rename_i y; exact ih (sAg p (some (tv ts (m + 2)))) _ ⟨hp.1, fun v hv => by cases hv; exact tv_ok K y, hp.2.2⟩ h
          · cases h
        · split at h
          · split at h
            · exact ih (sOn p (some (tb ts (m + 2)))) _ hp h
            · cases h
          · split at h
            · cases z : iA ts (m + 2) with
              | none => rw [z] at h; cases h
              | some x =>
                rw [z] at h
                have h : (if x.length ≤ 4 ∧ twn x = false ∧ trs x < 2 then fS ts l (sIt p x) else none) = some q := h
                split at h
                · rename_i y; exact ih (sIt p x) _ ⟨hp.1, hp.2.1, y.1, iA_ok K z, y.2.1⟩ h
                · cases h
            · cases h
theorem fP_ok (K : tkOK ts) {t id ver : Nat} {p : prs} (h : fP ts t id ver = some p) : wfP p ∧ p.1 = id ∧ p.2.1 = ver := by
  unfold fP at h
  cases z : fS ts (kd ts t) (id, ver, [], none, none, []) with
  | none => rw [z] at h; cases h
  | some q =>
    rw [z] at h
    have h : (if pnm q = [] then none else some q) = some p := h
    split at h
    · cases h
    · rename_i y
      cases h
      have w0 : wfF ((id, ver, [], none, none, []) : prs) := ⟨Or.inl rfl, fun v hv => (by cases hv), (show (0 : Nat) ≤ 4 by decide), fun x hx => (by cases hx), rfl⟩
      obtain ⟨⟨a, b, c⟩, d, e⟩ := fS_ok K _ _ _ w0 z
      refine ⟨⟨?_, b, c⟩, d, e⟩
      rcases a with a | a
      · exact absurd a y
      · exact a
def wfX (l : List itf) : Prop := l.length ≤ 4 ∧ ∀ x ∈ l, txOk x.1.1
theorem kpA_1 (x : itf) : (kpA x).1 = x.1.1 := by unfold kpA; split <;> rfl
theorem kp1_ok : ∀ l r, kp1 l = some r → r.map (fun x => x.1) = l.map fun x => x.1.1 := by
  intro l
  induction l with
  | nil => intro r h; cases h
  | cons x l ih =>
    intro r h
    rw [kp1] at h
    split at h
    · cases h
      simp only [List.map_cons, List.map_map]
      congr 1
      exact List.map_congr_left fun y _ => kpA_1 y
    · cases z : kp1 l with
      | none => rw [z] at h; cases h
      | some r' =>
        rw [z] at h; cases h
        simp only [List.map_cons]
        rw [ih _ z, kpA_1]
theorem kp_map (l : List itf) : (kp l).map (fun x => x.1) = l.map fun x => x.1.1 := by
  unfold kp
  cases z : kp1 l with
  | none => simp only [Option.getD, List.map_map]; rfl
  | some r => exact kp1_ok l r z
theorem kp_wf {l : List itf} (h : wfX l) (ht : twn (kp l) = false) : wfI (kp l) := by
  have e := kp_map l
  refine ⟨?_, ?_, ht⟩
  · have := congrArg List.length e
    simp only [List.length_map] at this
    have := h.1
    omega
  · intro x hx
    have : x.1 ∈ (kp l).map fun x => x.1 := List.mem_map.2 ⟨x, hx, rfl⟩
    rw [e] at this
    obtain ⟨y, hy, e'⟩ := List.mem_map.1 this
    rw [← e']; exact h.2 y hy
theorem fin_wf {p : prs} {l : List itf} (hp : wfP p) (h : wfX l) : wfP (fin p l).2 ∧ (fin p l).2.1 = p.1 ∧ (fin p l).2.2.1 = p.2.1 := by
  unfold fin
  split
  · exact ⟨hp, rfl, rfl⟩
  · rename_i z; exact ⟨⟨hp.1, hp.2.1, kp_wf h (by simpa using z)⟩, rfl, rfl⟩
theorem mgs_ok (x : itm) : ∀ l r, mgs x l = some r → r.map (fun y => y.1.1) = l.map fun y => y.1.1 := by
  intro l
  induction l with
  | nil => intro r h; cases h
  | cons y l ih =>
    intro r h
    rw [mgs] at h
    split at h
    · cases h; rfl
    · cases z : mgs x l with
      | none => rw [z] at h; cases h
      | some r' => rw [z] at h; cases h; simp only [List.map_cons]; rw [ih _ z]
theorem wfX_map {l r : List itf} (e : r.map (fun y => y.1.1) = l.map fun y => y.1.1) (h : wfX l) : wfX r := by
  have e1 := congrArg List.length e
  simp only [List.length_map] at e1
  refine ⟨by have := h.1; omega, fun x hx => ?_⟩
  have : x.1.1 ∈ r.map fun y => y.1.1 := List.mem_map.2 ⟨x, hx, rfl⟩
  rw [e] at this
  obtain ⟨y, hy, e'⟩ := List.mem_map.1 this
  rw [← e']; exact h.2 y hy
theorem mg_ok {l r : List itf} {x : itm} (h : wfX l) (hx : txOk x.1) (e : mg l x = some r) : wfX r := by
  unfold mg at e
  cases z : mgs x l with
  | some r' => rw [z] at e; cases e; exact wfX_map (mgs_ok x l _ z) h
  | none =>
    rw [z] at e
    simp only at e
    split at e
    · cases e
    · cases e
      refine ⟨by simp only [List.length_append, List.length_cons, List.length_nil]; omega, fun y hy => ?_⟩
      rcases List.mem_append.1 hy with hy | hy
      · exact h.2 y hy
      · rw [List.mem_singleton.1 hy]; exact hx
theorem mgA_ok : ∀ (x : List itm) (l r : List itf), wfX l → (∀ y ∈ x, txOk y.1) → mgA l x = some r → wfX r := by
  intro x
  induction x with
  | nil => intro l r h _ e; cases e; exact h
  | cons y x ih =>
    intro l r h hx e
    rw [mgA] at e
    cases z : mg l y with
    | none => rw [z] at e; cases e
    | some l' => rw [z] at e; exact ih _ _ (mg_ok h (hx y (List.mem_cons_self ..)) z) (fun y' hy => hx y' (List.mem_cons_of_mem _ hy)) e
theorem wfX_mrk {l : List itm} (h : wfI l) : wfX (mrk l) := by
  refine ⟨by unfold mrk; rw [List.length_map]; exact h.1, fun x hx => ?_⟩
  obtain ⟨y, hy, e⟩ := List.mem_map.1 hx
  rw [← e]; exact h.2.1 y hy
theorem zip_mem {α β γ : Type} (f : α → β → γ) : ∀ (l : List α) (b : List β) x, x ∈ List.zipWith f l b → ∃ a ∈ l, ∃ c, x = f a c := by
  intro l
  induction l with
  | nil => intro b x h; cases h
  | cons a l ih =>
    intro b x h
    cases b with
    | nil => cases h
    | cons c b =>
      rw [List.zipWith_cons_cons] at h
      rcases List.mem_cons.1 h with h | h
      · exact ⟨a, List.mem_cons_self .., c, h⟩
      · obtain ⟨a', h1, h2⟩ := ih b x h; exact ⟨a', List.mem_cons_of_mem _ h1, h2⟩
theorem chM_wf {f : itm → itf} {l : List itm} {b : List Bool} (h : wfI l) (hf : ∀ x ∈ l, txOk (f x).1.1) : wfX (chM f l b) := by
  unfold chM
  refine ⟨by rw [List.length_zipWith]; have := h.1; omega, fun x hx => ?_⟩
  obtain ⟨a, ha, c, e⟩ := zip_mem _ _ _ _ hx
  rw [e]
  split
  · exact hf a ha
  · exact h.2.1 a ha
theorem drop_sub : ∀ (l : List itm) (b : List Bool), ((l.zip b).filterMap fun x => if x.2 = true then none else some x.1).Sublist l := by
  intro l
  induction l with
  | nil => intro b; exact List.Sublist.refl _
  | cons x l ih =>
    intro b
    cases b with
    | nil => exact List.nil_sublist _
    | cons c b =>
      rw [List.zip_cons_cons, List.filterMap_cons]
      cases c with
      | true => exact (ih b).trans (List.sublist_cons_self _ _)
      | false => exact (ih b).cons_cons x
theorem wfI_sub {l r : List itm} (h : wfI l) (s : r.Sublist l) : wfI r := by
  refine ⟨by have := s.length_le; have := h.1; omega, fun x hx => h.2.1 x (s.subset hx), ?_⟩
  rw [twn_iff]
  exact List.Nodup.sublist (s.map _) ((twn_iff l).1 h.2.2)
/-- p' is p but for what may change -/
def wfQ (p : prs) (r : Int × prs) : Prop := wfP r.2 ∧ r.2.1 = p.1 ∧ r.2.2.1 = p.2.1
theorem aPl_wf (K : tkOK ts) (c way v : Nat) {p : prs} (h : wfP p) : wfQ p (aPl ts c way v p) := by
  unfold aPl
  have h0 : ∀ e : Int, wfQ p (e, p) := fun e => ⟨h, rfl, rfl⟩
  split
  · exact h0 _
  · split
    · refine ⟨?_, ?_, ?_⟩
      · simp only; split
        · exact ⟨h.1, fun v hv => (by cases hv), h.2.2⟩
        · exact h
      · simp only; split <;> rfl
      · simp only; split <;> rfl
    · split
      · split
        · rename_i y; exact ⟨⟨ftx_ok K y, h.2.1, h.2.2⟩, rfl, rfl⟩
        · exact h0 _
      · split
        · split
          · rename_i y; exact ⟨⟨h.1, fun v hv => (by cases hv; exact tv_ok K y), h.2.2⟩, rfl, rfl⟩
          · exact h0 _
        · split
          · exact ⟨h, rfl, rfl⟩
          · exact h0 _
theorem aMl_wf (K : tkOK ts) (c v : Nat) {p : prs} (h : wfP p) : wfQ p (aMl ts c v p) := by
  unfold aMl
  have h0 : ∀ e : Int, wfQ p (e, p) := fun e => ⟨h, rfl, rfl⟩
  have e0 : wfI [] := ⟨by decide, fun x hx => (by cases hx), rfl⟩
  split
  · exact ⟨⟨h.1, h.2.1, e0⟩, rfl, rfl⟩
  · split
    · exact h0 _
    · rename_i x hx
      split
      · exact h0 _
      · rename_i l hl
        refine fin_wf h (mgA_ok _ _ _ ?_ (iB_ok K hx) hl)
        split
        · exact wfX_mrk e0
        · exact wfX_mrk h.2.2
theorem aCh_wf (K : tkOK ts) (c part v : Nat) (g : prs → Option Nat → Bool) {p : prs} (h : wfP p) : wfQ p (aCh ts c part v g p) := by
  have h0 : ∀ e : Int, wfQ p (e, p) := fun e => ⟨h, rfl, rfl⟩
  unfold aCh
  split
  · exact h0 _
  · split
    · exact ⟨⟨h.1, h.2.1, wfI_sub h.2.2 (drop_sub _ _)⟩, rfl, rfl⟩
    · split
      · exact h0 _
      · split
        · split
          · rename_i y; exact fin_wf h (chM_wf h.2.2 fun x _ => ftx_ok K y)
          · exact h0 _
        · split
          · split
            · exact fin_wf h (chM_wf h.2.2 fun x hx => h.2.2.2.1 x hx)
            · split
              · exact fin_wf h (chM_wf h.2.2 fun x hx => h.2.2.2.1 x hx)
              · exact h0 _
          · split
            · exact h0 _
            · rename_i q hq
              have iq := iO_ok K hq
              split
              · split
                · exact h0 _
                · rename_i t ht; exact fin_wf h (chM_wf h.2.2 fun x _ => iq t ht)
              · refine fin_wf h (chM_wf h.2.2 fun x hx => ?_)
                unfold gai
                simp only
                cases z : q.1 with
                | none => exact h.2.2.2.1 x hx
                | some t => exact iq t z
theorem aTg_wf (K : tkOK ts) (c way : Nat) (g : prs → Option Nat → Bool) (v : Nat) {p : prs} (h : wfP p) : wfQ p (aTg ts c way g v p) := by
  unfold aTg
  split
  · exact aPl_wf K c way v h
  · split
    · exact aMl_wf K c v h
    · split
      · exact aCh_wf K c _ v _ h
      · exact aCh_wf K c _ v _ h
theorem aAl_wf (K : tkOK ts) (c : Nat) : ∀ l p, wfP p → wfQ p (aAl ts c l p) := by
  intro l
  induction l with
  | nil => intro p h; exact ⟨h, rfl, rfl⟩
  | cons m l ih =>
    intro p h
    rw [aAl]
    split
    · exact ih p h
    · split
      · exact ⟨h, rfl, rfl⟩
      · have w := aTg_wf K c (wyN (nmf ts m)) (fun _ _ => true) (m + 2) h
        split
        rename_i e p' z
        rw [z] at w
        split
        · obtain ⟨a, b, d⟩ := ih p' w.1
          exact ⟨a, b.trans w.2.1, d.trans w.2.2⟩
        · exact ⟨h, rfl, rfl⟩
theorem aOp_wf (K : tkOK ts) (o : opr) {p : prs} (h : wfP p) : wfQ p (aOp ts o p) := by
  unfold aOp
  split
  · split
    · exact aAl_wf K _ _ p h
    · exact ⟨h, rfl, rfl⟩
  · exact aTg_wf K _ _ _ _ h
theorem aOps_wf (K : tkOK ts) : ∀ l p, wfP p → wfQ p (aOps ts l p) := by
  intro l
  induction l with
  | nil => intro p h; exact ⟨h, rfl, rfl⟩
  | cons o l ih =>
    intro p h
    rw [aOps]
    have w := aOp_wf K o h
    split
    rename_i e p' z
    rw [z] at w
    split
    · obtain ⟨a, b, d⟩ := ih p' w.1
      exact ⟨a, b.trans w.2.1, d.trans w.2.2⟩
    · exact ⟨h, rfl, rfl⟩
end
section
variable {ts : List tk}
theorem pP_rng {n : Nat} {o : Bool} : ∀ f k q, pP (pE ts n) ts o f k = some q → ∀ m ∈ q.1, k ≤ m ∧ (o = true → isMem ts m = true) ∧ ∃ e, pE ts n (mv o m) = some e ∧ e < q.2 := by
  intro f
  induction f with
  | zero => intro k q h; cases h
  | succ f ih =>
    intro k q h m hm
    obtain ⟨h1, e, z, h⟩ := pP_inv h
    have bd := pE_bd _ _ _ z
    have mg := mv_ge o k
    rcases h with ⟨y, h⟩ | ⟨-, y, q', w, h⟩
    · subst h
      rw [List.mem_singleton.1 hm]
      exact ⟨Nat.le_refl _, h1, e, z, Nat.lt_succ_self e⟩
    · subst h
      have bw := pP_bd (pE_bd n) _ _ _ w
      rcases List.mem_cons.1 hm with hm | hm
      · rw [hm]; exact ⟨Nat.le_refl _, h1, e, z, by show e < q'.2; omega⟩
      · obtain ⟨a, b, e', c, g⟩ := ih _ _ w m hm
        exact ⟨by omega, b, e', c, g⟩
/-- a value with no name twice -/
def vOk (ts : List tk) (t : Nat) : Prop := ∃ e, pE ts 3 t = some e ∧ sgl ts t e
theorem vOk_V {t e : Nat} (h : pV ts 3 t = some e) : vOk ts t := by
  have z := pV_pE 3 t e (by omega) h
  rcases pV_E 3 (by omega) t e z with ⟨-, s⟩ | ⟨y, -⟩
  · exact ⟨e, z, s⟩
  · rw [y] at h; cases h
theorem vOk_lt {t : Nat} (h : vOk ts t) : t < ts.length := by
  obtain ⟨e, z, -⟩ := h
  have := pE_bd _ _ _ z
  omega
theorem kd_rng {t e : Nat} (h : pE ts 3 t = some e) : (tI ts t 123 = true → ∀ m ∈ kd ts t, t < m ∧ isMem ts m = true ∧ ∃ e', pE ts 3 (m + 2) = some e' ∧ e' < e) ∧ (tI ts t 91 = true → ∀ m ∈ kd ts t, t < m ∧ ∃ e', pE ts 3 m = some e' ∧ e' < e) := by
  refine ⟨fun y m hm => ?_, fun y m hm => ?_⟩
  · rw [pE, if_pos y] at h
    split at h
    · rename_i y'; rw [kd_obj0 y y'] at hm; cases hm
    · cases w : pP (pE ts 2) ts true 120 (t + 1) with
      | none => rw [w] at h; cases h
      | some q =>
        rw [w] at h; cases h
        rw [kd_obj (by omega) y w] at hm
        obtain ⟨a, b, e', c, g⟩ := pP_rng _ _ _ w m hm
        exact ⟨by omega, b rfl, e', pE_mono (by omega) c, g⟩
  · have y0 : ¬ tI ts t 123 = true := by rw [tI_eq] at y ⊢; omega
    rw [pE, if_neg y0, if_pos y] at h
    split at h
    · rename_i y'; rw [kd_arr0 y y'] at hm; cases hm
    · cases w : pP (pE ts 2) ts false 120 (t + 1) with
      | none => rw [w] at h; cases h
      | some q =>
        rw [w] at h; cases h
        rw [kd_arr (by omega) y w] at hm
        obtain ⟨a, b, e', c, g⟩ := pP_rng _ _ _ w m hm
        exact ⟨by omega, e', pE_mono (by omega) c, g⟩
theorem vOk_obj {t : Nat} (h : vOk ts t) (y : tI ts t 123 = true) : dst ts (kd ts t) = true ∧ ∀ m ∈ kd ts t, isMem ts m = true ∧ vOk ts (m + 2) := by
  obtain ⟨e, z, s⟩ := h
  have bd := pE_bd _ _ _ z
  refine ⟨s t (Nat.le_refl _) bd.1 y, fun m hm => ?_⟩
  obtain ⟨a, b, e', c, g⟩ := (kd_rng z).1 y m hm
  exact ⟨b, e', c, fun o h1 h2 => s o (by omega) (by omega)⟩
theorem vOk_arr {t : Nat} (h : vOk ts t) (y : tI ts t 91 = true) : ∀ m ∈ kd ts t, vOk ts m := by
  obtain ⟨e, z, s⟩ := h
  intro m hm
  obtain ⟨a, e', c, g⟩ := (kd_rng z).2 y m hm
  exact ⟨e', c, fun o h1 h2 => s o (by omega) (by omega)⟩
/-- a member of an item's object -/
def gl (ts : List tk) (m : Nat) : Bool := (decide (nmf ts m = w_v) && ftx ts (m + 2)) || (decide (nmf ts m = w_p) && decide (sc ts (m + 2) = 3))
def fnd (ts : List tk) (l : List Nat) (w : List Nat) : Option Nat := l.find? fun m => decide (nmf ts m = w)
theorem gl_iS {m : Nat} {l : List Nat} {a : Option (List Nat) × Option Bool} : iS ts (m :: l) a = if gl ts m = true then iS ts l (if nmf ts m = w_v then (some (tx ts (m + 2)), a.2) else (a.1, some (tb ts (m + 2)))) else none := by
  rw [iS]
  unfold gl
  by_cases h1 : nmf ts m = w_v
  · have h2 : ¬ nmf ts m = w_p := by rw [h1]; decide
    rw [if_pos h1, decide_eq_true h1, decide_eq_false h2]
    cases z : ftx ts (m + 2) <;> simp [h1]
  · rw [if_neg h1, decide_eq_false h1]
    by_cases h2 : nmf ts m = w_p
    · rw [if_pos h2, decide_eq_true h2]
      by_cases h3 : sc ts (m + 2) = 3 <;> simp [h1, h3]
    · rw [if_neg h2, decide_eq_false h2]; simp
theorem iS_some : ∀ l a, (iS ts l a).isSome = l.all (gl ts) := by
  intro l
  induction l with
  | nil => intro a; rfl
  | cons m l ih =>
    intro a
    rw [gl_iS, List.all_cons]
    cases z : gl ts m with
    | true => rw [if_pos rfl, ih, Bool.true_and]
    | false => rfl
theorem dst_find {m : Nat} {l : List Nat} (h : dst ts (m :: l) = true) {w : List Nat} (hw : nmf ts m = w) : fnd ts l w = none := by
  unfold fnd
  rw [List.find?_eq_none]
  intro u hu
  rw [dst, Bool.and_eq_true] at h
  have := List.all_eq_true.1 h.1 u hu
  subst hw
  simp at this ⊢
  exact fun e => this e.symm
theorem iS_val : ∀ l a q, dst ts l = true → iS ts l a = some q → q = ((match fnd ts l w_v with | some m => some (tx ts (m + 2)) | none => a.1), (match fnd ts l w_p with | some m => some (tb ts (m + 2)) | none => a.2)) := by
  intro l
  induction l with
  | nil => intro a q _ h; cases h; rfl
  | cons m l ih =>
    intro a q hd h
    have hd' : dst ts l = true := by rw [dst, Bool.and_eq_true] at hd; exact hd.2
    rw [gl_iS] at h
    split at h
    · rename_i g
      have := ih _ _ hd' h
      by_cases h1 : nmf ts m = w_v
      · have h2 : ¬ nmf ts m = w_p := by rw [h1]; decide
        have n1 := dst_find hd h1
        have e1 : fnd ts (m :: l) w_v = some m := by unfold fnd; rw [List.find?_cons_of_pos (by simp [h1])]
        have e2 : fnd ts (m :: l) w_p = fnd ts l w_p := by unfold fnd; rw [List.find?_cons_of_neg (by simp [h2])]
        rw [if_pos h1] at this
        rw [this, e1, e2, n1]
      · have h2 : nmf ts m = w_p := by unfold gl at g; simp [h1] at g; exact g.1
        have n1 := dst_find hd h2
        have e1 : fnd ts (m :: l) w_p = some m := by unfold fnd; rw [List.find?_cons_of_pos (by simp [h2])]
        have e2 : fnd ts (m :: l) w_v = fnd ts l w_v := by unfold fnd; rw [List.find?_cons_of_neg (by simp [h1])]
        rw [if_neg h1] at this
        rw [this, e1, e2, n1]
    · cases h
def itO (ts : List tk) (t : Nat) : Option (List Nat) × Option Bool := ((fnd ts (kd ts t) w_v).map fun m => tx ts (m + 2), (fnd ts (kd ts t) w_p).map fun m => tb ts (m + 2))
theorem iO_val {t : Nat} (h : vOk ts t) : iO ts t = if tI ts t 123 = true ∧ (kd ts t).all (gl ts) = true then some (itO ts t) else none := by
  unfold iO
  by_cases y : tI ts t 123 = true
  · rw [if_pos y]
    have s := iS_some (ts := ts) (kd ts t) (none, none)
    by_cases g : (kd ts t).all (gl ts) = true
    · rw [if_pos ⟨y, g⟩]
      rw [g] at s
      cases z : iS ts (kd ts t) (none, none) with
      | none => rw [z] at s; cases s
      | some q =>
        rw [iS_val _ _ _ (vOk_obj h y).1 z]
        unfold itO
        cases fnd ts (kd ts t) w_v <;> cases fnd ts (kd ts t) w_p <;> rfl
    · rw [if_neg (fun x => g x.2)]
      rw [Bool.eq_false_iff.2 g] at s
      cases z : iS ts (kd ts t) (none, none) with
      | none => rfl
      | some q => rw [z] at s; cases s
  · rw [if_neg y, if_neg (fun x => y x.1)]
theorem iW_val {t : Nat} (h : vOk ts t) : iW ts t = if tI ts t 123 = true ∧ (kd ts t).all (gl ts) = true then (match (itO ts t).1 with | some v => some (v, (itO ts t).2) | none => none) else none := by
  unfold iW
  rw [iO_val h]
  split
  · show (itO ts t).1.map _ = _
    cases (itO ts t).1 <;> rfl
  · rfl
end
