/-! The class's store. -/
def fA0 (A : Nat) : List Nat := if A = 2 then [] else [A]
theorem fA0_mem {A q : Nat} (h : q ∈ fA0 A) : q = A ∧ A ≠ 2 := by
  unfold fA0 at h
  split at h
  · cases h
  · rename_i hA; rw [List.mem_singleton] at h; exact ⟨h, hA⟩
def mR (x2 A3 A4 : Nat) : List Nat := x2 :: (fA0 A3 ++ fA0 A4)
def p00 : prs := (0, 0, [], none, none, [])
def pAt' (ps : List prs) (k : Nat) : prs := ps.getD k p00
def pS (h : mx_H) (s : sto) : Prop := h[63]? = some (.inl 0, [.ref 64, .ref 71, .ref 72, .ref 73, .ref 74, .int (nI s.2.2.length), .int (nI s.2.1)])
def bufS (h : mx_H) (x : Nat) (bt : List Nat) : Prop := ∃ ls ks ss es t c n us, BF h ls bt.length ks ss es t c ∧ ls.take bt.length = bt ∧ SB h 69 x n us ∧ n ≤ 120 ∧ (∀ b ∈ bt, b = 10 ∨ (32 ≤ b ∧ b ≤ 126)) ∧ (x = 70 ∨ 102 ≤ x)
def plS (M : List Nat) (h : mx_H) (A3 : Nat) (ps : List prs) : Prop := ∃ cp es, AL h 71 A3 cp es ∧ es.length = ps.length ∧ ps.length ≤ 8 ∧ ∀ k, k < ps.length → PP M h (es.getD k 0) (pAt' ps k) ∧ fz M (es.getD k 0)
def fdS (h : mx_H) (A4 : Nat) : Prop := ∃ cp es, AL h 72 A4 cp es ∧ (∀ e ∈ es, elt h e ∧ 102 ≤ e) ∧ es.length ≤ 8
def pgS (h : mx_H) (pg : List Nat) : Prop := ∃ l, h[73]? = some (.inr .int, nvs l) ∧ l.length = 8 ∧ l.take pg.length = pg ∧ pg.length ≤ 8
def wrS (h : mx_H) (x2 : Nat) : Prop := ∃ n us, SB h 74 x2 n us ∧ (x2 = 75 ∨ 102 ≤ x2)
def mOK (x x2 A3 A4 : Nat) : Prop := x ≠ x2 ∧ (A3 = 2 ∨ 102 ≤ A3) ∧ (A4 = 2 ∨ 102 ≤ A4) ∧ (A3 = A4 → A3 = 2)
def cSt (h : mx_H) (x x2 A3 A4 : Nat) (bt : List Nat) (s : sto) : Prop :=
  KK h ∧ 102 ≤ h.length ∧ pS h s ∧ bufS h x bt ∧ plS (x :: mR x2 A3 A4) h A3 s.1 ∧ fdS h A4 ∧ pgS h s.2.2 ∧ wrS h x2 ∧ mOK x x2 A3 A4
theorem cSt_R {h : mx_H} {x x2 A3 A4 : Nat} {bt : List Nat} {s : sto} (C : cSt h x x2 A3 A4 bt s) : RB (mR x2 A3 A4) h ∧ RB (x :: mR x2 A3 A4) h := by
  obtain ⟨K, hl, hp, hb, hpl, hf, hg, hw, hm⟩ := C
  obtain ⟨ls, ks, ss, es, t, c, n, us, B, -, S, -, -, hx⟩ := hb
  obtain ⟨n2, us2, S2, hx2⟩ := hw
  obtain ⟨cp3, es3, L3, -⟩ := hpl
  obtain ⟨cp4, es4, L4, -⟩ := hf
  have r : RB (mR x2 A3 A4) h := by
    intro a ha
    unfold mR at ha
    rcases List.mem_cons.mp ha with rfl | ha
    · exact ⟨S2.2.2.2.2.2.1, ce_l S2.2.1⟩
    · rcases List.mem_append.mp ha with z | z
      · obtain ⟨z1, z2⟩ := fA0_mem z
        rw [z1]
        exact ⟨by have := hm.2.1; omega, ce_l L3.2.1⟩
      · obtain ⟨z1, z2⟩ := fA0_mem z
        rw [z1]
        exact ⟨by have := hm.2.2.1; omega, ce_l L4.2.1⟩
  refine ⟨r, fun a ha => ?_⟩
  rcases List.mem_cons.mp ha with rfl | z
  · exact ⟨S.2.2.2.2.2.1, ce_l S.2.1⟩
  · exact r a z
theorem plS.ex {M M' : List Nat} {h h' : mx_H} {A3 : Nat} {ps : List prs} (P : plS M h A3 ps) (x : Ex M h M' h') (h71 : h'[71]? = h[71]?) (hA : h'[A3]? = h[A3]?) : plS M' h' A3 ps := by
  obtain ⟨cp, es, L, l1, l2, P⟩ := P
  refine ⟨cp, es, AL_cells L h71 hA, l1, l2, fun k hk => ?_⟩
  obtain ⟨p1, p2⟩ := P k hk
  have hp : es.getD k 0 < h.length := by obtain ⟨l, ⟨_, _, _, _, _, _, e1, _⟩, _⟩ := p1; exact ce_l e1
  exact ⟨p1.ex x (x.2 _ hp p2).1, (x.2 _ hp p2).2⟩
theorem NB_lx (n : Nat) (l : List Nat) : NB (lx n l) := by
  intro t ht
  have h1 : (tA (lx n l) t).1 = 2 := by
    unfold sc at ht
    split at ht
    · assumption
    · split at ht
      · cases ht
      · split at ht <;> cases ht
  have hlt : t < (lx n l).length := by
    by_cases z : t < (lx n l).length
    · exact z
    · rw [tA_big (by omega)] at h1; cases h1
  exact tv_bd (lx_okN n l _ (tA_mem hlt) h1)
section
variable {d : Nat} {h : mx_H} {x x2 A3 A4 : Nat} {bt : List Nat} {s : sto}
theorem pS_f (P : pS h s) : mx_tag h 63 = some (.inl 0) ∧ mx_ln h 63 = 7 ∧ mx_el h 63 0 = .ref 64 ∧ mx_el h 63 1 = .ref 71 ∧ mx_el h 63 2 = .ref 72 ∧ mx_el h 63 3 = .ref 73 ∧ mx_el h 63 4 = .ref 74 ∧ mx_el h 63 5 = .int (nI s.2.2.length) ∧ mx_el h 63 6 = .int (nI s.2.1) :=
  ⟨ce_t P, by rw [ce_n P]; rfl, by rw [ce_e P]; rfl, by rw [ce_e P]; rfl, by rw [ce_e P]; rfl, by rw [ce_e P]; rfl, by rw [ce_e P]; rfl, by rw [ce_e P]; rfl, by rw [ce_e P]; rfl⟩
/-- what is not read stands as it was -/
theorem cSt_read {h' : mx_H} {x' : Nat} {bt' : List Nat} (C : cSt h x x2 A3 A4 bt s) (f : Fr [64, 65, 66, 67, 68, 69, x] h h') (hx : x' = x ∨ h.length ≤ x') (B : bufS h' x' bt') : cSt h' x' x2 A3 A4 bt' s := by
  obtain ⟨r1, r2⟩ := cSt_R C
  obtain ⟨K, hl, hp, hb, hpl, hf, hg, hw, hm⟩ := C
  obtain ⟨ls, ks, ss, es, t, c, n, us, BB, -, S, -, -, hx0⟩ := hb
  have E : Ex (x :: mR x2 A3 A4) h (x' :: mR x2 A3 A4) h' := f.ex (fun a ha z => by
    simp only [List.mem_cons, List.not_mem_nil, or_false] at ha
    rcases ha with rfl | rfl | rfl | rfl | rfl | rfl | rfl
    · exact z.1 (by omega)
    · exact z.1 (by omega)
    · exact z.1 (by omega)
    · exact z.1 (by omega)
    · exact z.1 (by omega)
    · exact z.1 (by omega)
    · exact z.2 List.mem_cons_self) (fun a ha => by
    rcases List.mem_cons.mp ha with rfl | z
    · exact hx.elim (fun w => Or.inl (by rw [w]; exact List.mem_cons_self)) Or.inr
    · exact Or.inl (List.mem_cons_of_mem _ z))
  have keep : ∀ a, a < h.length → a ≠ x → ¬ (64 ≤ a ∧ a ≤ 69) → h'[a]? = h[a]? := fun a ha h1 h2 => f.2 a ha (by
    simp only [List.mem_cons, List.not_mem_nil, or_false]
    omega)
  have hx63 : 63 ≤ x ∧ x < h.length := r2 x List.mem_cons_self
  have xne : ∀ a, (a = 63 ∨ a = 71 ∨ a = 72 ∨ a = 73 ∨ a = 74 ∨ a = 2) → a ≠ x := fun a ha => by omega
  obtain ⟨cp3, es3, L3, p3⟩ := id hpl
  obtain ⟨cp4, es4, L4, e4, n4⟩ := hf
  obtain ⟨l, g1, g2⟩ := hg
  obtain ⟨n2, us2, S2, hx2⟩ := hw
  have lA3 := ce_l L3.2.1
  have lA4 := ce_l L4.2.1
  have lx2 := ce_l S2.2.1
  have hby := ce_t S.2.1
  have nA3 : A3 ≠ x := by rintro rfl; rw [ce_t L3.2.1] at hby; cases hby
  have nA4 : A4 ≠ x := by rintro rfl; rw [ce_t L4.2.1] at hby; cases hby
  have q3 : ¬ (64 ≤ A3 ∧ A3 ≤ 69) := by have := hm.2.1; omega
  have q4 : ¬ (64 ≤ A4 ∧ A4 ≤ 69) := by have := hm.2.2.1; omega
  have q2 : ¬ (64 ≤ x2 ∧ x2 ≤ 69) := by omega
  refine ⟨K.fr f (fun a ha => by simp only [List.mem_cons, List.not_mem_nil, or_false] at ha; omega), Nat.le_trans hl f.1, ?_, B, hpl.ex E (keep 71 (by omega) (xne _ (by simp)) (by omega)) (keep A3 lA3 nA3 q3), ⟨cp4, es4, AL_cells L4 (keep 72 (by omega) (xne _ (by simp)) (by omega)) (keep A4 lA4 nA4 q4), fun e he => ⟨?_, (e4 e he).2⟩, n4⟩, ⟨l, by rw [keep 73 (by omega) (xne _ (by simp)) (by omega)]; exact g1, g2⟩, ⟨n2, us2, ?_, hx2⟩, ?_⟩
  · unfold pS
    rw [keep 63 (by omega) (xne _ (by simp)) (by omega)]
    exact hp
  · have h1 := (e4 e he).1
    have h2 := (e4 e he).2
    have : e ≠ x := by
      rintro rfl
      rcases h1 with z | z <;> (rw [z] at hby; cases hby)
    exact elt_fr h1 f (by
      simp only [List.mem_cons, List.not_mem_nil, or_false]
      omega)
  · exact SB_fr S2 f (by
      simp only [List.mem_cons, List.not_mem_nil, or_false]
      omega) (by
      simp only [List.mem_cons, List.not_mem_nil, or_false]
      have := hm.1
      omega)
  · refine ⟨?_, hm.2⟩
    rcases hx with w | w
    · rw [w]; exact hm.1
    · omega
end
