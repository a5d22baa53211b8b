section
variable {d : Nat} {h : mx_H}
/-- the items from k on, each with what stands before it -/
def itsP (l : List itm) (k : Nat) : Nat → List Nat
  | 0 => []
  | n + 1 => itP k (iG l k) ++ itsP l (k + 1) n
theorem itsP_wIs (l : List itm) : ∀ n k, k + n = l.length → 0 < n → itsP l k n = [if k = 0 then 91 else 44] ++ wIs (l.drop k) := by
  intro n
  induction n with
  | zero => intro k _ h0; omega
  | succ n ih =>
    intro k hk _
    have kl : k < l.length := by omega
    have g : iG l k = l[k] := by unfold iG; rw [List.getD_eq_getElem?_getD, List.getElem?_eq_getElem kl]; rfl
    rw [itsP, List.drop_eq_getElem_cons kl, g]
    cases n with
    | zero =>
      rw [List.drop_eq_nil_iff.2 (by omega)]
      simp [itsP, itP, wIs]
    | succ n =>
      rw [ih (k + 1) (by omega) (by omega), if_neg (by omega)]
      have k1 : k + 1 < l.length := by omega
      rw [List.drop_eq_getElem_cons k1, wIs]
      unfold itP
      simp only [List.append_assoc]
theorem wr_its {wn : Int32} {s : Nat} {p : prs} (R : rcP h s p) (W : wfP p) (hs : s ≤ 8) : ∀ n k h1 out, k + n = (pit p).length → wS h h1 wn out → out.length + (itsP (pit p) k n).length < 2 ^ 20 → ∃ h', mx_G (d + 4) 331 188 [some (.ref 76), some (.int (nI s)), some (.int wn), some (.int (nI k))] [] h1 = mx_G (d + 4) 331 211 [some (.ref 76), some (.int (nI s)), some (.int wn), some (.int (nI (pit p).length))] [] h' ∧ wS h h' wn (out ++ itsP (pit p) k n) := by
  have h4 := W.2.2.1
  intro n
  induction n with
  | zero =>
    intro k h1 out hk S hlen
    have T := S.1.1
    have f := rm_f (d := d + 3) T (s := s) (o := 19) (by omega)
    rw [(rc_mf R S.1 fun _ => rfl).1 19 (by decide), show nI 19 = 19 from rfl, show pe p 19 = nI (pit p).length from rfl] at f
    have : k = (pit p).length := by omega
    subst this
    have e : nI (pit p).length ≤ nI (pit p).length := nI_le (Nat.le_refl _) (by omega)
    refine ⟨h1, ?_, by simpa [itsP] using S⟩
    simp only [r331_188, r331_189, r331_190, r331_191, r331_193, r331_196, mx_isr_ref, mx_isr_null, mx_wt_nil, mx_wt_1, mx_wt_2, mx_wt_3, Option.bind_some, Option.toList_some, Option.toList_none, List.cons_append, List.nil_append, mx_nl_int, mx_nl_ref, mx_nl_null, mx_nl_none, mx_nb0, mx_nb1, mx_fb0, mx_fb1, mx_cat_int, mx_cat_ref, if_true, if_false, not_true_eq_false, not_false_eq_true, T, f, e]
  | succ n ih =>
    intro k h1 out hk S hlen
    have T := S.1.1
    have f := rm_f (d := d + 3) T (s := s) (o := 19) (by omega)
    rw [(rc_mf R S.1 fun _ => rfl).1 19 (by decide), show nI 19 = 19 from rfl, show pe p 19 = nI (pit p).length from rfl] at f
    have e : ¬ nI (pit p).length ≤ nI k := nI_ge (by omega) (by omega)
    rw [itsP, List.length_append] at hlen
    obtain ⟨h2, r2, S2⟩ := wr_item (d := d) R W hs (k := k) (by omega) h1 out S (by omega)
    have T2 := S2.1.1
    obtain ⟨h', r', S'⟩ := ih (k + 1) h2 _ (by omega) S2 (by rw [List.length_append]; omega)
    refine ⟨h', ?_, by rw [itsP, ← List.append_assoc]; exact S'⟩
    rw [← r', r331_188]
    simp only [r331_189, r331_190, r331_191, r331_193, r331_196, r331_199, r331_200, r331_201, r331_202, r331_205, r331_208, mx_isr_ref, mx_isr_null, mx_wt_nil, mx_wt_1, mx_wt_2, mx_wt_3, Option.bind_some, Option.toList_some, Option.toList_none, List.cons_append, List.nil_append, mx_nl_int, mx_nl_ref, mx_nl_null, mx_nl_none, mx_nb0, mx_nb1, mx_fb0, mx_fb1, mx_cat_int, mx_cat_ref, if_true, if_false, not_true_eq_false, not_false_eq_true, T, T2, f, e, r2, nI_1]
end
