def mt_qs : List (List mt_Q) := [mt_qk0, mt_qk1, mt_qk2, mt_qk3, mt_qk4, mt_qk5, mt_qk6, mt_qk7, mt_qk8, mt_qk9, mt_qk10, mt_qk11, mt_qk12, mt_qk13, mt_qk14, mt_qk15, mt_qk16, mt_qk17, mt_qk18, mt_qk19, mt_qk20, mt_qk21]
theorem mt_gs : ∀ l ∈ mt_qs, ∀ q ∈ l, mx_goodB q = true := List.forall_mem_cons.mpr ⟨mt_gk0, List.forall_mem_cons.mpr ⟨mt_gk1, List.forall_mem_cons.mpr ⟨mt_gk2, List.forall_mem_cons.mpr ⟨mt_gk3, List.forall_mem_cons.mpr ⟨mt_gk4, List.forall_mem_cons.mpr ⟨mt_gk5, List.forall_mem_cons.mpr ⟨mt_gk6, List.forall_mem_cons.mpr ⟨mt_gk7, List.forall_mem_cons.mpr ⟨mt_gk8, List.forall_mem_cons.mpr ⟨mt_gk9, List.forall_mem_cons.mpr ⟨mt_gk10, List.forall_mem_cons.mpr ⟨mt_gk11, List.forall_mem_cons.mpr ⟨mt_gk12, List.forall_mem_cons.mpr ⟨mt_gk13, List.forall_mem_cons.mpr ⟨mt_gk14, List.forall_mem_cons.mpr ⟨mt_gk15, List.forall_mem_cons.mpr ⟨mt_gk16, List.forall_mem_cons.mpr ⟨mt_gk17, List.forall_mem_cons.mpr ⟨mt_gk18, List.forall_mem_cons.mpr ⟨mt_gk19, List.forall_mem_cons.mpr ⟨mt_gk20, List.forall_mem_cons.mpr ⟨mt_gk21, fun _ h => absurd h List.not_mem_nil⟩⟩⟩⟩⟩⟩⟩⟩⟩⟩⟩⟩⟩⟩⟩⟩⟩⟩⟩⟩⟩⟩
def mt_q (mi : Nat) : Option mt_Q := (mt_qs[mi / 16]?).bind fun l => l[mi % 16]?
theorem mt_q_ok {mi : Nat} {q : mt_Q} (h : mt_q mi = some q) : mx_goodB q = true := by
  unfold mt_q at h
  obtain ⟨l, h1, h2⟩ := Option.bind_eq_some_iff.mp h
  exact mt_gs l (List.mem_of_getElem? h1) q (List.mem_of_getElem? h2)
def mt_nm (mi : Nat) : MethodName := match mt_q mi with
  | some q => q.1
  | none => ⟨"", "", ""⟩
def mt_by (mi : Nat) : ByteArray := match mt_q mi with
  | some q => q.2.1
  | none => ⟨#[]⟩
def mt_mL (mi : Nat) : Nat := match mt_q mi with
  | some q => q.2.2.1
  | none => 0
def mt_rt (mi : Nat) : Option FieldType := match mt_q mi with
  | some q => q.2.2.2.1
  | none => none
def mt_np (mi : Nat) : Nat := match mt_q mi with
  | some q => q.2.2.2.2.1
  | none => 0
def mt_o (mi : Nat) : Nat := match mt_q mi with
  | some q => q.2.2.2.2.2.1
  | none => 999
def mt_own (mi : Nat) : String := (mt_nm mi).cls
def mt_at (mi pc : Nat) : Option Jvm.ClassFile.Instr := match mt_q mi with
  | some q => (q.2.2.2.2.2.2[pc / 16]?).bind fun r => r.lookup pc
  | none => none
theorem mt_dec {mi pc : Nat} {ins : Jvm.ClassFile.Instr} (h : mt_at mi pc = some ins) : decode (mt_by mi) pc = .ok (ins, mx_len pc ins) := by
  unfold mt_at at h
  split at h
  · rename_i q hq
    obtain ⟨r, h1, h2⟩ := Option.bind_eq_some_iff.mp h
    have hg := mt_q_ok hq
    unfold mx_goodB at hg
    rw [Bool.and_eq_true] at hg
    have h3 := List.all_eq_true.mp (List.all_eq_true.mp hg.1 r (List.mem_of_getElem? h1)) _ (mx_lookup_mem h2)
    have h4 : mt_by mi = q.2.1 := by unfold mt_by; rw [hq]
    rw [h4]
    exact of_decide_eq_true h3
  · cases h

