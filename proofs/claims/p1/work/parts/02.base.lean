/-! Tables of the claim's methods, by program out of the Statement's words. -/
def mt_ow : List String := ["PeopleStoreLaw", "PeopleStore", "PeopleStore$Buffer", "java/lang/StringBuilder", "java/lang/AbstractStringBuilder", "java/lang/StringUTF16", "java/util/ArrayList", "java/util/AbstractList", "java/util/AbstractCollection", "java/lang/String", "java/lang/StringLatin1", "java/lang/Math", "jdk/internal/util/Preconditions", "java/lang/Character", "PeopleStore$Value", "jdk/internal/util/ArraysSupport", "java/util/Arrays", "PeopleStore$Part", "PeopleStore$Person", "PeopleStore$Attribute", "PeopleStore$Item", "java/util/Objects", "java/lang/Integer", "PeopleStore$Operation", "PeopleStore$Filter", "PeopleStoreModel"]
abbrev mx_C : Type := (Nat ⊕ FieldType) × List Value
abbrev mx_H : Type := List mx_C
abbrev mx_L : Type := List (Option Value)
abbrev mx_F : Type := Nat × mx_L × List Value × mx_H
def mx_len (pc : Nat) (ins : Jvm.ClassFile.Instr) : Nat := match ins with
  | .bipush _ => 2
  | .sipush _ => 3
  | .ldc _ => 2
  | .ldc_w _ => 3
  | .ldc2_w _ => 3
  | .iload _ => 2
  | .lload _ => 2
  | .aload _ => 2
  | .istore _ => 2
  | .lstore _ => 2
  | .astore _ => 2
  | .iinc _ _ => 3
  | .ifCond _ _ => 3
  | .if_icmp _ _ => 3
  | .if_acmp _ _ => 3
  | .ifnull _ => 3
  | .ifnonnull _ => 3
  | .goto _ => 3
  | .getfield _ => 3
  | .putfield _ => 3
  | .getstatic _ => 3
  | .invokevirtual _ => 3
  | .invokespecial _ => 3
  | .invokestatic _ => 3
  | .new _ => 3
  | .newarray _ => 2
  | .anewarray _ => 3
  | .checkcast _ => 3
  | .instanceof _ => 3
  | .tableswitch _ _ _ offs => 16 - pc % 4 + 4 * offs.size
  | .lookupswitch _ ps => 12 - pc % 4 + 8 * ps.size
  | _ => 1
/-- name, bytes, locals, what it returns, how many arguments lie on the stack, its class's number, its code in rows of sixteen bytes -/
abbrev mt_Q : Type := MethodName × ByteArray × Nat × Option FieldType × Nat × Nat × List (List (Nat × Jvm.ClassFile.Instr))
def mx_goodB (q : mt_Q) : Bool := (q.2.2.2.2.2.2.all fun r => r.all fun z => decide (decode q.2.1 z.1 = .ok (z.2, mx_len z.1 z.2))) && (plainFor q.1 && (decide (q.1.cls ≠ "java/lang/invoke/MethodHandle" ∧ q.1.cls ≠ "java/lang/invoke/VarHandle") && (decide (q.2.2.1 ≤ 12) && decide (mt_ow[q.2.2.2.2.2.1]? = some q.1.cls))))
theorem mx_lookup_mem {l : List (Nat × Jvm.ClassFile.Instr)} {a : Nat} {b : Jvm.ClassFile.Instr} (h : l.lookup a = some b) : (a, b) ∈ l := by
  induction l with
  | nil => simp at h
  | cons x t ih =>
    obtain ⟨x1, x2⟩ := x
    rw [List.lookup_cons] at h
    split at h
    · rename_i he
      have he : a = x1 := by simpa using he
      cases h
      subst he
      exact List.mem_cons_self
    · exact List.mem_cons_of_mem _ (ih h)
theorem mx_in {L ws : List Cond} (ps : List Nat) (h : ws.map some = ps.map (fun i => L[i]?)) : ∀ w ∈ ws, w ∈ L := by
  intro w hw
  have h1 : some w ∈ ws.map some := List.mem_map.mpr ⟨w, hw, rfl⟩
  rw [h] at h1
  obtain ⟨i, -, hi⟩ := List.mem_map.mp h1
  exact List.mem_of_getElem? hi

def mt_xs : List MethodName := [⟨"java/lang/AbstractStringBuilder", "ensureCapacityInternal", "(I)V"⟩, ⟨"java/lang/AbstractStringBuilder", "newCapacity", "(I)I"⟩, ⟨"java/lang/AbstractStringBuilder", "inflate", "()V"⟩, ⟨"java/lang/AbstractStringBuilder", "appendNull", "()Ljava/lang/AbstractStringBuilder;"⟩, ⟨"java/lang/AbstractStringBuilder", "putStringAt", "(ILjava/lang/String;)V"⟩, ⟨"java/lang/AbstractStringBuilder", "inflateIfNeededFor", "(Ljava/lang/String;)V"⟩]
def mt_tbl : List Cond := (mt_xs.map fun y => Cond.selects "java/lang/StringBuilder" y y) ++ lw_tbl
