def mt_AC : List (Nat × Nat) := [(16, 150), (6, 112), (9, 212)]
def mt_GC : List (Nat × Nat) := [(16, 86)]
def mt_KM : List (Nat × Nat) := [(16, 110)]
def mt_gcn : MethodName := ⟨"java/lang/Object", "getClass", "()Ljava/lang/Class;"⟩
theorem mt_ncp : ∀ w ∈ mt_AC.map (fun q => Cond.methodLink (mt_ow.getD q.1 "") q.2 arraycopyName) ++ ([.native arraycopyName, .static arraycopyName, .initialized "java/lang/System"] : List Cond), w ∈ mt_tbl := mx_in [525, 1236, 1370, 527, 526, 148] (by decide +kernel)
theorem mt_gcw : ∀ w ∈ mt_GC.map (fun q => Cond.methodLink (mt_ow.getD q.1 "") q.2 mt_gcn) ++ ([.selects "[Ljava/lang/Object;" mt_gcn mt_gcn, .instanceMethod mt_gcn, .native mt_gcn] : List Cond), w ∈ mt_tbl := mx_in [891, 2009, 892, 906] (by decide +kernel)
theorem mt_dcw : ∀ w ∈ ([.declares mt_gcn] : List Cond), w ∈ mt_tbl := mx_in [2010] (by decide +kernel)
theorem mt_kmw : ∀ w ∈ mt_KM.map (fun q => Cond.classLink (mt_ow.getD q.1 "") q.2 "[Ljava/lang/Object;"), w ∈ mt_tbl := mx_in [910] (by decide +kernel)
