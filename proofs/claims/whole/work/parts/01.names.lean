def lw_okq (q : MethodName × Nat) : Prop := (q.1.cls ≠ "java/lang/invoke/MethodHandle" ∧ q.1.cls ≠ "java/lang/invoke/VarHandle") ∧ Cond.instantiable q.1.cls q.2 ∈ tables_1 ∧ Cond.privateMethod q.1 ∈ tables_1 ∧ Cond.instanceMethod q.1 ∈ tables_1
theorem lw_p0 : lw_okq (⟨"TaskWeaver", "afterChange", "(I)I"⟩, 4) := ⟨⟨by decide +kernel, by decide +kernel⟩, List.mem_of_getElem? (i := 9) (by decide +kernel), List.mem_of_getElem? (i := 223) (by decide +kernel), List.mem_of_getElem? (i := 224) (by decide +kernel)⟩
theorem lw_p1 : lw_okq (⟨"TaskWeaver$Search", "emptyTree", "()V"⟩, 13) := ⟨⟨by decide +kernel, by decide +kernel⟩, List.mem_of_getElem? (i := 103) (by decide +kernel), List.mem_of_getElem? (i := 231) (by decide +kernel), List.mem_of_getElem? (i := 232) (by decide +kernel)⟩
theorem lw_p2 : lw_okq (⟨"TaskWeaver$CycleFinder", "meets", "(II)Z"⟩, 5) := ⟨⟨by decide +kernel, by decide +kernel⟩, List.mem_of_getElem? (i := 81) (by decide +kernel), List.mem_of_getElem? (i := 312) (by decide +kernel), List.mem_of_getElem? (i := 313) (by decide +kernel)⟩
theorem lw_p3 : lw_okq (⟨"TaskWeaver$CycleFinder", "keepCycle", "(II)V"⟩, 5) := ⟨⟨by decide +kernel, by decide +kernel⟩, List.mem_of_getElem? (i := 81) (by decide +kernel), List.mem_of_getElem? (i := 316) (by decide +kernel), List.mem_of_getElem? (i := 317) (by decide +kernel)⟩
theorem lw_p4 : lw_okq (⟨"TaskWeaver$CycleFinder", "visit", "(II)Z"⟩, 5) := ⟨⟨by decide +kernel, by decide +kernel⟩, List.mem_of_getElem? (i := 81) (by decide +kernel), List.mem_of_getElem? (i := 320) (by decide +kernel), List.mem_of_getElem? (i := 321) (by decide +kernel)⟩
theorem lw_p5 : lw_okq (⟨"TaskWeaver$CycleFinder", "meetsInParts", "(II)Z"⟩, 5) := ⟨⟨by decide +kernel, by decide +kernel⟩, List.mem_of_getElem? (i := 81) (by decide +kernel), List.mem_of_getElem? (i := 328) (by decide +kernel), List.mem_of_getElem? (i := 329) (by decide +kernel)⟩
theorem lw_p6 : lw_okq (⟨"TaskWeaver$Row", "putFirst", "(II)V"⟩, 6) := ⟨⟨by decide +kernel, by decide +kernel⟩, List.mem_of_getElem? (i := 109) (by decide +kernel), List.mem_of_getElem? (i := 375) (by decide +kernel), List.mem_of_getElem? (i := 376) (by decide +kernel)⟩
theorem lw_p7 : lw_okq (⟨"TaskWeaver$Search", "seeWhetherFound", "()V"⟩, 13) := ⟨⟨by decide +kernel, by decide +kernel⟩, List.mem_of_getElem? (i := 103) (by decide +kernel), List.mem_of_getElem? (i := 387) (by decide +kernel), List.mem_of_getElem? (i := 388) (by decide +kernel)⟩
theorem lw_p8 : lw_okq (⟨"TaskWeaver$Search", "tryMethod", "(I)V"⟩, 13) := ⟨⟨by decide +kernel, by decide +kernel⟩, List.mem_of_getElem? (i := 103) (by decide +kernel), List.mem_of_getElem? (i := 392) (by decide +kernel), List.mem_of_getElem? (i := 393) (by decide +kernel)⟩
theorem lw_p9 : lw_okq (⟨"TaskWeaver$Search", "hasMethodBehind", "(I)Z"⟩, 13) := ⟨⟨by decide +kernel, by decide +kernel⟩, List.mem_of_getElem? (i := 103) (by decide +kernel), List.mem_of_getElem? (i := 410) (by decide +kernel), List.mem_of_getElem? (i := 411) (by decide +kernel)⟩
theorem lw_p10 : lw_okq (⟨"TaskWeaver$Search", "fail", "()V"⟩, 13) := ⟨⟨by decide +kernel, by decide +kernel⟩, List.mem_of_getElem? (i := 103) (by decide +kernel), List.mem_of_getElem? (i := 414) (by decide +kernel), List.mem_of_getElem? (i := 415) (by decide +kernel)⟩
theorem lw_p11 : lw_okq (⟨"TaskWeaver$Search", "reopen", "(I)V"⟩, 13) := ⟨⟨by decide +kernel, by decide +kernel⟩, List.mem_of_getElem? (i := 103) (by decide +kernel), List.mem_of_getElem? (i := 418) (by decide +kernel), List.mem_of_getElem? (i := 419) (by decide +kernel)⟩
theorem lw_p12 : lw_okq (⟨"TaskWeaver$Search", "takeTask", "()V"⟩, 13) := ⟨⟨by decide +kernel, by decide +kernel⟩, List.mem_of_getElem? (i := 103) (by decide +kernel), List.mem_of_getElem? (i := 423) (by decide +kernel), List.mem_of_getElem? (i := 424) (by decide +kernel)⟩
theorem lw_p13 : lw_okq (⟨"TaskWeaver$Search", "addNode", "(I)V"⟩, 13) := ⟨⟨by decide +kernel, by decide +kernel⟩, List.mem_of_getElem? (i := 103) (by decide +kernel), List.mem_of_getElem? (i := 431) (by decide +kernel), List.mem_of_getElem? (i := 432) (by decide +kernel)⟩
theorem lw_p14 : lw_okq (⟨"TaskWeaver$Checker", "faultOf", "(II)I"⟩, 5) := ⟨⟨by decide +kernel, by decide +kernel⟩, List.mem_of_getElem? (i := 174) (by decide +kernel), List.mem_of_getElem? (i := 556) (by decide +kernel), List.mem_of_getElem? (i := 557) (by decide +kernel)⟩
theorem lw_p15 : lw_okq (⟨"TaskWeaver$Checker", "take", "(II)V"⟩, 5) := ⟨⟨by decide +kernel, by decide +kernel⟩, List.mem_of_getElem? (i := 174) (by decide +kernel), List.mem_of_getElem? (i := 568) (by decide +kernel), List.mem_of_getElem? (i := 569) (by decide +kernel)⟩
def lw_privs_1 : List (MethodName × Nat) := [(⟨"TaskWeaver", "afterChange", "(I)I"⟩, 4), (⟨"TaskWeaver$Search", "emptyTree", "()V"⟩, 13), (⟨"TaskWeaver$CycleFinder", "meets", "(II)Z"⟩, 5), (⟨"TaskWeaver$CycleFinder", "keepCycle", "(II)V"⟩, 5), (⟨"TaskWeaver$CycleFinder", "visit", "(II)Z"⟩, 5), (⟨"TaskWeaver$CycleFinder", "meetsInParts", "(II)Z"⟩, 5), (⟨"TaskWeaver$Row", "putFirst", "(II)V"⟩, 6), (⟨"TaskWeaver$Search", "seeWhetherFound", "()V"⟩, 13), (⟨"TaskWeaver$Search", "tryMethod", "(I)V"⟩, 13), (⟨"TaskWeaver$Search", "hasMethodBehind", "(I)Z"⟩, 13), (⟨"TaskWeaver$Search", "fail", "()V"⟩, 13), (⟨"TaskWeaver$Search", "reopen", "(I)V"⟩, 13), (⟨"TaskWeaver$Search", "takeTask", "()V"⟩, 13), (⟨"TaskWeaver$Search", "addNode", "(I)V"⟩, 13), (⟨"TaskWeaver$Checker", "faultOf", "(II)I"⟩, 5), (⟨"TaskWeaver$Checker", "take", "(II)V"⟩, 5)]
theorem lw_r1 : ∀ q ∈ lw_privs_1, lw_okq q := List.forall_mem_cons.mpr ⟨lw_p0, List.forall_mem_cons.mpr ⟨lw_p1, List.forall_mem_cons.mpr ⟨lw_p2, List.forall_mem_cons.mpr ⟨lw_p3, List.forall_mem_cons.mpr ⟨lw_p4, List.forall_mem_cons.mpr ⟨lw_p5, List.forall_mem_cons.mpr ⟨lw_p6, List.forall_mem_cons.mpr ⟨lw_p7, List.forall_mem_cons.mpr ⟨lw_p8, List.forall_mem_cons.mpr ⟨lw_p9, List.forall_mem_cons.mpr ⟨lw_p10, List.forall_mem_cons.mpr ⟨lw_p11, List.forall_mem_cons.mpr ⟨lw_p12, List.forall_mem_cons.mpr ⟨lw_p13, List.forall_mem_cons.mpr ⟨lw_p14, List.forall_mem_cons.mpr ⟨lw_p15, fun _ h => absurd h List.not_mem_nil⟩⟩⟩⟩⟩⟩⟩⟩⟩⟩⟩⟩⟩⟩⟩⟩
theorem lw_p16 : lw_okq (⟨"TaskWeaverModel", "changed", "()V"⟩, 47) := ⟨⟨by decide +kernel, by decide +kernel⟩, List.mem_of_getElem? (i := 579) (by decide +kernel), List.mem_of_getElem? (i := 736) (by decide +kernel), List.mem_of_getElem? (i := 737) (by decide +kernel)⟩
theorem lw_p17 : lw_okq (⟨"TaskWeaverModel", "isCompound", "(I)Z"⟩, 47) := ⟨⟨by decide +kernel, by decide +kernel⟩, List.mem_of_getElem? (i := 579) (by decide +kernel), List.mem_of_getElem? (i := 748) (by decide +kernel), List.mem_of_getElem? (i := 749) (by decide +kernel)⟩
theorem lw_p18 : lw_okq (⟨"TaskWeaverModel", "isTask", "(I)Z"⟩, 47) := ⟨⟨by decide +kernel, by decide +kernel⟩, List.mem_of_getElem? (i := 579) (by decide +kernel), List.mem_of_getElem? (i := 756) (by decide +kernel), List.mem_of_getElem? (i := 757) (by decide +kernel)⟩
theorem lw_p19 : lw_okq (⟨"TaskWeaverModel", "isPrimitive", "(I)Z"⟩, 47) := ⟨⟨by decide +kernel, by decide +kernel⟩, List.mem_of_getElem? (i := 579) (by decide +kernel), List.mem_of_getElem? (i := 760) (by decide +kernel), List.mem_of_getElem? (i := 761) (by decide +kernel)⟩
theorem lw_p20 : lw_okq (⟨"TaskWeaverModel", "hasCycle", "()Z"⟩, 47) := ⟨⟨by decide +kernel, by decide +kernel⟩, List.mem_of_getElem? (i := 579) (by decide +kernel), List.mem_of_getElem? (i := 780) (by decide +kernel), List.mem_of_getElem? (i := 781) (by decide +kernel)⟩
theorem lw_p21 : lw_okq (⟨"TaskWeaverModel", "visit", "(I)V"⟩, 47) := ⟨⟨by decide +kernel, by decide +kernel⟩, List.mem_of_getElem? (i := 579) (by decide +kernel), List.mem_of_getElem? (i := 784) (by decide +kernel), List.mem_of_getElem? (i := 785) (by decide +kernel)⟩
theorem lw_p22 : lw_okq (⟨"TaskWeaverModel", "visitOn", "()Z"⟩, 47) := ⟨⟨by decide +kernel, by decide +kernel⟩, List.mem_of_getElem? (i := 579) (by decide +kernel), List.mem_of_getElem? (i := 788) (by decide +kernel), List.mem_of_getElem? (i := 789) (by decide +kernel)⟩
theorem lw_p23 : lw_okq (⟨"TaskWeaverModel", "begin", "()V"⟩, 47) := ⟨⟨by decide +kernel, by decide +kernel⟩, List.mem_of_getElem? (i := 579) (by decide +kernel), List.mem_of_getElem? (i := 799) (by decide +kernel), List.mem_of_getElem? (i := 800) (by decide +kernel)⟩
theorem lw_p24 : lw_okq (⟨"TaskWeaverModel", "before", "(IIII)I"⟩, 47) := ⟨⟨by decide +kernel, by decide +kernel⟩, List.mem_of_getElem? (i := 579) (by decide +kernel), List.mem_of_getElem? (i := 803) (by decide +kernel), List.mem_of_getElem? (i := 804) (by decide +kernel)⟩
theorem lw_p25 : lw_okq (⟨"TaskWeaverModel", "run", "(I)I"⟩, 47) := ⟨⟨by decide +kernel, by decide +kernel⟩, List.mem_of_getElem? (i := 579) (by decide +kernel), List.mem_of_getElem? (i := 807) (by decide +kernel), List.mem_of_getElem? (i := 808) (by decide +kernel)⟩
theorem lw_p26 : lw_okq (⟨"TaskWeaverModel", "isFound", "()Z"⟩, 47) := ⟨⟨by decide +kernel, by decide +kernel⟩, List.mem_of_getElem? (i := 579) (by decide +kernel), List.mem_of_getElem? (i := 811) (by decide +kernel), List.mem_of_getElem? (i := 812) (by decide +kernel)⟩
theorem lw_p27 : lw_okq (⟨"TaskWeaverModel", "tryMethod", "()V"⟩, 47) := ⟨⟨by decide +kernel, by decide +kernel⟩, List.mem_of_getElem? (i := 579) (by decide +kernel), List.mem_of_getElem? (i := 815) (by decide +kernel), List.mem_of_getElem? (i := 816) (by decide +kernel)⟩
theorem lw_p28 : lw_okq (⟨"TaskWeaverModel", "fail", "()V"⟩, 47) := ⟨⟨by decide +kernel, by decide +kernel⟩, List.mem_of_getElem? (i := 579) (by decide +kernel), List.mem_of_getElem? (i := 822) (by decide +kernel), List.mem_of_getElem? (i := 823) (by decide +kernel)⟩
theorem lw_p29 : lw_okq (⟨"TaskWeaverModel", "take", "()V"⟩, 47) := ⟨⟨by decide +kernel, by decide +kernel⟩, List.mem_of_getElem? (i := 579) (by decide +kernel), List.mem_of_getElem? (i := 826) (by decide +kernel), List.mem_of_getElem? (i := 827) (by decide +kernel)⟩
def lw_privs_2 : List (MethodName × Nat) := [(⟨"TaskWeaverModel", "changed", "()V"⟩, 47), (⟨"TaskWeaverModel", "isCompound", "(I)Z"⟩, 47), (⟨"TaskWeaverModel", "isTask", "(I)Z"⟩, 47), (⟨"TaskWeaverModel", "isPrimitive", "(I)Z"⟩, 47), (⟨"TaskWeaverModel", "hasCycle", "()Z"⟩, 47), (⟨"TaskWeaverModel", "visit", "(I)V"⟩, 47), (⟨"TaskWeaverModel", "visitOn", "()Z"⟩, 47), (⟨"TaskWeaverModel", "begin", "()V"⟩, 47), (⟨"TaskWeaverModel", "before", "(IIII)I"⟩, 47), (⟨"TaskWeaverModel", "run", "(I)I"⟩, 47), (⟨"TaskWeaverModel", "isFound", "()Z"⟩, 47), (⟨"TaskWeaverModel", "tryMethod", "()V"⟩, 47), (⟨"TaskWeaverModel", "fail", "()V"⟩, 47), (⟨"TaskWeaverModel", "take", "()V"⟩, 47)]
theorem lw_r2 : ∀ q ∈ lw_privs_2, lw_okq q := List.forall_mem_cons.mpr ⟨lw_p16, List.forall_mem_cons.mpr ⟨lw_p17, List.forall_mem_cons.mpr ⟨lw_p18, List.forall_mem_cons.mpr ⟨lw_p19, List.forall_mem_cons.mpr ⟨lw_p20, List.forall_mem_cons.mpr ⟨lw_p21, List.forall_mem_cons.mpr ⟨lw_p22, List.forall_mem_cons.mpr ⟨lw_p23, List.forall_mem_cons.mpr ⟨lw_p24, List.forall_mem_cons.mpr ⟨lw_p25, List.forall_mem_cons.mpr ⟨lw_p26, List.forall_mem_cons.mpr ⟨lw_p27, List.forall_mem_cons.mpr ⟨lw_p28, List.forall_mem_cons.mpr ⟨lw_p29, fun _ h => absurd h List.not_mem_nil⟩⟩⟩⟩⟩⟩⟩⟩⟩⟩⟩⟩⟩⟩
def lw_privs : List (MethodName × Nat) := lw_privs_1 ++ (lw_privs_2)
def lw_tbl : List Cond := k2_sels lw_privs ++ tables_1
theorem lw_privs_ok : ∀ q ∈ lw_privs, lw_okq q := by
  show ∀ q ∈ lw_privs_1 ++ (lw_privs_2), lw_okq q
  exact List.forall_mem_append.mpr ⟨lw_r1, lw_r2⟩
def R_CK : String := "TaskWeaver$Checker"
def F_CK : u_T := fun k => match k with
  | 0 => ("TaskWeaver$Checker", "domain", "LTaskWeaver$Domain;", true)
  | 1 => ("TaskWeaver$Checker", "row", "LTaskWeaver$Row;", true)
  | 2 => ("TaskWeaver$Checker", "facts", "I", false)
  | 3 => ("TaskWeaver$Checker", "takenCount", "I", false)
  | _ => ("TaskWeaver$Checker", "begun", "Z", false)
def t_CK : Nat → FieldType := fun k => match k with
  | 0 => .object "TaskWeaver$Domain"
  | 1 => .object "TaskWeaver$Row"
  | 2 => .int
  | 3 => .int
  | _ => .boolean
def R_CF : String := "TaskWeaver$CycleFinder"
def F_CF : u_T := fun k => match k with
  | 0 => ("TaskWeaver$CycleFinder", "domain", "LTaskWeaver$Domain;", true)
  | 1 => ("TaskWeaver$CycleFinder", "marks", "[I", true)
  | 2 => ("TaskWeaver$CycleFinder", "path", "[I", true)
  | 3 => ("TaskWeaver$CycleFinder", "cycleFrom", "I", false)
  | _ => ("TaskWeaver$CycleFinder", "cycleTo", "I", false)
def t_CF : Nat → FieldType := fun k => match k with
  | 0 => .object "TaskWeaver$Domain"
  | 1 => .array .int
  | 2 => .array .int
  | 3 => .int
  | _ => .int
def R_DM : String := "TaskWeaver$Domain"
def F_DM : u_T := fun k => match k with
  | 0 => ("TaskWeaver$Domain", "primitiveNeeds", "[I", true)
  | 1 => ("TaskWeaver$Domain", "primitiveLacks", "[I", true)
  | 2 => ("TaskWeaver$Domain", "primitiveAdds", "[I", true)
  | 3 => ("TaskWeaver$Domain", "primitiveDrops", "[I", true)
  | 4 => ("TaskWeaver$Domain", "primitiveCosts", "[I", true)
  | 5 => ("TaskWeaver$Domain", "primitiveCount", "I", false)
  | 6 => ("TaskWeaver$Domain", "methodsOfCompound", "[[I", true)
  | 7 => ("TaskWeaver$Domain", "methodCounts", "[I", true)
  | 8 => ("TaskWeaver$Domain", "compoundCount", "I", false)
  | 9 => ("TaskWeaver$Domain", "methodTasks", "[I", true)
  | 10 => ("TaskWeaver$Domain", "methodNeeds", "[I", true)
  | 11 => ("TaskWeaver$Domain", "methodLacks", "[I", true)
  | 12 => ("TaskWeaver$Domain", "methodParts", "[[I", true)
  | 13 => ("TaskWeaver$Domain", "partCounts", "[I", true)
  | 14 => ("TaskWeaver$Domain", "methodCount", "I", false)
  | 15 => ("TaskWeaver$Domain", "aims", "[I", true)
  | 16 => ("TaskWeaver$Domain", "aimCount", "I", false)
  | _ => ("TaskWeaver$Domain", "startFacts", "I", false)
def t_DM : Nat → FieldType := fun k => match k with
  | 0 => .array .int
  | 1 => .array .int
  | 2 => .array .int
  | 3 => .array .int
  | 4 => .array .int
  | 5 => .int
  | 6 => .array (.array .int)
  | 7 => .array .int
  | 8 => .int
  | 9 => .array .int
  | 10 => .array .int
  | 11 => .array .int
  | 12 => .array (.array .int)
  | 13 => .array .int
  | 14 => .int
  | 15 => .array .int
  | 16 => .int
  | _ => .int
def R_RW : String := "TaskWeaver$Row"
def F_RW : u_T := fun k => match k with
  | 0 => ("TaskWeaver$Row", "tasks", "[I", true)
  | 1 => ("TaskWeaver$Row", "parents", "[I", true)
  | 2 => ("TaskWeaver$Row", "nextCells", "[I", true)
  | 3 => ("TaskWeaver$Row", "lengths", "[I", true)
  | 4 => ("TaskWeaver$Row", "firstCell", "I", false)
  | _ => ("TaskWeaver$Row", "cellCount", "I", false)
def t_RW : Nat → FieldType := fun k => match k with
  | 0 => .array .int
  | 1 => .array .int
  | 2 => .array .int
  | 3 => .array .int
  | 4 => .int
  | _ => .int
def R_SE : String := "TaskWeaver$Search"
def F_SE : u_T := fun k => match k with
  | 0 => ("TaskWeaver$Search", "domain", "LTaskWeaver$Domain;", true)
  | 1 => ("TaskWeaver$Search", "row", "LTaskWeaver$Row;", true)
  | 2 => ("TaskWeaver$Search", "tasks", "[I", true)
  | 3 => ("TaskWeaver$Search", "parents", "[I", true)
  | 4 => ("TaskWeaver$Search", "methodPlaces", "[I", true)
  | 5 => ("TaskWeaver$Search", "firstCellsBehind", "[I", true)
  | 6 => ("TaskWeaver$Search", "cellCountsBefore", "[I", true)
  | 7 => ("TaskWeaver$Search", "factsBefore", "[I", true)
  | 8 => ("TaskWeaver$Search", "nodeCount", "I", false)
  | 9 => ("TaskWeaver$Search", "lastIsOpen", "Z", false)
  | 10 => ("TaskWeaver$Search", "facts", "I", false)
  | 11 => ("TaskWeaver$Search", "stepCount", "I", false)
  | _ => ("TaskWeaver$Search", "state", "I", false)
def t_SE : Nat → FieldType := fun k => match k with
  | 0 => .object "TaskWeaver$Domain"
  | 1 => .object "TaskWeaver$Row"
  | 2 => .array .int
  | 3 => .array .int
  | 4 => .array .int
  | 5 => .array .int
  | 6 => .array .int
  | 7 => .array .int
  | 8 => .int
  | 9 => .boolean
  | 10 => .int
  | 11 => .int
  | _ => .int
def R_TW : String := "TaskWeaver"
def F_TW : u_T := fun k => match k with
  | 0 => ("TaskWeaver", "domain", "LTaskWeaver$Domain;", true)
  | 1 => ("TaskWeaver", "cycleFinder", "LTaskWeaver$CycleFinder;", true)
  | 2 => ("TaskWeaver", "search", "LTaskWeaver$Search;", true)
  | _ => ("TaskWeaver", "checker", "LTaskWeaver$Checker;", true)
def t_TW : Nat → FieldType := fun k => match k with
  | 0 => .object "TaskWeaver$Domain"
  | 1 => .object "TaskWeaver$CycleFinder"
  | 2 => .object "TaskWeaver$Search"
  | _ => .object "TaskWeaver$Checker"
def R_MD : String := "TaskWeaverModel"
def F_MD : u_T := fun k => match k with
  | 0 => ("TaskWeaverModel", "primitives", "I", false)
  | 1 => ("TaskWeaverModel", "needs", "[I", true)
  | 2 => ("TaskWeaverModel", "lacks", "[I", true)
  | 3 => ("TaskWeaverModel", "adds", "[I", true)
  | 4 => ("TaskWeaverModel", "drops", "[I", true)
  | 5 => ("TaskWeaverModel", "costs", "[I", true)
  | 6 => ("TaskWeaverModel", "compounds", "I", false)
  | 7 => ("TaskWeaverModel", "many", "[I", true)
  | 8 => ("TaskWeaverModel", "own", "[I", true)
  | 9 => ("TaskWeaverModel", "methods", "I", false)
  | 10 => ("TaskWeaverModel", "owner", "[I", true)
  | 11 => ("TaskWeaverModel", "methodNeeds", "[I", true)
  | 12 => ("TaskWeaverModel", "methodLacks", "[I", true)
  | 13 => ("TaskWeaverModel", "partMany", "[I", true)
  | 14 => ("TaskWeaverModel", "parts", "[I", true)
  | 15 => ("TaskWeaverModel", "facts0", "I", false)
  | 16 => ("TaskWeaverModel", "aims", "I", false)
  | 17 => ("TaskWeaverModel", "aim", "[I", true)
  | 18 => ("TaskWeaverModel", "cellTask", "[I", true)
  | 19 => ("TaskWeaverModel", "cellParent", "[I", true)
  | 20 => ("TaskWeaverModel", "cellNext", "[I", true)
  | 21 => ("TaskWeaverModel", "searches", "Z", false)
  | 22 => ("TaskWeaverModel", "over", "Z", false)
  | 23 => ("TaskWeaverModel", "isOpen", "Z", false)
  | 24 => ("TaskWeaverModel", "steps", "I", false)
  | 25 => ("TaskWeaverModel", "facts", "I", false)
  | 26 => ("TaskWeaverModel", "head", "I", false)
  | 27 => ("TaskWeaverModel", "cells", "I", false)
  | 28 => ("TaskWeaverModel", "nodes", "I", false)
  | 29 => ("TaskWeaverModel", "nodeTask", "[I", true)
  | 30 => ("TaskWeaverModel", "nodeParent", "[I", true)
  | 31 => ("TaskWeaverModel", "nodeAt", "[I", true)
  | 32 => ("TaskWeaverModel", "nodeKept", "[Z", true)
  | 33 => ("TaskWeaverModel", "nodeFacts", "[I", true)
  | 34 => ("TaskWeaverModel", "nodeHead", "[I", true)
  | 35 => ("TaskWeaverModel", "nodeCells", "[I", true)
  | 36 => ("TaskWeaverModel", "checks", "Z", false)
  | 37 => ("TaskWeaverModel", "checkFacts", "I", false)
  | 38 => ("TaskWeaverModel", "checkHead", "I", false)
  | 39 => ("TaskWeaverModel", "checkCells", "I", false)
  | 40 => ("TaskWeaverModel", "taken", "I", false)
  | 41 => ("TaskWeaverModel", "going", "I", false)
  | 42 => ("TaskWeaverModel", "goes", "[I", true)
  | 43 => ("TaskWeaverModel", "goesMethod", "[I", true)
  | 44 => ("TaskWeaverModel", "goesPart", "[I", true)
  | 45 => ("TaskWeaverModel", "visited", "[I", true)
  | _ => ("TaskWeaverModel", "cycleFrom", "I", false)
def t_MD : Nat → FieldType := fun k => match k with
  | 0 => .int
  | 1 => .array .int
  | 2 => .array .int
  | 3 => .array .int
  | 4 => .array .int
  | 5 => .array .int
  | 6 => .int
  | 7 => .array .int
  | 8 => .array .int
  | 9 => .int
  | 10 => .array .int
  | 11 => .array .int
  | 12 => .array .int
  | 13 => .array .int
  | 14 => .array .int
  | 15 => .int
  | 16 => .int
  | 17 => .array .int
  | 18 => .array .int
  | 19 => .array .int
  | 20 => .array .int
  | 21 => .boolean
  | 22 => .boolean
  | 23 => .boolean
  | 24 => .int
  | 25 => .int
  | 26 => .int
  | 27 => .int
  | 28 => .int
  | 29 => .array .int
  | 30 => .array .int
  | 31 => .array .int
  | 32 => .array .boolean
  | 33 => .array .int
  | 34 => .array .int
  | 35 => .array .int
  | 36 => .boolean
  | 37 => .int
  | 38 => .int
  | 39 => .int
  | 40 => .int
  | 41 => .int
  | 42 => .array .int
  | 43 => .array .int
  | 44 => .array .int
  | 45 => .array .int
  | _ => .int
abbrev tw_cl : List vw_C := [(R_CK, F_CK, 5), (R_CF, F_CF, 5), (R_DM, F_DM, 18), (R_RW, F_RW, 6), (R_SE, F_SE, 13), (R_TW, F_TW, 4), (R_MD, F_MD, 47)]
abbrev tw_Y : Type := (Nat × List (Option Nat)) ⊕ (Nat × Nat × Nat)
def tw_lays : List tw_Y := [.inl (5, [some 1, some 67, some 70, some 82]), .inl (2, [some 2, some 3, some 4, some 5, some 6, none, some 7, some 20, none, some 21, some 22, some 23, some 24, some 65, none, some 66, none, none]), .inr (0, 12, 0), .inr (0, 12, 0), .inr (0, 12, 0), .inr (0, 12, 0), .inr (0, 12, 0), .inr (2, 12, 8), .inr (0, 5, 0), .inr (0, 5, 0), .inr (0, 5, 0), .inr (0, 5, 0), .inr (0, 5, 0), .inr (0, 5, 0), .inr (0, 5, 0), .inr (0, 5, 0), .inr (0, 5, 0), .inr (0, 5, 0), .inr (0, 5, 0), .inr (0, 5, 0), .inr (0, 12, 0), .inr (0, 40, 0), .inr (0, 40, 0), .inr (0, 40, 0), .inr (2, 40, 25), .inr (0, 5, 0), .inr (0, 5, 0), .inr (0, 5, 0), .inr (0, 5, 0), .inr (0, 5, 0), .inr (0, 5, 0), .inr (0, 5, 0), .inr (0, 5, 0), .inr (0, 5, 0), .inr (0, 5, 0), .inr (0, 5, 0), .inr (0, 5, 0), .inr (0, 5, 0), .inr (0, 5, 0), .inr (0, 5, 0), .inr (0, 5, 0), .inr (0, 5, 0), .inr (0, 5, 0), .inr (0, 5, 0), .inr (0, 5, 0), .inr (0, 5, 0), .inr (0, 5, 0), .inr (0, 5, 0), .inr (0, 5, 0), .inr (0, 5, 0), .inr (0, 5, 0), .inr (0, 5, 0), .inr (0, 5, 0), .inr (0, 5, 0), .inr (0, 5, 0), .inr (0, 5, 0), .inr (0, 5, 0), .inr (0, 5, 0), .inr (0, 5, 0), .inr (0, 5, 0), .inr (0, 5, 0), .inr (0, 5, 0), .inr (0, 5, 0), .inr (0, 5, 0), .inr (0, 5, 0), .inr (0, 40, 0), .inr (0, 6, 0), .inl (1, [some 1, some 68, some 69, none, none]), .inr (0, 12, 0), .inr (0, 12, 0), .inl (4, [some 1, some 71, some 76, some 77, some 78, some 79, some 80, some 81, none, none, none, none, none]), .inl (3, [some 72, some 73, some 74, some 75, none, none]), .inr (0, 246, 0), .inr (0, 246, 0), .inr (0, 246, 0), .inr (0, 246, 0), .inr (0, 48, 0), .inr (0, 48, 0), .inr (0, 48, 0), .inr (0, 48, 0), .inr (0, 48, 0), .inr (0, 48, 0), .inl (0, [some 1, some 83, none, none, none]), .inl (3, [some 84, some 85, some 86, some 87, none, none]), .inr (0, 246, 0), .inr (0, 246, 0), .inr (0, 246, 0), .inr (0, 246, 0), .inl (6, [none, some 89, some 90, some 91, some 92, some 93, none, some 94, some 95, none, some 96, some 97, some 98, some 99, some 100, none, none, some 101, some 102, some 103, some 104, none, none, none, none, none, none, none, none, some 105, some 106, some 107, some 108, some 109, some 110, some 111, none, none, none, none, none, none, some 112, some 113, some 114, some 115, none]), .inr (0, 12, 0), .inr (0, 12, 0), .inr (0, 12, 0), .inr (0, 12, 0), .inr (0, 12, 0), .inr (0, 12, 0), .inr (0, 60, 0), .inr (0, 40, 0), .inr (0, 40, 0), .inr (0, 40, 0), .inr (0, 40, 0), .inr (0, 200, 0), .inr (0, 6, 0), .inr (0, 500, 0), .inr (0, 500, 0), .inr (0, 500, 0), .inr (0, 48, 0), .inr (0, 48, 0), .inr (0, 48, 0), .inr (1, 48, 0), .inr (0, 48, 0), .inr (0, 48, 0), .inr (0, 48, 0), .inr (0, 12, 0), .inr (0, 12, 0), .inr (0, 12, 0), .inr (0, 12, 0)]
abbrev tw_NC : Nat := 116
def tw_lay (q : Nat) : tw_Y := tw_lays.getD q (.inr (7, 0, 0))
theorem tw_lay_lt {q : Nat} {y : tw_Y} (h : tw_lay q = y) (hn : y ≠ .inr (7, 0, 0)) : q < tw_NC := by
  apply Nat.lt_of_not_le
  intro hq
  apply hn
  rw [← h]
  unfold tw_lay
  rw [List.getD_eq_getElem?_getD, List.getElem?_eq_none (by simpa [tw_lays] using hq)]
  rfl
theorem tw_lay_r8 {i : Nat} (h : i < 12) : tw_lay (8 + i) = .inr (0, 5, 0) := by
  have h2 : ∀ i, i < 12 → tw_lay (8 + i) = .inr (0, 5, 0) := by decide +kernel
  exact h2 i h
theorem tw_lay_r25 {i : Nat} (h : i < 40) : tw_lay (25 + i) = .inr (0, 5, 0) := by
  have h2 : ∀ i, i < 40 → tw_lay (25 + i) = .inr (0, 5, 0) := by decide +kernel
  exact h2 i h
